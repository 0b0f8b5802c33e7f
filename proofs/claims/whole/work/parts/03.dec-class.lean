theorem dX0_init_0 : fet cX0_init 0 = some (.aload_n 0) := by decide +kernel
theorem dX0_init_1 : fet cX0_init 1 = some (.invokespecial 3) := by decide +kernel
theorem dX0_init_4 : fet cX0_init 4 = some (.aload_n 0) := by decide +kernel
theorem dX0_init_5 : fet cX0_init 5 = some (.new 9) := by decide +kernel
theorem dX0_init_8 : fet cX0_init 8 = some (.dup) := by decide +kernel
theorem dX0_init_9 : fet cX0_init 9 = some (.invokespecial 11) := by decide +kernel
theorem dX0_init_12 : fet cX0_init 12 = some (.putfield 12) := by decide +kernel
theorem dX0_init_15 : fet cX0_init 15 = some (.aload_n 0) := by decide +kernel
theorem dX0_init_16 : fet cX0_init 16 = some (.new 18) := by decide +kernel
theorem dX0_init_19 : fet cX0_init 19 = some (.dup) := by decide +kernel
theorem dX0_init_20 : fet cX0_init 20 = some (.invokespecial 20) := by decide +kernel
theorem dX0_init_23 : fet cX0_init 23 = some (.putfield 21) := by decide +kernel
theorem dX0_init_26 : fet cX0_init 26 = some (.aload_n 0) := by decide +kernel
theorem dX0_init_27 : fet cX0_init 27 = some (.bipush 9) := by decide +kernel
theorem dX0_init_29 : fet cX0_init 29 = some (.newarray .int) := by decide +kernel
theorem dX0_init_31 : fet cX0_init 31 = some (.putfield 25) := by decide +kernel
theorem dX0_init_34 : fet cX0_init 34 = some (.aload_n 0) := by decide +kernel
theorem dX0_init_35 : fet cX0_init 35 = some (.bipush 9) := by decide +kernel
theorem dX0_init_37 : fet cX0_init 37 = some (.newarray .int) := by decide +kernel
theorem dX0_init_39 : fet cX0_init 39 = some (.putfield 29) := by decide +kernel
theorem dX0_init_42 : fet cX0_init 42 = some (.return_) := by decide +kernel
theorem dX0_begin_0 : fet cX0_begin 0 = some (.aload_n 0) := by decide +kernel
theorem dX0_begin_1 : fet cX0_begin 1 = some (.aload_n 1) := by decide +kernel
theorem dX0_begin_2 : fet cX0_begin 2 = some (.putfield 21) := by decide +kernel
theorem dX0_begin_5 : fet cX0_begin 5 = some (.aload_n 0) := by decide +kernel
theorem dX0_begin_6 : fet cX0_begin 6 = some (.getfield 12) := by decide +kernel
theorem dX0_begin_9 : fet cX0_begin 9 = some (.aload_n 2) := by decide +kernel
theorem dX0_begin_10 : fet cX0_begin 10 = some (.invokevirtual 32) := by decide +kernel
theorem dX0_begin_13 : fet cX0_begin 13 = some (.aload_n 0) := by decide +kernel
theorem dX0_begin_14 : fet cX0_begin 14 = some (.aload_n 1) := by decide +kernel
theorem dX0_begin_15 : fet cX0_begin 15 = some (.getfield 36) := by decide +kernel
theorem dX0_begin_18 : fet cX0_begin 18 = some (.putfield 40) := by decide +kernel
theorem dX0_begin_21 : fet cX0_begin 21 = some (.aload_n 0) := by decide +kernel
theorem dX0_begin_22 : fet cX0_begin 22 = some (.aload_n 1) := by decide +kernel
theorem dX0_begin_23 : fet cX0_begin 23 = some (.getfield 41) := by decide +kernel
theorem dX0_begin_26 : fet cX0_begin 26 = some (.putfield 44) := by decide +kernel
theorem dX0_begin_29 : fet cX0_begin 29 = some (.aload_n 0) := by decide +kernel
theorem dX0_begin_30 : fet cX0_begin 30 = some (.iconst 0) := by decide +kernel
theorem dX0_begin_31 : fet cX0_begin 31 = some (.putfield 45) := by decide +kernel
theorem dX0_begin_34 : fet cX0_begin 34 = some (.aload_n 0) := by decide +kernel
theorem dX0_begin_35 : fet cX0_begin 35 = some (.bipush (-4)) := by decide +kernel
theorem dX0_begin_37 : fet cX0_begin 37 = some (.putfield 48) := by decide +kernel
theorem dX0_begin_40 : fet cX0_begin 40 = some (.aload_n 0) := by decide +kernel
theorem dX0_begin_41 : fet cX0_begin 41 = some (.iconst 0) := by decide +kernel
theorem dX0_begin_42 : fet cX0_begin 42 = some (.putfield 51) := by decide +kernel
theorem dX0_begin_45 : fet cX0_begin 45 = some (.aload_n 0) := by decide +kernel
theorem dX0_begin_46 : fet cX0_begin 46 = some (.iconst 0) := by decide +kernel
theorem dX0_begin_47 : fet cX0_begin 47 = some (.putfield 54) := by decide +kernel
theorem dX0_begin_50 : fet cX0_begin 50 = some (.aload_n 0) := by decide +kernel
theorem dX0_begin_51 : fet cX0_begin 51 = some (.iconst 0) := by decide +kernel
theorem dX0_begin_52 : fet cX0_begin 52 = some (.putfield 57) := by decide +kernel
theorem dX0_begin_55 : fet cX0_begin 55 = some (.aload_n 0) := by decide +kernel
theorem dX0_begin_56 : fet cX0_begin 56 = some (.iconst 0) := by decide +kernel
theorem dX0_begin_57 : fet cX0_begin 57 = some (.putfield 60) := by decide +kernel
theorem dX0_begin_60 : fet cX0_begin 60 = some (.aload_n 0) := by decide +kernel
theorem dX0_begin_61 : fet cX0_begin 61 = some (.iconst 0) := by decide +kernel
theorem dX0_begin_62 : fet cX0_begin 62 = some (.putfield 63) := by decide +kernel
theorem dX0_begin_65 : fet cX0_begin 65 = some (.return_) := by decide +kernel
theorem dX0_look_0 : fet cX0_look 0 = some (.iconst 0) := by decide +kernel
theorem dX0_look_1 : fet cX0_look 1 = some (.istore_n 2) := by decide +kernel
theorem dX0_look_2 : fet cX0_look 2 = some (.iload_n 2) := by decide +kernel
theorem dX0_look_3 : fet cX0_look 3 = some (.aload_n 0) := by decide +kernel
theorem dX0_look_4 : fet cX0_look 4 = some (.getfield 21) := by decide +kernel
theorem dX0_look_7 : fet cX0_look 7 = some (.getfield 66) := by decide +kernel
theorem dX0_look_10 : fet cX0_look 10 = some (.if_icmp .ge 78) := by decide +kernel
theorem dX0_look_13 : fet cX0_look 13 = some (.iload_n 2) := by decide +kernel
theorem dX0_look_14 : fet cX0_look 14 = some (.iload_n 1) := by decide +kernel
theorem dX0_look_15 : fet cX0_look 15 = some (.aload_n 0) := by decide +kernel
theorem dX0_look_16 : fet cX0_look 16 = some (.getfield 40) := by decide +kernel
theorem dX0_look_19 : fet cX0_look 19 = some (.isub) := by decide +kernel
theorem dX0_look_20 : fet cX0_look 20 = some (.invokestatic 69) := by decide +kernel
theorem dX0_look_23 : fet cX0_look 23 = some (.istore_n 3) := by decide +kernel
theorem dX0_look_24 : fet cX0_look 24 = some (.aload_n 0) := by decide +kernel
theorem dX0_look_25 : fet cX0_look 25 = some (.getfield 44) := by decide +kernel
theorem dX0_look_28 : fet cX0_look 28 = some (.iload_n 2) := by decide +kernel
theorem dX0_look_29 : fet cX0_look 29 = some (.ishr) := by decide +kernel
theorem dX0_look_30 : fet cX0_look 30 = some (.iconst 1) := by decide +kernel
theorem dX0_look_31 : fet cX0_look 31 = some (.iand) := by decide +kernel
theorem dX0_look_32 : fet cX0_look 32 = some (.ifCond .eq 7) := by decide +kernel
theorem dX0_look_35 : fet cX0_look 35 = some (.iconst 5) := by decide +kernel
theorem dX0_look_36 : fet cX0_look 36 = some (.goto 4) := by decide +kernel
theorem dX0_look_39 : fet cX0_look 39 = some (.iconst 0) := by decide +kernel
theorem dX0_look_40 : fet cX0_look 40 = some (.istore 4) := by decide +kernel
theorem dX0_look_42 : fet cX0_look 42 = some (.aload_n 0) := by decide +kernel
theorem dX0_look_43 : fet cX0_look 43 = some (.getfield 25) := by decide +kernel
theorem dX0_look_46 : fet cX0_look 46 = some (.iload_n 2) := by decide +kernel
theorem dX0_look_47 : fet cX0_look 47 = some (.aload_n 0) := by decide +kernel
theorem dX0_look_48 : fet cX0_look 48 = some (.getfield 12) := by decide +kernel
theorem dX0_look_51 : fet cX0_look 51 = some (.getfield 73) := by decide +kernel
theorem dX0_look_54 : fet cX0_look 54 = some (.iload_n 3) := by decide +kernel
theorem dX0_look_55 : fet cX0_look 55 = some (.iaload) := by decide +kernel
theorem dX0_look_56 : fet cX0_look 56 = some (.iload 4) := by decide +kernel
theorem dX0_look_58 : fet cX0_look 58 = some (.iadd) := by decide +kernel
theorem dX0_look_59 : fet cX0_look 59 = some (.iastore) := by decide +kernel
theorem dX0_look_60 : fet cX0_look 60 = some (.aload_n 0) := by decide +kernel
theorem dX0_look_61 : fet cX0_look 61 = some (.getfield 29) := by decide +kernel
theorem dX0_look_64 : fet cX0_look 64 = some (.iload_n 2) := by decide +kernel
theorem dX0_look_65 : fet cX0_look 65 = some (.aload_n 0) := by decide +kernel
theorem dX0_look_66 : fet cX0_look 66 = some (.getfield 25) := by decide +kernel
theorem dX0_look_69 : fet cX0_look 69 = some (.iload_n 2) := by decide +kernel
theorem dX0_look_70 : fet cX0_look 70 = some (.iaload) := by decide +kernel
theorem dX0_look_71 : fet cX0_look 71 = some (.aload_n 0) := by decide +kernel
theorem dX0_look_72 : fet cX0_look 72 = some (.getfield 12) := by decide +kernel
theorem dX0_look_75 : fet cX0_look 75 = some (.getfield 76) := by decide +kernel
theorem dX0_look_78 : fet cX0_look 78 = some (.iload_n 3) := by decide +kernel
theorem dX0_look_79 : fet cX0_look 79 = some (.iaload) := by decide +kernel
theorem dX0_look_80 : fet cX0_look 80 = some (.isub) := by decide +kernel
theorem dX0_look_81 : fet cX0_look 81 = some (.iastore) := by decide +kernel
theorem dX0_look_82 : fet cX0_look 82 = some (.iinc 2 1) := by decide +kernel
theorem dX0_look_85 : fet cX0_look 85 = some (.goto (-83)) := by decide +kernel
theorem dX0_look_88 : fet cX0_look 88 = some (.return_) := by decide +kernel
theorem dX0_pass_0 : fet cX0_pass 0 = some (.iconst 0) := by decide +kernel
theorem dX0_pass_1 : fet cX0_pass 1 = some (.istore_n 2) := by decide +kernel
theorem dX0_pass_2 : fet cX0_pass 2 = some (.iload_n 2) := by decide +kernel
theorem dX0_pass_3 : fet cX0_pass 3 = some (.iload_n 1) := by decide +kernel
theorem dX0_pass_4 : fet cX0_pass 4 = some (.if_icmp .ge 13) := by decide +kernel
theorem dX0_pass_7 : fet cX0_pass 7 = some (.aload_n 0) := by decide +kernel
theorem dX0_pass_8 : fet cX0_pass 8 = some (.invokevirtual 79) := by decide +kernel
theorem dX0_pass_11 : fet cX0_pass 11 = some (.iinc 2 1) := by decide +kernel
theorem dX0_pass_14 : fet cX0_pass 14 = some (.goto (-12)) := by decide +kernel
theorem dX0_pass_17 : fet cX0_pass 17 = some (.return_) := by decide +kernel
theorem dX0_passDay_0 : fet cX0_passDay 0 = some (.aload_n 0) := by decide +kernel
theorem dX0_passDay_1 : fet cX0_passDay 1 = some (.invokevirtual 82) := by decide +kernel
theorem dX0_passDay_4 : fet cX0_passDay 4 = some (.aload_n 0) := by decide +kernel
theorem dX0_passDay_5 : fet cX0_passDay 5 = some (.aload_n 0) := by decide +kernel
theorem dX0_passDay_6 : fet cX0_passDay 6 = some (.getfield 12) := by decide +kernel
theorem dX0_passDay_9 : fet cX0_passDay 9 = some (.getfield 85) := by decide +kernel
theorem dX0_passDay_12 : fet cX0_passDay 12 = some (.invokevirtual 88) := by decide +kernel
theorem dX0_passDay_15 : fet cX0_passDay 15 = some (.iconst 0) := by decide +kernel
theorem dX0_passDay_16 : fet cX0_passDay 16 = some (.istore_n 1) := by decide +kernel
theorem dX0_passDay_17 : fet cX0_passDay 17 = some (.iload_n 1) := by decide +kernel
theorem dX0_passDay_18 : fet cX0_passDay 18 = some (.aload_n 0) := by decide +kernel
theorem dX0_passDay_19 : fet cX0_passDay 19 = some (.getfield 21) := by decide +kernel
theorem dX0_passDay_22 : fet cX0_passDay 22 = some (.getfield 92) := by decide +kernel
theorem dX0_passDay_25 : fet cX0_passDay 25 = some (.if_icmp .ge 28) := by decide +kernel
theorem dX0_passDay_28 : fet cX0_passDay 28 = some (.aload_n 0) := by decide +kernel
theorem dX0_passDay_29 : fet cX0_passDay 29 = some (.getfield 12) := by decide +kernel
theorem dX0_passDay_32 : fet cX0_passDay 32 = some (.getfield 95) := by decide +kernel
theorem dX0_passDay_35 : fet cX0_passDay 35 = some (.iload_n 1) := by decide +kernel
theorem dX0_passDay_36 : fet cX0_passDay 36 = some (.iaload) := by decide +kernel
theorem dX0_passDay_37 : fet cX0_passDay 37 = some (.bipush (-4)) := by decide +kernel
theorem dX0_passDay_39 : fet cX0_passDay 39 = some (.if_icmp .eq 8) := by decide +kernel
theorem dX0_passDay_42 : fet cX0_passDay 42 = some (.aload_n 0) := by decide +kernel
theorem dX0_passDay_43 : fet cX0_passDay 43 = some (.iload_n 1) := by decide +kernel
theorem dX0_passDay_44 : fet cX0_passDay 44 = some (.invokevirtual 98) := by decide +kernel
theorem dX0_passDay_47 : fet cX0_passDay 47 = some (.iinc 1 1) := by decide +kernel
theorem dX0_passDay_50 : fet cX0_passDay 50 = some (.goto (-33)) := by decide +kernel
theorem dX0_passDay_53 : fet cX0_passDay 53 = some (.aload_n 0) := by decide +kernel
theorem dX0_passDay_54 : fet cX0_passDay 54 = some (.invokevirtual 101) := by decide +kernel
theorem dX0_passDay_57 : fet cX0_passDay 57 = some (.aload_n 0) := by decide +kernel
theorem dX0_passDay_58 : fet cX0_passDay 58 = some (.getfield 12) := by decide +kernel
theorem dX0_passDay_61 : fet cX0_passDay 61 = some (.invokevirtual 104) := by decide +kernel
theorem dX0_passDay_64 : fet cX0_passDay 64 = some (.return_) := by decide +kernel
theorem dX0_giveAlms_0 : fet cX0_giveAlms 0 = some (.iconst 0) := by decide +kernel
theorem dX0_giveAlms_1 : fet cX0_giveAlms 1 = some (.istore_n 1) := by decide +kernel
theorem dX0_giveAlms_2 : fet cX0_giveAlms 2 = some (.iload_n 1) := by decide +kernel
theorem dX0_giveAlms_3 : fet cX0_giveAlms 3 = some (.aload_n 0) := by decide +kernel
theorem dX0_giveAlms_4 : fet cX0_giveAlms 4 = some (.getfield 21) := by decide +kernel
theorem dX0_giveAlms_7 : fet cX0_giveAlms 7 = some (.getfield 66) := by decide +kernel
theorem dX0_giveAlms_10 : fet cX0_giveAlms 10 = some (.if_icmp .ge 25) := by decide +kernel
theorem dX0_giveAlms_13 : fet cX0_giveAlms 13 = some (.aload_n 0) := by decide +kernel
theorem dX0_giveAlms_14 : fet cX0_giveAlms 14 = some (.getfield 12) := by decide +kernel
theorem dX0_giveAlms_17 : fet cX0_giveAlms 17 = some (.getfield 107) := by decide +kernel
theorem dX0_giveAlms_20 : fet cX0_giveAlms 20 = some (.iload_n 1) := by decide +kernel
theorem dX0_giveAlms_21 : fet cX0_giveAlms 21 = some (.dup2) := by decide +kernel
theorem dX0_giveAlms_22 : fet cX0_giveAlms 22 = some (.iaload) := by decide +kernel
theorem dX0_giveAlms_23 : fet cX0_giveAlms 23 = some (.aload_n 0) := by decide +kernel
theorem dX0_giveAlms_24 : fet cX0_giveAlms 24 = some (.getfield 45) := by decide +kernel
theorem dX0_giveAlms_27 : fet cX0_giveAlms 27 = some (.iadd) := by decide +kernel
theorem dX0_giveAlms_28 : fet cX0_giveAlms 28 = some (.iastore) := by decide +kernel
theorem dX0_giveAlms_29 : fet cX0_giveAlms 29 = some (.iinc 1 1) := by decide +kernel
theorem dX0_giveAlms_32 : fet cX0_giveAlms 32 = some (.goto (-30)) := by decide +kernel
theorem dX0_giveAlms_35 : fet cX0_giveAlms 35 = some (.return_) := by decide +kernel
theorem dX0_go_0 : fet cX0_go 0 = some (.aload_n 0) := by decide +kernel
theorem dX0_go_1 : fet cX0_go 1 = some (.iload_n 1) := by decide +kernel
theorem dX0_go_2 : fet cX0_go 2 = some (.invokevirtual 110) := by decide +kernel
theorem dX0_go_5 : fet cX0_go 5 = some (.istore_n 2) := by decide +kernel
theorem dX0_go_6 : fet cX0_go 6 = some (.iload_n 2) := by decide +kernel
theorem dX0_go_7 : fet cX0_go 7 = some (.bipush (-4)) := by decide +kernel
theorem dX0_go_9 : fet cX0_go 9 = some (.if_icmp .ne 11) := by decide +kernel
theorem dX0_go_12 : fet cX0_go 12 = some (.aload_n 0) := by decide +kernel
theorem dX0_go_13 : fet cX0_go 13 = some (.iload_n 1) := by decide +kernel
theorem dX0_go_14 : fet cX0_go 14 = some (.invokevirtual 114) := by decide +kernel
theorem dX0_go_17 : fet cX0_go 17 = some (.goto 51) := by decide +kernel
theorem dX0_go_20 : fet cX0_go 20 = some (.aload_n 0) := by decide +kernel
theorem dX0_go_21 : fet cX0_go 21 = some (.getfield 29) := by decide +kernel
theorem dX0_go_24 : fet cX0_go 24 = some (.iload_n 2) := by decide +kernel
theorem dX0_go_25 : fet cX0_go 25 = some (.iaload) := by decide +kernel
theorem dX0_go_26 : fet cX0_go 26 = some (.aload_n 0) := by decide +kernel
theorem dX0_go_27 : fet cX0_go 27 = some (.getfield 21) := by decide +kernel
theorem dX0_go_30 : fet cX0_go 30 = some (.getfield 117) := by decide +kernel
theorem dX0_go_33 : fet cX0_go 33 = some (.iload_n 1) := by decide +kernel
theorem dX0_go_34 : fet cX0_go 34 = some (.iaload) := by decide +kernel
theorem dX0_go_35 : fet cX0_go 35 = some (.if_icmp .ge 27) := by decide +kernel
theorem dX0_go_38 : fet cX0_go 38 = some (.aload_n 0) := by decide +kernel
theorem dX0_go_39 : fet cX0_go 39 = some (.getfield 12) := by decide +kernel
theorem dX0_go_42 : fet cX0_go 42 = some (.getfield 95) := by decide +kernel
theorem dX0_go_45 : fet cX0_go 45 = some (.iload_n 1) := by decide +kernel
theorem dX0_go_46 : fet cX0_go 46 = some (.bipush (-4)) := by decide +kernel
theorem dX0_go_48 : fet cX0_go 48 = some (.iastore) := by decide +kernel
theorem dX0_go_49 : fet cX0_go 49 = some (.aload_n 0) := by decide +kernel
theorem dX0_go_50 : fet cX0_go 50 = some (.dup) := by decide +kernel
theorem dX0_go_51 : fet cX0_go 51 = some (.getfield 57) := by decide +kernel
theorem dX0_go_54 : fet cX0_go 54 = some (.iconst 1) := by decide +kernel
theorem dX0_go_55 : fet cX0_go 55 = some (.iadd) := by decide +kernel
theorem dX0_go_56 : fet cX0_go 56 = some (.putfield 57) := by decide +kernel
theorem dX0_go_59 : fet cX0_go 59 = some (.goto 9) := by decide +kernel
theorem dX0_go_62 : fet cX0_go 62 = some (.aload_n 0) := by decide +kernel
theorem dX0_go_63 : fet cX0_go 63 = some (.iload_n 1) := by decide +kernel
theorem dX0_go_64 : fet cX0_go 64 = some (.iload_n 2) := by decide +kernel
theorem dX0_go_65 : fet cX0_go 65 = some (.invokevirtual 120) := by decide +kernel
theorem dX0_go_68 : fet cX0_go 68 = some (.return_) := by decide +kernel
theorem dX0_firstBridge_0 : fet cX0_firstBridge 0 = some (.aload_n 0) := by decide +kernel
theorem dX0_firstBridge_1 : fet cX0_firstBridge 1 = some (.getfield 12) := by decide +kernel
theorem dX0_firstBridge_4 : fet cX0_firstBridge 4 = some (.getfield 95) := by decide +kernel
theorem dX0_firstBridge_7 : fet cX0_firstBridge 7 = some (.iload_n 1) := by decide +kernel
theorem dX0_firstBridge_8 : fet cX0_firstBridge 8 = some (.iaload) := by decide +kernel
theorem dX0_firstBridge_9 : fet cX0_firstBridge 9 = some (.istore_n 2) := by decide +kernel
theorem dX0_firstBridge_10 : fet cX0_firstBridge 10 = some (.iload_n 2) := by decide +kernel
theorem dX0_firstBridge_11 : fet cX0_firstBridge 11 = some (.bipush (-4)) := by decide +kernel
theorem dX0_firstBridge_13 : fet cX0_firstBridge 13 = some (.if_icmp .ne 6) := by decide +kernel
theorem dX0_firstBridge_16 : fet cX0_firstBridge 16 = some (.bipush (-4)) := by decide +kernel
theorem dX0_firstBridge_18 : fet cX0_firstBridge 18 = some (.ireturn) := by decide +kernel
theorem dX0_firstBridge_19 : fet cX0_firstBridge 19 = some (.aload_n 0) := by decide +kernel
theorem dX0_firstBridge_20 : fet cX0_firstBridge 20 = some (.iload_n 1) := by decide +kernel
theorem dX0_firstBridge_21 : fet cX0_firstBridge 21 = some (.invokevirtual 124) := by decide +kernel
theorem dX0_firstBridge_24 : fet cX0_firstBridge 24 = some (.istore_n 3) := by decide +kernel
theorem dX0_firstBridge_25 : fet cX0_firstBridge 25 = some (.iconst 1) := by decide +kernel
theorem dX0_firstBridge_26 : fet cX0_firstBridge 26 = some (.aload_n 0) := by decide +kernel
theorem dX0_firstBridge_27 : fet cX0_firstBridge 27 = some (.getfield 12) := by decide +kernel
theorem dX0_firstBridge_30 : fet cX0_firstBridge 30 = some (.getfield 127) := by decide +kernel
theorem dX0_firstBridge_33 : fet cX0_firstBridge 33 = some (.iload_n 1) := by decide +kernel
theorem dX0_firstBridge_34 : fet cX0_firstBridge 34 = some (.iaload) := by decide +kernel
theorem dX0_firstBridge_35 : fet cX0_firstBridge 35 = some (.ishl) := by decide +kernel
theorem dX0_firstBridge_36 : fet cX0_firstBridge 36 = some (.istore 4) := by decide +kernel
theorem dX0_firstBridge_38 : fet cX0_firstBridge 38 = some (.iconst 1) := by decide +kernel
theorem dX0_firstBridge_39 : fet cX0_firstBridge 39 = some (.istore 5) := by decide +kernel
theorem dX0_firstBridge_41 : fet cX0_firstBridge 41 = some (.iload 5) := by decide +kernel
theorem dX0_firstBridge_43 : fet cX0_firstBridge 43 = some (.bipush 8) := by decide +kernel
theorem dX0_firstBridge_45 : fet cX0_firstBridge 45 = some (.if_icmp .ge 58) := by decide +kernel
theorem dX0_firstBridge_48 : fet cX0_firstBridge 48 = some (.aload_n 0) := by decide +kernel
theorem dX0_firstBridge_49 : fet cX0_firstBridge 49 = some (.getfield 21) := by decide +kernel
theorem dX0_firstBridge_52 : fet cX0_firstBridge 52 = some (.iload 4) := by decide +kernel
theorem dX0_firstBridge_54 : fet cX0_firstBridge 54 = some (.iload_n 2) := by decide +kernel
theorem dX0_firstBridge_55 : fet cX0_firstBridge 55 = some (.iload_n 3) := by decide +kernel
theorem dX0_firstBridge_56 : fet cX0_firstBridge 56 = some (.invokevirtual 130) := by decide +kernel
theorem dX0_firstBridge_59 : fet cX0_firstBridge 59 = some (.istore 6) := by decide +kernel
theorem dX0_firstBridge_61 : fet cX0_firstBridge 61 = some (.iload 6) := by decide +kernel
theorem dX0_firstBridge_63 : fet cX0_firstBridge 63 = some (.bipush (-4)) := by decide +kernel
theorem dX0_firstBridge_65 : fet cX0_firstBridge 65 = some (.if_icmp .eq 6) := by decide +kernel
theorem dX0_firstBridge_68 : fet cX0_firstBridge 68 = some (.iload 6) := by decide +kernel
theorem dX0_firstBridge_70 : fet cX0_firstBridge 70 = some (.ireturn) := by decide +kernel
theorem dX0_firstBridge_71 : fet cX0_firstBridge 71 = some (.aload_n 0) := by decide +kernel
theorem dX0_firstBridge_72 : fet cX0_firstBridge 72 = some (.getfield 21) := by decide +kernel
theorem dX0_firstBridge_75 : fet cX0_firstBridge 75 = some (.iload 4) := by decide +kernel
theorem dX0_firstBridge_77 : fet cX0_firstBridge 77 = some (.iload_n 3) := by decide +kernel
theorem dX0_firstBridge_78 : fet cX0_firstBridge 78 = some (.invokevirtual 134) := by decide +kernel
theorem dX0_firstBridge_81 : fet cX0_firstBridge 81 = some (.istore 7) := by decide +kernel
theorem dX0_firstBridge_83 : fet cX0_firstBridge 83 = some (.iload 7) := by decide +kernel
theorem dX0_firstBridge_85 : fet cX0_firstBridge 85 = some (.iload 4) := by decide +kernel
theorem dX0_firstBridge_87 : fet cX0_firstBridge 87 = some (.if_icmp .ne 6) := by decide +kernel
theorem dX0_firstBridge_90 : fet cX0_firstBridge 90 = some (.bipush (-4)) := by decide +kernel
theorem dX0_firstBridge_92 : fet cX0_firstBridge 92 = some (.ireturn) := by decide +kernel
theorem dX0_firstBridge_93 : fet cX0_firstBridge 93 = some (.iload 7) := by decide +kernel
theorem dX0_firstBridge_95 : fet cX0_firstBridge 95 = some (.istore 4) := by decide +kernel
theorem dX0_firstBridge_97 : fet cX0_firstBridge 97 = some (.iinc 5 1) := by decide +kernel
theorem dX0_firstBridge_100 : fet cX0_firstBridge 100 = some (.goto (-59)) := by decide +kernel
theorem dX0_firstBridge_103 : fet cX0_firstBridge 103 = some (.bipush (-4)) := by decide +kernel
theorem dX0_firstBridge_105 : fet cX0_firstBridge 105 = some (.ireturn) := by decide +kernel
theorem dX0_usableFor_0 : fet cX0_usableFor 0 = some (.iconst 0) := by decide +kernel
theorem dX0_usableFor_1 : fet cX0_usableFor 1 = some (.istore_n 2) := by decide +kernel
theorem dX0_usableFor_2 : fet cX0_usableFor 2 = some (.iconst 0) := by decide +kernel
theorem dX0_usableFor_3 : fet cX0_usableFor 3 = some (.istore_n 3) := by decide +kernel
theorem dX0_usableFor_4 : fet cX0_usableFor 4 = some (.iload_n 3) := by decide +kernel
theorem dX0_usableFor_5 : fet cX0_usableFor 5 = some (.aload_n 0) := by decide +kernel
theorem dX0_usableFor_6 : fet cX0_usableFor 6 = some (.getfield 21) := by decide +kernel
theorem dX0_usableFor_9 : fet cX0_usableFor 9 = some (.getfield 66) := by decide +kernel
theorem dX0_usableFor_12 : fet cX0_usableFor 12 = some (.if_icmp .ge 33) := by decide +kernel
theorem dX0_usableFor_15 : fet cX0_usableFor 15 = some (.aload_n 0) := by decide +kernel
theorem dX0_usableFor_16 : fet cX0_usableFor 16 = some (.getfield 25) := by decide +kernel
theorem dX0_usableFor_19 : fet cX0_usableFor 19 = some (.iload_n 3) := by decide +kernel
theorem dX0_usableFor_20 : fet cX0_usableFor 20 = some (.iaload) := by decide +kernel
theorem dX0_usableFor_21 : fet cX0_usableFor 21 = some (.aload_n 0) := by decide +kernel
theorem dX0_usableFor_22 : fet cX0_usableFor 22 = some (.getfield 21) := by decide +kernel
theorem dX0_usableFor_25 : fet cX0_usableFor 25 = some (.getfield 117) := by decide +kernel
theorem dX0_usableFor_28 : fet cX0_usableFor 28 = some (.iload_n 1) := by decide +kernel
theorem dX0_usableFor_29 : fet cX0_usableFor 29 = some (.iaload) := by decide +kernel
theorem dX0_usableFor_30 : fet cX0_usableFor 30 = some (.if_icmp .lt 9) := by decide +kernel
theorem dX0_usableFor_33 : fet cX0_usableFor 33 = some (.iload_n 2) := by decide +kernel
theorem dX0_usableFor_34 : fet cX0_usableFor 34 = some (.iconst 1) := by decide +kernel
theorem dX0_usableFor_35 : fet cX0_usableFor 35 = some (.iload_n 3) := by decide +kernel
theorem dX0_usableFor_36 : fet cX0_usableFor 36 = some (.ishl) := by decide +kernel
theorem dX0_usableFor_37 : fet cX0_usableFor 37 = some (.ior) := by decide +kernel
theorem dX0_usableFor_38 : fet cX0_usableFor 38 = some (.istore_n 2) := by decide +kernel
theorem dX0_usableFor_39 : fet cX0_usableFor 39 = some (.iinc 3 1) := by decide +kernel
theorem dX0_usableFor_42 : fet cX0_usableFor 42 = some (.goto (-38)) := by decide +kernel
theorem dX0_usableFor_45 : fet cX0_usableFor 45 = some (.aload_n 0) := by decide +kernel
theorem dX0_usableFor_46 : fet cX0_usableFor 46 = some (.getfield 48) := by decide +kernel
theorem dX0_usableFor_49 : fet cX0_usableFor 49 = some (.bipush (-4)) := by decide +kernel
theorem dX0_usableFor_51 : fet cX0_usableFor 51 = some (.if_icmp .eq 25) := by decide +kernel
theorem dX0_usableFor_54 : fet cX0_usableFor 54 = some (.aload_n 0) := by decide +kernel
theorem dX0_usableFor_55 : fet cX0_usableFor 55 = some (.getfield 51) := by decide +kernel
theorem dX0_usableFor_58 : fet cX0_usableFor 58 = some (.iload_n 1) := by decide +kernel
theorem dX0_usableFor_59 : fet cX0_usableFor 59 = some (.ishr) := by decide +kernel
theorem dX0_usableFor_60 : fet cX0_usableFor 60 = some (.iconst 1) := by decide +kernel
theorem dX0_usableFor_61 : fet cX0_usableFor 61 = some (.iand) := by decide +kernel
theorem dX0_usableFor_62 : fet cX0_usableFor 62 = some (.ifCond .eq 14) := by decide +kernel
theorem dX0_usableFor_65 : fet cX0_usableFor 65 = some (.iload_n 2) := by decide +kernel
theorem dX0_usableFor_66 : fet cX0_usableFor 66 = some (.iconst 1) := by decide +kernel
theorem dX0_usableFor_67 : fet cX0_usableFor 67 = some (.aload_n 0) := by decide +kernel
theorem dX0_usableFor_68 : fet cX0_usableFor 68 = some (.getfield 48) := by decide +kernel
theorem dX0_usableFor_71 : fet cX0_usableFor 71 = some (.ishl) := by decide +kernel
theorem dX0_usableFor_72 : fet cX0_usableFor 72 = some (.iconst (-1)) := by decide +kernel
theorem dX0_usableFor_73 : fet cX0_usableFor 73 = some (.ixor) := by decide +kernel
theorem dX0_usableFor_74 : fet cX0_usableFor 74 = some (.iand) := by decide +kernel
theorem dX0_usableFor_75 : fet cX0_usableFor 75 = some (.istore_n 2) := by decide +kernel
theorem dX0_usableFor_76 : fet cX0_usableFor 76 = some (.iload_n 2) := by decide +kernel
theorem dX0_usableFor_77 : fet cX0_usableFor 77 = some (.ireturn) := by decide +kernel
theorem dX0_waitHere_0 : fet cX0_waitHere 0 = some (.aload_n 0) := by decide +kernel
theorem dX0_waitHere_1 : fet cX0_waitHere 1 = some (.dup) := by decide +kernel
theorem dX0_waitHere_2 : fet cX0_waitHere 2 = some (.getfield 54) := by decide +kernel
theorem dX0_waitHere_5 : fet cX0_waitHere 5 = some (.iconst 1) := by decide +kernel
theorem dX0_waitHere_6 : fet cX0_waitHere 6 = some (.iadd) := by decide +kernel
theorem dX0_waitHere_7 : fet cX0_waitHere 7 = some (.putfield 54) := by decide +kernel
theorem dX0_waitHere_10 : fet cX0_waitHere 10 = some (.aload_n 0) := by decide +kernel
theorem dX0_waitHere_11 : fet cX0_waitHere 11 = some (.getfield 21) := by decide +kernel
theorem dX0_waitHere_14 : fet cX0_waitHere 14 = some (.getfield 137) := by decide +kernel
theorem dX0_waitHere_17 : fet cX0_waitHere 17 = some (.iload_n 1) := by decide +kernel
theorem dX0_waitHere_18 : fet cX0_waitHere 18 = some (.iaload) := by decide +kernel
theorem dX0_waitHere_19 : fet cX0_waitHere 19 = some (.iconst 4) := by decide +kernel
theorem dX0_waitHere_20 : fet cX0_waitHere 20 = some (.if_icmp .eq 4) := by decide +kernel
theorem dX0_waitHere_23 : fet cX0_waitHere 23 = some (.return_) := by decide +kernel
theorem dX0_waitHere_24 : fet cX0_waitHere 24 = some (.aload_n 0) := by decide +kernel
theorem dX0_waitHere_25 : fet cX0_waitHere 25 = some (.getfield 21) := by decide +kernel
theorem dX0_waitHere_28 : fet cX0_waitHere 28 = some (.aload_n 0) := by decide +kernel
theorem dX0_waitHere_29 : fet cX0_waitHere 29 = some (.getfield 12) := by decide +kernel
theorem dX0_waitHere_32 : fet cX0_waitHere 32 = some (.getfield 95) := by decide +kernel
theorem dX0_waitHere_35 : fet cX0_waitHere 35 = some (.iload_n 1) := by decide +kernel
theorem dX0_waitHere_36 : fet cX0_waitHere 36 = some (.iaload) := by decide +kernel
theorem dX0_waitHere_37 : fet cX0_waitHere 37 = some (.invokevirtual 140) := by decide +kernel
theorem dX0_waitHere_40 : fet cX0_waitHere 40 = some (.istore_n 2) := by decide +kernel
theorem dX0_waitHere_41 : fet cX0_waitHere 41 = some (.iload_n 2) := by decide +kernel
theorem dX0_waitHere_42 : fet cX0_waitHere 42 = some (.bipush (-4)) := by decide +kernel
theorem dX0_waitHere_44 : fet cX0_waitHere 44 = some (.if_icmp .eq 17) := by decide +kernel
theorem dX0_waitHere_47 : fet cX0_waitHere 47 = some (.aload_n 0) := by decide +kernel
theorem dX0_waitHere_48 : fet cX0_waitHere 48 = some (.iload_n 2) := by decide +kernel
theorem dX0_waitHere_49 : fet cX0_waitHere 49 = some (.aload_n 0) := by decide +kernel
theorem dX0_waitHere_50 : fet cX0_waitHere 50 = some (.getfield 21) := by decide +kernel
theorem dX0_waitHere_53 : fet cX0_waitHere 53 = some (.getfield 143) := by decide +kernel
theorem dX0_waitHere_56 : fet cX0_waitHere 56 = some (.iload_n 1) := by decide +kernel
theorem dX0_waitHere_57 : fet cX0_waitHere 57 = some (.iaload) := by decide +kernel
theorem dX0_waitHere_58 : fet cX0_waitHere 58 = some (.invokevirtual 146) := by decide +kernel
theorem dX0_waitHere_61 : fet cX0_waitHere 61 = some (.return_) := by decide +kernel
theorem dX0_cross_0 : fet cX0_cross 0 = some (.aload_n 0) := by decide +kernel
theorem dX0_cross_1 : fet cX0_cross 1 = some (.getfield 12) := by decide +kernel
theorem dX0_cross_4 : fet cX0_cross 4 = some (.getfield 95) := by decide +kernel
theorem dX0_cross_7 : fet cX0_cross 7 = some (.iload_n 1) := by decide +kernel
theorem dX0_cross_8 : fet cX0_cross 8 = some (.iaload) := by decide +kernel
theorem dX0_cross_9 : fet cX0_cross 9 = some (.aload_n 0) := by decide +kernel
theorem dX0_cross_10 : fet cX0_cross 10 = some (.getfield 21) := by decide +kernel
theorem dX0_cross_13 : fet cX0_cross 13 = some (.getfield 149) := by decide +kernel
theorem dX0_cross_16 : fet cX0_cross 16 = some (.iload_n 2) := by decide +kernel
theorem dX0_cross_17 : fet cX0_cross 17 = some (.iaload) := by decide +kernel
theorem dX0_cross_18 : fet cX0_cross 18 = some (.if_icmp .ne 7) := by decide +kernel
theorem dX0_cross_21 : fet cX0_cross 21 = some (.iconst 1) := by decide +kernel
theorem dX0_cross_22 : fet cX0_cross 22 = some (.goto 4) := by decide +kernel
theorem dX0_cross_25 : fet cX0_cross 25 = some (.iconst 0) := by decide +kernel
theorem dX0_cross_26 : fet cX0_cross 26 = some (.istore_n 3) := by decide +kernel
theorem dX0_cross_27 : fet cX0_cross 27 = some (.aload_n 0) := by decide +kernel
theorem dX0_cross_28 : fet cX0_cross 28 = some (.getfield 12) := by decide +kernel
theorem dX0_cross_31 : fet cX0_cross 31 = some (.getfield 95) := by decide +kernel
theorem dX0_cross_34 : fet cX0_cross 34 = some (.iload_n 1) := by decide +kernel
theorem dX0_cross_35 : fet cX0_cross 35 = some (.iload_n 3) := by decide +kernel
theorem dX0_cross_36 : fet cX0_cross 36 = some (.ifCond .eq 15) := by decide +kernel
theorem dX0_cross_39 : fet cX0_cross 39 = some (.aload_n 0) := by decide +kernel
theorem dX0_cross_40 : fet cX0_cross 40 = some (.getfield 21) := by decide +kernel
theorem dX0_cross_43 : fet cX0_cross 43 = some (.getfield 152) := by decide +kernel
theorem dX0_cross_46 : fet cX0_cross 46 = some (.iload_n 2) := by decide +kernel
theorem dX0_cross_47 : fet cX0_cross 47 = some (.iaload) := by decide +kernel
theorem dX0_cross_48 : fet cX0_cross 48 = some (.goto 12) := by decide +kernel
theorem dX0_cross_51 : fet cX0_cross 51 = some (.aload_n 0) := by decide +kernel
theorem dX0_cross_52 : fet cX0_cross 52 = some (.getfield 21) := by decide +kernel
theorem dX0_cross_55 : fet cX0_cross 55 = some (.getfield 149) := by decide +kernel
theorem dX0_cross_58 : fet cX0_cross 58 = some (.iload_n 2) := by decide +kernel
theorem dX0_cross_59 : fet cX0_cross 59 = some (.iaload) := by decide +kernel
theorem dX0_cross_60 : fet cX0_cross 60 = some (.iastore) := by decide +kernel
theorem dX0_cross_61 : fet cX0_cross 61 = some (.aload_n 0) := by decide +kernel
theorem dX0_cross_62 : fet cX0_cross 62 = some (.getfield 21) := by decide +kernel
theorem dX0_cross_65 : fet cX0_cross 65 = some (.getfield 137) := by decide +kernel
theorem dX0_cross_68 : fet cX0_cross 68 = some (.iload_n 1) := by decide +kernel
theorem dX0_cross_69 : fet cX0_cross 69 = some (.iaload) := by decide +kernel
theorem dX0_cross_70 : fet cX0_cross 70 = some (.istore 4) := by decide +kernel
theorem dX0_cross_72 : fet cX0_cross 72 = some (.iload 4) := by decide +kernel
theorem dX0_cross_74 : fet cX0_cross 74 = some (.iconst 3) := by decide +kernel
theorem dX0_cross_75 : fet cX0_cross 75 = some (.if_icmp .ne 20) := by decide +kernel
theorem dX0_cross_78 : fet cX0_cross 78 = some (.aload_n 0) := by decide +kernel
theorem dX0_cross_79 : fet cX0_cross 79 = some (.iload_n 2) := by decide +kernel
theorem dX0_cross_80 : fet cX0_cross 80 = some (.aload_n 0) := by decide +kernel
theorem dX0_cross_81 : fet cX0_cross 81 = some (.getfield 21) := by decide +kernel
theorem dX0_cross_84 : fet cX0_cross 84 = some (.getfield 143) := by decide +kernel
theorem dX0_cross_87 : fet cX0_cross 87 = some (.iload_n 1) := by decide +kernel
theorem dX0_cross_88 : fet cX0_cross 88 = some (.iaload) := by decide +kernel
theorem dX0_cross_89 : fet cX0_cross 89 = some (.invokevirtual 155) := by decide +kernel
theorem dX0_cross_92 : fet cX0_cross 92 = some (.goto 35) := by decide +kernel
theorem dX0_cross_95 : fet cX0_cross 95 = some (.iload 4) := by decide +kernel
theorem dX0_cross_97 : fet cX0_cross 97 = some (.iconst 2) := by decide +kernel
theorem dX0_cross_98 : fet cX0_cross 98 = some (.if_icmp .ne 15) := by decide +kernel
theorem dX0_cross_101 : fet cX0_cross 101 = some (.aload_n 0) := by decide +kernel
theorem dX0_cross_102 : fet cX0_cross 102 = some (.getfield 12) := by decide +kernel
theorem dX0_cross_105 : fet cX0_cross 105 = some (.getfield 85) := by decide +kernel
theorem dX0_cross_108 : fet cX0_cross 108 = some (.iconst 2) := by decide +kernel
theorem dX0_cross_109 : fet cX0_cross 109 = some (.irem) := by decide +kernel
theorem dX0_cross_110 : fet cX0_cross 110 = some (.ifCond .ne 17) := by decide +kernel
theorem dX0_cross_113 : fet cX0_cross 113 = some (.aload_n 0) := by decide +kernel
theorem dX0_cross_114 : fet cX0_cross 114 = some (.iload_n 2) := by decide +kernel
theorem dX0_cross_115 : fet cX0_cross 115 = some (.aload_n 0) := by decide +kernel
theorem dX0_cross_116 : fet cX0_cross 116 = some (.getfield 21) := by decide +kernel
theorem dX0_cross_119 : fet cX0_cross 119 = some (.getfield 143) := by decide +kernel
theorem dX0_cross_122 : fet cX0_cross 122 = some (.iload_n 1) := by decide +kernel
theorem dX0_cross_123 : fet cX0_cross 123 = some (.iaload) := by decide +kernel
theorem dX0_cross_124 : fet cX0_cross 124 = some (.invokevirtual 146) := by decide +kernel
theorem dX0_cross_127 : fet cX0_cross 127 = some (.aload_n 0) := by decide +kernel
theorem dX0_cross_128 : fet cX0_cross 128 = some (.getfield 12) := by decide +kernel
theorem dX0_cross_131 : fet cX0_cross 131 = some (.getfield 95) := by decide +kernel
theorem dX0_cross_134 : fet cX0_cross 134 = some (.iload_n 1) := by decide +kernel
theorem dX0_cross_135 : fet cX0_cross 135 = some (.iaload) := by decide +kernel
theorem dX0_cross_136 : fet cX0_cross 136 = some (.aload_n 0) := by decide +kernel
theorem dX0_cross_137 : fet cX0_cross 137 = some (.getfield 12) := by decide +kernel
theorem dX0_cross_140 : fet cX0_cross 140 = some (.getfield 127) := by decide +kernel
theorem dX0_cross_143 : fet cX0_cross 143 = some (.iload_n 1) := by decide +kernel
theorem dX0_cross_144 : fet cX0_cross 144 = some (.iaload) := by decide +kernel
theorem dX0_cross_145 : fet cX0_cross 145 = some (.if_icmp .ne 8) := by decide +kernel
theorem dX0_cross_148 : fet cX0_cross 148 = some (.aload_n 0) := by decide +kernel
theorem dX0_cross_149 : fet cX0_cross 149 = some (.iload_n 1) := by decide +kernel
theorem dX0_cross_150 : fet cX0_cross 150 = some (.invokevirtual 158) := by decide +kernel
theorem dX0_cross_153 : fet cX0_cross 153 = some (.return_) := by decide +kernel
theorem dX0_give_0 : fet cX0_give 0 = some (.aload_n 0) := by decide +kernel
theorem dX0_give_1 : fet cX0_give 1 = some (.getfield 12) := by decide +kernel
theorem dX0_give_4 : fet cX0_give 4 = some (.getfield 107) := by decide +kernel
theorem dX0_give_7 : fet cX0_give 7 = some (.iload_n 1) := by decide +kernel
theorem dX0_give_8 : fet cX0_give 8 = some (.dup2) := by decide +kernel
theorem dX0_give_9 : fet cX0_give 9 = some (.iaload) := by decide +kernel
theorem dX0_give_10 : fet cX0_give 10 = some (.iload_n 2) := by decide +kernel
theorem dX0_give_11 : fet cX0_give 11 = some (.iadd) := by decide +kernel
theorem dX0_give_12 : fet cX0_give 12 = some (.iastore) := by decide +kernel
theorem dX0_give_13 : fet cX0_give 13 = some (.aload_n 0) := by decide +kernel
theorem dX0_give_14 : fet cX0_give 14 = some (.dup) := by decide +kernel
theorem dX0_give_15 : fet cX0_give 15 = some (.getfield 60) := by decide +kernel
theorem dX0_give_18 : fet cX0_give 18 = some (.iload_n 2) := by decide +kernel
theorem dX0_give_19 : fet cX0_give 19 = some (.iadd) := by decide +kernel
theorem dX0_give_20 : fet cX0_give 20 = some (.putfield 60) := by decide +kernel
theorem dX0_give_23 : fet cX0_give 23 = some (.return_) := by decide +kernel
theorem dX0_steal_0 : fet cX0_steal 0 = some (.aload_n 0) := by decide +kernel
theorem dX0_steal_1 : fet cX0_steal 1 = some (.getfield 12) := by decide +kernel
theorem dX0_steal_4 : fet cX0_steal 4 = some (.getfield 161) := by decide +kernel
theorem dX0_steal_7 : fet cX0_steal 7 = some (.iload_n 1) := by decide +kernel
theorem dX0_steal_8 : fet cX0_steal 8 = some (.ishr) := by decide +kernel
theorem dX0_steal_9 : fet cX0_steal 9 = some (.iconst 1) := by decide +kernel
theorem dX0_steal_10 : fet cX0_steal 10 = some (.iand) := by decide +kernel
theorem dX0_steal_11 : fet cX0_steal 11 = some (.ifCond .eq 4) := by decide +kernel
theorem dX0_steal_14 : fet cX0_steal 14 = some (.return_) := by decide +kernel
theorem dX0_steal_15 : fet cX0_steal 15 = some (.aload_n 0) := by decide +kernel
theorem dX0_steal_16 : fet cX0_steal 16 = some (.getfield 12) := by decide +kernel
theorem dX0_steal_19 : fet cX0_steal 19 = some (.getfield 107) := by decide +kernel
theorem dX0_steal_22 : fet cX0_steal 22 = some (.iload_n 1) := by decide +kernel
theorem dX0_steal_23 : fet cX0_steal 23 = some (.iaload) := by decide +kernel
theorem dX0_steal_24 : fet cX0_steal 24 = some (.aload_n 0) := by decide +kernel
theorem dX0_steal_25 : fet cX0_steal 25 = some (.getfield 12) := by decide +kernel
theorem dX0_steal_28 : fet cX0_steal 28 = some (.getfield 164) := by decide +kernel
theorem dX0_steal_31 : fet cX0_steal 31 = some (.iload_n 1) := by decide +kernel
theorem dX0_steal_32 : fet cX0_steal 32 = some (.iaload) := by decide +kernel
theorem dX0_steal_33 : fet cX0_steal 33 = some (.isub) := by decide +kernel
theorem dX0_steal_34 : fet cX0_steal 34 = some (.istore_n 3) := by decide +kernel
theorem dX0_steal_35 : fet cX0_steal 35 = some (.iload_n 2) := by decide +kernel
theorem dX0_steal_36 : fet cX0_steal 36 = some (.iload_n 3) := by decide +kernel
theorem dX0_steal_37 : fet cX0_steal 37 = some (.if_icmp .ge 7) := by decide +kernel
theorem dX0_steal_40 : fet cX0_steal 40 = some (.iload_n 2) := by decide +kernel
theorem dX0_steal_41 : fet cX0_steal 41 = some (.goto 4) := by decide +kernel
theorem dX0_steal_44 : fet cX0_steal 44 = some (.iload_n 3) := by decide +kernel
theorem dX0_steal_45 : fet cX0_steal 45 = some (.istore 4) := by decide +kernel
theorem dX0_steal_47 : fet cX0_steal 47 = some (.aload_n 0) := by decide +kernel
theorem dX0_steal_48 : fet cX0_steal 48 = some (.getfield 12) := by decide +kernel
theorem dX0_steal_51 : fet cX0_steal 51 = some (.getfield 164) := by decide +kernel
theorem dX0_steal_54 : fet cX0_steal 54 = some (.iload_n 1) := by decide +kernel
theorem dX0_steal_55 : fet cX0_steal 55 = some (.dup2) := by decide +kernel
theorem dX0_steal_56 : fet cX0_steal 56 = some (.iaload) := by decide +kernel
theorem dX0_steal_57 : fet cX0_steal 57 = some (.iload 4) := by decide +kernel
theorem dX0_steal_59 : fet cX0_steal 59 = some (.iadd) := by decide +kernel
theorem dX0_steal_60 : fet cX0_steal 60 = some (.iastore) := by decide +kernel
theorem dX0_steal_61 : fet cX0_steal 61 = some (.aload_n 0) := by decide +kernel
theorem dX0_steal_62 : fet cX0_steal 62 = some (.dup) := by decide +kernel
theorem dX0_steal_63 : fet cX0_steal 63 = some (.getfield 63) := by decide +kernel
theorem dX0_steal_66 : fet cX0_steal 66 = some (.iload 4) := by decide +kernel
theorem dX0_steal_68 : fet cX0_steal 68 = some (.iadd) := by decide +kernel
theorem dX0_steal_69 : fet cX0_steal 69 = some (.putfield 63) := by decide +kernel
theorem dX0_steal_72 : fet cX0_steal 72 = some (.return_) := by decide +kernel
theorem dX0_turnRound_0 : fet cX0_turnRound 0 = some (.aload_n 0) := by decide +kernel
theorem dX0_turnRound_1 : fet cX0_turnRound 1 = some (.getfield 12) := by decide +kernel
theorem dX0_turnRound_4 : fet cX0_turnRound 4 = some (.getfield 95) := by decide +kernel
theorem dX0_turnRound_7 : fet cX0_turnRound 7 = some (.iload_n 1) := by decide +kernel
theorem dX0_turnRound_8 : fet cX0_turnRound 8 = some (.iaload) := by decide +kernel
theorem dX0_turnRound_9 : fet cX0_turnRound 9 = some (.aload_n 0) := by decide +kernel
theorem dX0_turnRound_10 : fet cX0_turnRound 10 = some (.getfield 21) := by decide +kernel
theorem dX0_turnRound_13 : fet cX0_turnRound 13 = some (.getfield 167) := by decide +kernel
theorem dX0_turnRound_16 : fet cX0_turnRound 16 = some (.iload_n 1) := by decide +kernel
theorem dX0_turnRound_17 : fet cX0_turnRound 17 = some (.iaload) := by decide +kernel
theorem dX0_turnRound_18 : fet cX0_turnRound 18 = some (.if_icmp .ne 7) := by decide +kernel
theorem dX0_turnRound_21 : fet cX0_turnRound 21 = some (.iconst 1) := by decide +kernel
theorem dX0_turnRound_22 : fet cX0_turnRound 22 = some (.goto 4) := by decide +kernel
theorem dX0_turnRound_25 : fet cX0_turnRound 25 = some (.iconst 0) := by decide +kernel
theorem dX0_turnRound_26 : fet cX0_turnRound 26 = some (.istore_n 2) := by decide +kernel
theorem dX0_turnRound_27 : fet cX0_turnRound 27 = some (.aload_n 0) := by decide +kernel
theorem dX0_turnRound_28 : fet cX0_turnRound 28 = some (.getfield 12) := by decide +kernel
theorem dX0_turnRound_31 : fet cX0_turnRound 31 = some (.getfield 127) := by decide +kernel
theorem dX0_turnRound_34 : fet cX0_turnRound 34 = some (.iload_n 1) := by decide +kernel
theorem dX0_turnRound_35 : fet cX0_turnRound 35 = some (.iload_n 2) := by decide +kernel
theorem dX0_turnRound_36 : fet cX0_turnRound 36 = some (.ifCond .eq 15) := by decide +kernel
theorem dX0_turnRound_39 : fet cX0_turnRound 39 = some (.aload_n 0) := by decide +kernel
theorem dX0_turnRound_40 : fet cX0_turnRound 40 = some (.getfield 21) := by decide +kernel
theorem dX0_turnRound_43 : fet cX0_turnRound 43 = some (.getfield 170) := by decide +kernel
theorem dX0_turnRound_46 : fet cX0_turnRound 46 = some (.iload_n 1) := by decide +kernel
theorem dX0_turnRound_47 : fet cX0_turnRound 47 = some (.iaload) := by decide +kernel
theorem dX0_turnRound_48 : fet cX0_turnRound 48 = some (.goto 12) := by decide +kernel
theorem dX0_turnRound_51 : fet cX0_turnRound 51 = some (.aload_n 0) := by decide +kernel
theorem dX0_turnRound_52 : fet cX0_turnRound 52 = some (.getfield 21) := by decide +kernel
theorem dX0_turnRound_55 : fet cX0_turnRound 55 = some (.getfield 167) := by decide +kernel
theorem dX0_turnRound_58 : fet cX0_turnRound 58 = some (.iload_n 1) := by decide +kernel
theorem dX0_turnRound_59 : fet cX0_turnRound 59 = some (.iaload) := by decide +kernel
theorem dX0_turnRound_60 : fet cX0_turnRound 60 = some (.iastore) := by decide +kernel
theorem dX0_turnRound_61 : fet cX0_turnRound 61 = some (.return_) := by decide +kernel
theorem dX0_spreadRumour_0 : fet cX0_spreadRumour 0 = some (.iconst 0) := by decide +kernel
theorem dX0_spreadRumour_1 : fet cX0_spreadRumour 1 = some (.istore_n 1) := by decide +kernel
theorem dX0_spreadRumour_2 : fet cX0_spreadRumour 2 = some (.iconst 0) := by decide +kernel
theorem dX0_spreadRumour_3 : fet cX0_spreadRumour 3 = some (.istore_n 2) := by decide +kernel
theorem dX0_spreadRumour_4 : fet cX0_spreadRumour 4 = some (.iload_n 2) := by decide +kernel
theorem dX0_spreadRumour_5 : fet cX0_spreadRumour 5 = some (.aload_n 0) := by decide +kernel
theorem dX0_spreadRumour_6 : fet cX0_spreadRumour 6 = some (.getfield 21) := by decide +kernel
theorem dX0_spreadRumour_9 : fet cX0_spreadRumour 9 = some (.getfield 92) := by decide +kernel
theorem dX0_spreadRumour_12 : fet cX0_spreadRumour 12 = some (.if_icmp .ge 48) := by decide +kernel
theorem dX0_spreadRumour_15 : fet cX0_spreadRumour 15 = some (.aload_n 0) := by decide +kernel
theorem dX0_spreadRumour_16 : fet cX0_spreadRumour 16 = some (.getfield 51) := by decide +kernel
theorem dX0_spreadRumour_19 : fet cX0_spreadRumour 19 = some (.iload_n 2) := by decide +kernel
theorem dX0_spreadRumour_20 : fet cX0_spreadRumour 20 = some (.ishr) := by decide +kernel
theorem dX0_spreadRumour_21 : fet cX0_spreadRumour 21 = some (.iconst 1) := by decide +kernel
theorem dX0_spreadRumour_22 : fet cX0_spreadRumour 22 = some (.iand) := by decide +kernel
theorem dX0_spreadRumour_23 : fet cX0_spreadRumour 23 = some (.ifCond .eq 31) := by decide +kernel
theorem dX0_spreadRumour_26 : fet cX0_spreadRumour 26 = some (.aload_n 0) := by decide +kernel
theorem dX0_spreadRumour_27 : fet cX0_spreadRumour 27 = some (.getfield 12) := by decide +kernel
theorem dX0_spreadRumour_30 : fet cX0_spreadRumour 30 = some (.getfield 95) := by decide +kernel
theorem dX0_spreadRumour_33 : fet cX0_spreadRumour 33 = some (.iload_n 2) := by decide +kernel
theorem dX0_spreadRumour_34 : fet cX0_spreadRumour 34 = some (.iaload) := by decide +kernel
theorem dX0_spreadRumour_35 : fet cX0_spreadRumour 35 = some (.bipush (-4)) := by decide +kernel
theorem dX0_spreadRumour_37 : fet cX0_spreadRumour 37 = some (.if_icmp .eq 17) := by decide +kernel
theorem dX0_spreadRumour_40 : fet cX0_spreadRumour 40 = some (.iload_n 1) := by decide +kernel
theorem dX0_spreadRumour_41 : fet cX0_spreadRumour 41 = some (.iconst 1) := by decide +kernel
theorem dX0_spreadRumour_42 : fet cX0_spreadRumour 42 = some (.aload_n 0) := by decide +kernel
theorem dX0_spreadRumour_43 : fet cX0_spreadRumour 43 = some (.getfield 12) := by decide +kernel
theorem dX0_spreadRumour_46 : fet cX0_spreadRumour 46 = some (.getfield 95) := by decide +kernel
theorem dX0_spreadRumour_49 : fet cX0_spreadRumour 49 = some (.iload_n 2) := by decide +kernel
theorem dX0_spreadRumour_50 : fet cX0_spreadRumour 50 = some (.iaload) := by decide +kernel
theorem dX0_spreadRumour_51 : fet cX0_spreadRumour 51 = some (.ishl) := by decide +kernel
theorem dX0_spreadRumour_52 : fet cX0_spreadRumour 52 = some (.ior) := by decide +kernel
theorem dX0_spreadRumour_53 : fet cX0_spreadRumour 53 = some (.istore_n 1) := by decide +kernel
theorem dX0_spreadRumour_54 : fet cX0_spreadRumour 54 = some (.iinc 2 1) := by decide +kernel
theorem dX0_spreadRumour_57 : fet cX0_spreadRumour 57 = some (.goto (-53)) := by decide +kernel
theorem dX0_spreadRumour_60 : fet cX0_spreadRumour 60 = some (.iconst 0) := by decide +kernel
theorem dX0_spreadRumour_61 : fet cX0_spreadRumour 61 = some (.istore_n 2) := by decide +kernel
theorem dX0_spreadRumour_62 : fet cX0_spreadRumour 62 = some (.iload_n 2) := by decide +kernel
theorem dX0_spreadRumour_63 : fet cX0_spreadRumour 63 = some (.aload_n 0) := by decide +kernel
theorem dX0_spreadRumour_64 : fet cX0_spreadRumour 64 = some (.getfield 21) := by decide +kernel
theorem dX0_spreadRumour_67 : fet cX0_spreadRumour 67 = some (.getfield 92) := by decide +kernel
theorem dX0_spreadRumour_70 : fet cX0_spreadRumour 70 = some (.if_icmp .ge 51) := by decide +kernel
theorem dX0_spreadRumour_73 : fet cX0_spreadRumour 73 = some (.aload_n 0) := by decide +kernel
theorem dX0_spreadRumour_74 : fet cX0_spreadRumour 74 = some (.getfield 12) := by decide +kernel
theorem dX0_spreadRumour_77 : fet cX0_spreadRumour 77 = some (.getfield 95) := by decide +kernel
theorem dX0_spreadRumour_80 : fet cX0_spreadRumour 80 = some (.iload_n 2) := by decide +kernel
theorem dX0_spreadRumour_81 : fet cX0_spreadRumour 81 = some (.iaload) := by decide +kernel
theorem dX0_spreadRumour_82 : fet cX0_spreadRumour 82 = some (.bipush (-4)) := by decide +kernel
theorem dX0_spreadRumour_84 : fet cX0_spreadRumour 84 = some (.if_icmp .eq 31) := by decide +kernel
theorem dX0_spreadRumour_87 : fet cX0_spreadRumour 87 = some (.iload_n 1) := by decide +kernel
theorem dX0_spreadRumour_88 : fet cX0_spreadRumour 88 = some (.aload_n 0) := by decide +kernel
theorem dX0_spreadRumour_89 : fet cX0_spreadRumour 89 = some (.getfield 12) := by decide +kernel
theorem dX0_spreadRumour_92 : fet cX0_spreadRumour 92 = some (.getfield 95) := by decide +kernel
theorem dX0_spreadRumour_95 : fet cX0_spreadRumour 95 = some (.iload_n 2) := by decide +kernel
theorem dX0_spreadRumour_96 : fet cX0_spreadRumour 96 = some (.iaload) := by decide +kernel
theorem dX0_spreadRumour_97 : fet cX0_spreadRumour 97 = some (.ishr) := by decide +kernel
theorem dX0_spreadRumour_98 : fet cX0_spreadRumour 98 = some (.iconst 1) := by decide +kernel
theorem dX0_spreadRumour_99 : fet cX0_spreadRumour 99 = some (.iand) := by decide +kernel
theorem dX0_spreadRumour_100 : fet cX0_spreadRumour 100 = some (.ifCond .eq 15) := by decide +kernel
theorem dX0_spreadRumour_103 : fet cX0_spreadRumour 103 = some (.aload_n 0) := by decide +kernel
theorem dX0_spreadRumour_104 : fet cX0_spreadRumour 104 = some (.dup) := by decide +kernel
theorem dX0_spreadRumour_105 : fet cX0_spreadRumour 105 = some (.getfield 51) := by decide +kernel
theorem dX0_spreadRumour_108 : fet cX0_spreadRumour 108 = some (.iconst 1) := by decide +kernel
theorem dX0_spreadRumour_109 : fet cX0_spreadRumour 109 = some (.iload_n 2) := by decide +kernel
theorem dX0_spreadRumour_110 : fet cX0_spreadRumour 110 = some (.ishl) := by decide +kernel
theorem dX0_spreadRumour_111 : fet cX0_spreadRumour 111 = some (.ior) := by decide +kernel
theorem dX0_spreadRumour_112 : fet cX0_spreadRumour 112 = some (.putfield 51) := by decide +kernel
theorem dX0_spreadRumour_115 : fet cX0_spreadRumour 115 = some (.iinc 2 1) := by decide +kernel
theorem dX0_spreadRumour_118 : fet cX0_spreadRumour 118 = some (.goto (-56)) := by decide +kernel
theorem dX0_spreadRumour_121 : fet cX0_spreadRumour 121 = some (.return_) := by decide +kernel
theorem dX1_init_0 : fet cX1_init 0 = some (.aload_n 0) := by decide +kernel
theorem dX1_init_1 : fet cX1_init 1 = some (.invokespecial 3) := by decide +kernel
theorem dX1_init_4 : fet cX1_init 4 = some (.aload_n 0) := by decide +kernel
theorem dX1_init_5 : fet cX1_init 5 = some (.bipush 9) := by decide +kernel
theorem dX1_init_7 : fet cX1_init 7 = some (.newarray .int) := by decide +kernel
theorem dX1_init_9 : fet cX1_init 9 = some (.putfield 9) := by decide +kernel
theorem dX1_init_12 : fet cX1_init 12 = some (.aload_n 0) := by decide +kernel
theorem dX1_init_13 : fet cX1_init 13 = some (.bipush 9) := by decide +kernel
theorem dX1_init_15 : fet cX1_init 15 = some (.newarray .int) := by decide +kernel
theorem dX1_init_17 : fet cX1_init 17 = some (.putfield 15) := by decide +kernel
theorem dX1_init_20 : fet cX1_init 20 = some (.aload_n 0) := by decide +kernel
theorem dX1_init_21 : fet cX1_init 21 = some (.bipush 9) := by decide +kernel
theorem dX1_init_23 : fet cX1_init 23 = some (.newarray .int) := by decide +kernel
theorem dX1_init_25 : fet cX1_init 25 = some (.putfield 18) := by decide +kernel
theorem dX1_init_28 : fet cX1_init 28 = some (.aload_n 0) := by decide +kernel
theorem dX1_init_29 : fet cX1_init 29 = some (.iconst 5) := by decide +kernel
theorem dX1_init_30 : fet cX1_init 30 = some (.newarray .int) := by decide +kernel
theorem dX1_init_32 : fet cX1_init 32 = some (.putfield 21) := by decide +kernel
theorem dX1_init_35 : fet cX1_init 35 = some (.aload_n 0) := by decide +kernel
theorem dX1_init_36 : fet cX1_init 36 = some (.iconst 5) := by decide +kernel
theorem dX1_init_37 : fet cX1_init 37 = some (.newarray .int) := by decide +kernel
theorem dX1_init_39 : fet cX1_init 39 = some (.putfield 24) := by decide +kernel
theorem dX1_init_42 : fet cX1_init 42 = some (.aload_n 0) := by decide +kernel
theorem dX1_init_43 : fet cX1_init 43 = some (.iconst 5) := by decide +kernel
theorem dX1_init_44 : fet cX1_init 44 = some (.newarray .int) := by decide +kernel
theorem dX1_init_46 : fet cX1_init 46 = some (.putfield 27) := by decide +kernel
theorem dX1_init_49 : fet cX1_init 49 = some (.aload_n 0) := by decide +kernel
theorem dX1_init_50 : fet cX1_init 50 = some (.iconst 5) := by decide +kernel
theorem dX1_init_51 : fet cX1_init 51 = some (.newarray .int) := by decide +kernel
theorem dX1_init_53 : fet cX1_init 53 = some (.putfield 30) := by decide +kernel
theorem dX1_init_56 : fet cX1_init 56 = some (.aload_n 0) := by decide +kernel
theorem dX1_init_57 : fet cX1_init 57 = some (.iconst 5) := by decide +kernel
theorem dX1_init_58 : fet cX1_init 58 = some (.newarray .int) := by decide +kernel
theorem dX1_init_60 : fet cX1_init 60 = some (.putfield 33) := by decide +kernel
theorem dX1_init_63 : fet cX1_init 63 = some (.aload_n 0) := by decide +kernel
theorem dX1_init_64 : fet cX1_init 64 = some (.iconst 5) := by decide +kernel
theorem dX1_init_65 : fet cX1_init 65 = some (.newarray .int) := by decide +kernel
theorem dX1_init_67 : fet cX1_init 67 = some (.putfield 36) := by decide +kernel
theorem dX1_init_70 : fet cX1_init 70 = some (.return_) := by decide +kernel
theorem dX1_empty_0 : fet cX1_empty 0 = some (.aload_n 0) := by decide +kernel
theorem dX1_empty_1 : fet cX1_empty 1 = some (.iconst 4) := by decide +kernel
theorem dX1_empty_2 : fet cX1_empty 2 = some (.putfield 39) := by decide +kernel
theorem dX1_empty_5 : fet cX1_empty 5 = some (.aload_n 0) := by decide +kernel
theorem dX1_empty_6 : fet cX1_empty 6 = some (.bipush 7) := by decide +kernel
theorem dX1_empty_8 : fet cX1_empty 8 = some (.putfield 43) := by decide +kernel
theorem dX1_empty_11 : fet cX1_empty 11 = some (.aload_n 0) := by decide +kernel
theorem dX1_empty_12 : fet cX1_empty 12 = some (.iconst 0) := by decide +kernel
theorem dX1_empty_13 : fet cX1_empty 13 = some (.putfield 46) := by decide +kernel
theorem dX1_empty_16 : fet cX1_empty 16 = some (.aload_n 0) := by decide +kernel
theorem dX1_empty_17 : fet cX1_empty 17 = some (.iconst 0) := by decide +kernel
theorem dX1_empty_18 : fet cX1_empty 18 = some (.putfield 49) := by decide +kernel
theorem dX1_empty_21 : fet cX1_empty 21 = some (.aload_n 0) := by decide +kernel
theorem dX1_empty_22 : fet cX1_empty 22 = some (.iconst 0) := by decide +kernel
theorem dX1_empty_23 : fet cX1_empty 23 = some (.putfield 52) := by decide +kernel
theorem dX1_empty_26 : fet cX1_empty 26 = some (.return_) := by decide +kernel
theorem dX1_lowestInto_0 : fet cX1_lowestInto 0 = some (.iconst 0) := by decide +kernel
theorem dX1_lowestInto_1 : fet cX1_lowestInto 1 = some (.istore 4) := by decide +kernel
theorem dX1_lowestInto_3 : fet cX1_lowestInto 3 = some (.iload 4) := by decide +kernel
theorem dX1_lowestInto_5 : fet cX1_lowestInto 5 = some (.aload_n 0) := by decide +kernel
theorem dX1_lowestInto_6 : fet cX1_lowestInto 6 = some (.getfield 46) := by decide +kernel
theorem dX1_lowestInto_9 : fet cX1_lowestInto 9 = some (.if_icmp .ge 77) := by decide +kernel
theorem dX1_lowestInto_12 : fet cX1_lowestInto 12 = some (.iload_n 3) := by decide +kernel
theorem dX1_lowestInto_13 : fet cX1_lowestInto 13 = some (.iload 4) := by decide +kernel
theorem dX1_lowestInto_15 : fet cX1_lowestInto 15 = some (.ishr) := by decide +kernel
theorem dX1_lowestInto_16 : fet cX1_lowestInto 16 = some (.iconst 1) := by decide +kernel
theorem dX1_lowestInto_17 : fet cX1_lowestInto 17 = some (.iand) := by decide +kernel
theorem dX1_lowestInto_18 : fet cX1_lowestInto 18 = some (.ifCond .ne 6) := by decide +kernel
theorem dX1_lowestInto_21 : fet cX1_lowestInto 21 = some (.goto 59) := by decide +kernel
theorem dX1_lowestInto_24 : fet cX1_lowestInto 24 = some (.aload_n 0) := by decide +kernel
theorem dX1_lowestInto_25 : fet cX1_lowestInto 25 = some (.getfield 9) := by decide +kernel
theorem dX1_lowestInto_28 : fet cX1_lowestInto 28 = some (.iload 4) := by decide +kernel
theorem dX1_lowestInto_30 : fet cX1_lowestInto 30 = some (.iaload) := by decide +kernel
theorem dX1_lowestInto_31 : fet cX1_lowestInto 31 = some (.iload_n 2) := by decide +kernel
theorem dX1_lowestInto_32 : fet cX1_lowestInto 32 = some (.if_icmp .ne 20) := by decide +kernel
theorem dX1_lowestInto_35 : fet cX1_lowestInto 35 = some (.iload_n 1) := by decide +kernel
theorem dX1_lowestInto_36 : fet cX1_lowestInto 36 = some (.aload_n 0) := by decide +kernel
theorem dX1_lowestInto_37 : fet cX1_lowestInto 37 = some (.getfield 15) := by decide +kernel
theorem dX1_lowestInto_40 : fet cX1_lowestInto 40 = some (.iload 4) := by decide +kernel
theorem dX1_lowestInto_42 : fet cX1_lowestInto 42 = some (.iaload) := by decide +kernel
theorem dX1_lowestInto_43 : fet cX1_lowestInto 43 = some (.ishr) := by decide +kernel
theorem dX1_lowestInto_44 : fet cX1_lowestInto 44 = some (.iconst 1) := by decide +kernel
theorem dX1_lowestInto_45 : fet cX1_lowestInto 45 = some (.iand) := by decide +kernel
theorem dX1_lowestInto_46 : fet cX1_lowestInto 46 = some (.ifCond .eq 6) := by decide +kernel
theorem dX1_lowestInto_49 : fet cX1_lowestInto 49 = some (.iload 4) := by decide +kernel
theorem dX1_lowestInto_51 : fet cX1_lowestInto 51 = some (.ireturn) := by decide +kernel
theorem dX1_lowestInto_52 : fet cX1_lowestInto 52 = some (.aload_n 0) := by decide +kernel
theorem dX1_lowestInto_53 : fet cX1_lowestInto 53 = some (.getfield 15) := by decide +kernel
theorem dX1_lowestInto_56 : fet cX1_lowestInto 56 = some (.iload 4) := by decide +kernel
theorem dX1_lowestInto_58 : fet cX1_lowestInto 58 = some (.iaload) := by decide +kernel
theorem dX1_lowestInto_59 : fet cX1_lowestInto 59 = some (.iload_n 2) := by decide +kernel
theorem dX1_lowestInto_60 : fet cX1_lowestInto 60 = some (.if_icmp .ne 20) := by decide +kernel
theorem dX1_lowestInto_63 : fet cX1_lowestInto 63 = some (.iload_n 1) := by decide +kernel
theorem dX1_lowestInto_64 : fet cX1_lowestInto 64 = some (.aload_n 0) := by decide +kernel
theorem dX1_lowestInto_65 : fet cX1_lowestInto 65 = some (.getfield 9) := by decide +kernel
theorem dX1_lowestInto_68 : fet cX1_lowestInto 68 = some (.iload 4) := by decide +kernel
theorem dX1_lowestInto_70 : fet cX1_lowestInto 70 = some (.iaload) := by decide +kernel
theorem dX1_lowestInto_71 : fet cX1_lowestInto 71 = some (.ishr) := by decide +kernel
theorem dX1_lowestInto_72 : fet cX1_lowestInto 72 = some (.iconst 1) := by decide +kernel
theorem dX1_lowestInto_73 : fet cX1_lowestInto 73 = some (.iand) := by decide +kernel
theorem dX1_lowestInto_74 : fet cX1_lowestInto 74 = some (.ifCond .eq 6) := by decide +kernel
theorem dX1_lowestInto_77 : fet cX1_lowestInto 77 = some (.iload 4) := by decide +kernel
theorem dX1_lowestInto_79 : fet cX1_lowestInto 79 = some (.ireturn) := by decide +kernel
theorem dX1_lowestInto_80 : fet cX1_lowestInto 80 = some (.iinc 4 1) := by decide +kernel
theorem dX1_lowestInto_83 : fet cX1_lowestInto 83 = some (.goto (-80)) := by decide +kernel
theorem dX1_lowestInto_86 : fet cX1_lowestInto 86 = some (.bipush (-4)) := by decide +kernel
theorem dX1_lowestInto_88 : fet cX1_lowestInto 88 = some (.ireturn) := by decide +kernel
theorem dX1_widened_0 : fet cX1_widened 0 = some (.iload_n 1) := by decide +kernel
theorem dX1_widened_1 : fet cX1_widened 1 = some (.istore_n 3) := by decide +kernel
theorem dX1_widened_2 : fet cX1_widened 2 = some (.iconst 0) := by decide +kernel
theorem dX1_widened_3 : fet cX1_widened 3 = some (.istore 4) := by decide +kernel
theorem dX1_widened_5 : fet cX1_widened 5 = some (.iload 4) := by decide +kernel
theorem dX1_widened_7 : fet cX1_widened 7 = some (.aload_n 0) := by decide +kernel
theorem dX1_widened_8 : fet cX1_widened 8 = some (.getfield 46) := by decide +kernel
theorem dX1_widened_11 : fet cX1_widened 11 = some (.if_icmp .ge 54) := by decide +kernel
theorem dX1_widened_14 : fet cX1_widened 14 = some (.iload_n 2) := by decide +kernel
theorem dX1_widened_15 : fet cX1_widened 15 = some (.iload 4) := by decide +kernel
theorem dX1_widened_17 : fet cX1_widened 17 = some (.ishr) := by decide +kernel
theorem dX1_widened_18 : fet cX1_widened 18 = some (.iconst 1) := by decide +kernel
theorem dX1_widened_19 : fet cX1_widened 19 = some (.iand) := by decide +kernel
theorem dX1_widened_20 : fet cX1_widened 20 = some (.ifCond .ne 6) := by decide +kernel
theorem dX1_widened_23 : fet cX1_widened 23 = some (.goto 36) := by decide +kernel
theorem dX1_widened_26 : fet cX1_widened 26 = some (.iconst 1) := by decide +kernel
theorem dX1_widened_27 : fet cX1_widened 27 = some (.aload_n 0) := by decide +kernel
theorem dX1_widened_28 : fet cX1_widened 28 = some (.getfield 9) := by decide +kernel
theorem dX1_widened_31 : fet cX1_widened 31 = some (.iload 4) := by decide +kernel
theorem dX1_widened_33 : fet cX1_widened 33 = some (.iaload) := by decide +kernel
theorem dX1_widened_34 : fet cX1_widened 34 = some (.ishl) := by decide +kernel
theorem dX1_widened_35 : fet cX1_widened 35 = some (.iconst 1) := by decide +kernel
theorem dX1_widened_36 : fet cX1_widened 36 = some (.aload_n 0) := by decide +kernel
theorem dX1_widened_37 : fet cX1_widened 37 = some (.getfield 15) := by decide +kernel
theorem dX1_widened_40 : fet cX1_widened 40 = some (.iload 4) := by decide +kernel
theorem dX1_widened_42 : fet cX1_widened 42 = some (.iaload) := by decide +kernel
theorem dX1_widened_43 : fet cX1_widened 43 = some (.ishl) := by decide +kernel
theorem dX1_widened_44 : fet cX1_widened 44 = some (.ior) := by decide +kernel
theorem dX1_widened_45 : fet cX1_widened 45 = some (.istore 5) := by decide +kernel
theorem dX1_widened_47 : fet cX1_widened 47 = some (.iload_n 1) := by decide +kernel
theorem dX1_widened_48 : fet cX1_widened 48 = some (.iload 5) := by decide +kernel
theorem dX1_widened_50 : fet cX1_widened 50 = some (.iand) := by decide +kernel
theorem dX1_widened_51 : fet cX1_widened 51 = some (.ifCond .eq 8) := by decide +kernel
theorem dX1_widened_54 : fet cX1_widened 54 = some (.iload_n 3) := by decide +kernel
theorem dX1_widened_55 : fet cX1_widened 55 = some (.iload 5) := by decide +kernel
theorem dX1_widened_57 : fet cX1_widened 57 = some (.ior) := by decide +kernel
theorem dX1_widened_58 : fet cX1_widened 58 = some (.istore_n 3) := by decide +kernel
theorem dX1_widened_59 : fet cX1_widened 59 = some (.iinc 4 1) := by decide +kernel
theorem dX1_widened_62 : fet cX1_widened 62 = some (.goto (-57)) := by decide +kernel
theorem dX1_widened_65 : fet cX1_widened 65 = some (.iload_n 3) := by decide +kernel
theorem dX1_widened_66 : fet cX1_widened 66 = some (.ireturn) := by decide +kernel
theorem dX1_lowestBeside_0 : fet cX1_lowestBeside 0 = some (.iconst 0) := by decide +kernel
theorem dX1_lowestBeside_1 : fet cX1_lowestBeside 1 = some (.istore_n 2) := by decide +kernel
theorem dX1_lowestBeside_2 : fet cX1_lowestBeside 2 = some (.iload_n 2) := by decide +kernel
theorem dX1_lowestBeside_3 : fet cX1_lowestBeside 3 = some (.aload_n 0) := by decide +kernel
theorem dX1_lowestBeside_4 : fet cX1_lowestBeside 4 = some (.getfield 46) := by decide +kernel
theorem dX1_lowestBeside_7 : fet cX1_lowestBeside 7 = some (.if_icmp .ge 31) := by decide +kernel
theorem dX1_lowestBeside_10 : fet cX1_lowestBeside 10 = some (.aload_n 0) := by decide +kernel
theorem dX1_lowestBeside_11 : fet cX1_lowestBeside 11 = some (.getfield 9) := by decide +kernel
theorem dX1_lowestBeside_14 : fet cX1_lowestBeside 14 = some (.iload_n 2) := by decide +kernel
theorem dX1_lowestBeside_15 : fet cX1_lowestBeside 15 = some (.iaload) := by decide +kernel
theorem dX1_lowestBeside_16 : fet cX1_lowestBeside 16 = some (.iload_n 1) := by decide +kernel
theorem dX1_lowestBeside_17 : fet cX1_lowestBeside 17 = some (.if_icmp .eq 13) := by decide +kernel
theorem dX1_lowestBeside_20 : fet cX1_lowestBeside 20 = some (.aload_n 0) := by decide +kernel
theorem dX1_lowestBeside_21 : fet cX1_lowestBeside 21 = some (.getfield 15) := by decide +kernel
theorem dX1_lowestBeside_24 : fet cX1_lowestBeside 24 = some (.iload_n 2) := by decide +kernel
theorem dX1_lowestBeside_25 : fet cX1_lowestBeside 25 = some (.iaload) := by decide +kernel
theorem dX1_lowestBeside_26 : fet cX1_lowestBeside 26 = some (.iload_n 1) := by decide +kernel
theorem dX1_lowestBeside_27 : fet cX1_lowestBeside 27 = some (.if_icmp .ne 5) := by decide +kernel
theorem dX1_lowestBeside_30 : fet cX1_lowestBeside 30 = some (.iload_n 2) := by decide +kernel
theorem dX1_lowestBeside_31 : fet cX1_lowestBeside 31 = some (.ireturn) := by decide +kernel
theorem dX1_lowestBeside_32 : fet cX1_lowestBeside 32 = some (.iinc 2 1) := by decide +kernel
theorem dX1_lowestBeside_35 : fet cX1_lowestBeside 35 = some (.goto (-33)) := by decide +kernel
theorem dX1_lowestBeside_38 : fet cX1_lowestBeside 38 = some (.bipush (-4)) := by decide +kernel
theorem dX1_lowestBeside_40 : fet cX1_lowestBeside 40 = some (.ireturn) := by decide +kernel
theorem dX2_init_0 : fet cX2_init 0 = some (.aload_n 0) := by decide +kernel
theorem dX2_init_1 : fet cX2_init 1 = some (.invokespecial 3) := by decide +kernel
theorem dX2_init_4 : fet cX2_init 4 = some (.aload_n 0) := by decide +kernel
theorem dX2_init_5 : fet cX2_init 5 = some (.bipush 8) := by decide +kernel
theorem dX2_init_7 : fet cX2_init 7 = some (.newarray .int) := by decide +kernel
theorem dX2_init_9 : fet cX2_init 9 = some (.putfield 11) := by decide +kernel
theorem dX2_init_12 : fet cX2_init 12 = some (.aload_n 0) := by decide +kernel
theorem dX2_init_13 : fet cX2_init 13 = some (.bipush 8) := by decide +kernel
theorem dX2_init_15 : fet cX2_init 15 = some (.newarray .int) := by decide +kernel
theorem dX2_init_17 : fet cX2_init 17 = some (.putfield 15) := by decide +kernel
theorem dX2_init_20 : fet cX2_init 20 = some (.aload_n 0) := by decide +kernel
theorem dX2_init_21 : fet cX2_init 21 = some (.bipush 8) := by decide +kernel
theorem dX2_init_23 : fet cX2_init 23 = some (.newarray .int) := by decide +kernel
theorem dX2_init_25 : fet cX2_init 25 = some (.putfield 18) := by decide +kernel
theorem dX2_init_28 : fet cX2_init 28 = some (.aload_n 0) := by decide +kernel
theorem dX2_init_29 : fet cX2_init 29 = some (.bipush 8) := by decide +kernel
theorem dX2_init_31 : fet cX2_init 31 = some (.newarray .int) := by decide +kernel
theorem dX2_init_33 : fet cX2_init 33 = some (.putfield 21) := by decide +kernel
theorem dX2_init_36 : fet cX2_init 36 = some (.return_) := by decide +kernel
theorem dX2_add_0 : fet cX2_add 0 = some (.aload_n 0) := by decide +kernel
theorem dX2_add_1 : fet cX2_add 1 = some (.getfield 24) := by decide +kernel
theorem dX2_add_4 : fet cX2_add 4 = some (.ifCond .lt 12) := by decide +kernel
theorem dX2_add_7 : fet cX2_add 7 = some (.aload_n 0) := by decide +kernel
theorem dX2_add_8 : fet cX2_add 8 = some (.getfield 24) := by decide +kernel
theorem dX2_add_11 : fet cX2_add 11 = some (.bipush 8) := by decide +kernel
theorem dX2_add_13 : fet cX2_add 13 = some (.if_icmp .lt 6) := by decide +kernel
theorem dX2_add_16 : fet cX2_add 16 = some (.bipush (-3)) := by decide +kernel
theorem dX2_add_18 : fet cX2_add 18 = some (.ireturn) := by decide +kernel
theorem dX2_add_19 : fet cX2_add 19 = some (.aload_n 0) := by decide +kernel
theorem dX2_add_20 : fet cX2_add 20 = some (.getfield 11) := by decide +kernel
theorem dX2_add_23 : fet cX2_add 23 = some (.aload_n 0) := by decide +kernel
theorem dX2_add_24 : fet cX2_add 24 = some (.getfield 24) := by decide +kernel
theorem dX2_add_27 : fet cX2_add 27 = some (.iload_n 1) := by decide +kernel
theorem dX2_add_28 : fet cX2_add 28 = some (.iastore) := by decide +kernel
theorem dX2_add_29 : fet cX2_add 29 = some (.aload_n 0) := by decide +kernel
theorem dX2_add_30 : fet cX2_add 30 = some (.getfield 15) := by decide +kernel
theorem dX2_add_33 : fet cX2_add 33 = some (.aload_n 0) := by decide +kernel
theorem dX2_add_34 : fet cX2_add 34 = some (.getfield 24) := by decide +kernel
theorem dX2_add_37 : fet cX2_add 37 = some (.iload_n 2) := by decide +kernel
theorem dX2_add_38 : fet cX2_add 38 = some (.iastore) := by decide +kernel
theorem dX2_add_39 : fet cX2_add 39 = some (.aload_n 0) := by decide +kernel
theorem dX2_add_40 : fet cX2_add 40 = some (.getfield 18) := by decide +kernel
theorem dX2_add_43 : fet cX2_add 43 = some (.aload_n 0) := by decide +kernel
theorem dX2_add_44 : fet cX2_add 44 = some (.getfield 24) := by decide +kernel
theorem dX2_add_47 : fet cX2_add 47 = some (.iload_n 3) := by decide +kernel
theorem dX2_add_48 : fet cX2_add 48 = some (.iastore) := by decide +kernel
theorem dX2_add_49 : fet cX2_add 49 = some (.aload_n 0) := by decide +kernel
theorem dX2_add_50 : fet cX2_add 50 = some (.getfield 21) := by decide +kernel
theorem dX2_add_53 : fet cX2_add 53 = some (.aload_n 0) := by decide +kernel
theorem dX2_add_54 : fet cX2_add 54 = some (.getfield 24) := by decide +kernel
theorem dX2_add_57 : fet cX2_add 57 = some (.iload 4) := by decide +kernel
theorem dX2_add_59 : fet cX2_add 59 = some (.ifCond .eq 7) := by decide +kernel
theorem dX2_add_62 : fet cX2_add 62 = some (.iconst 1) := by decide +kernel
theorem dX2_add_63 : fet cX2_add 63 = some (.goto 4) := by decide +kernel
theorem dX2_add_66 : fet cX2_add 66 = some (.iconst 0) := by decide +kernel
theorem dX2_add_67 : fet cX2_add 67 = some (.iastore) := by decide +kernel
theorem dX2_add_68 : fet cX2_add 68 = some (.aload_n 0) := by decide +kernel
theorem dX2_add_69 : fet cX2_add 69 = some (.dup) := by decide +kernel
theorem dX2_add_70 : fet cX2_add 70 = some (.getfield 24) := by decide +kernel
theorem dX2_add_73 : fet cX2_add 73 = some (.iconst 1) := by decide +kernel
theorem dX2_add_74 : fet cX2_add 74 = some (.iadd) := by decide +kernel
theorem dX2_add_75 : fet cX2_add 75 = some (.putfield 24) := by decide +kernel
theorem dX2_add_78 : fet cX2_add 78 = some (.aload_n 0) := by decide +kernel
theorem dX2_add_79 : fet cX2_add 79 = some (.getfield 24) := by decide +kernel
theorem dX2_add_82 : fet cX2_add 82 = some (.ireturn) := by decide +kernel
theorem dX2_least_0 : fet cX2_least 0 = some (.iconst 0) := by decide +kernel
theorem dX2_least_1 : fet cX2_least 1 = some (.istore_n 3) := by decide +kernel
theorem dX2_least_2 : fet cX2_least 2 = some (.iconst 0) := by decide +kernel
theorem dX2_least_3 : fet cX2_least 3 = some (.istore 4) := by decide +kernel
theorem dX2_least_5 : fet cX2_least 5 = some (.iload 4) := by decide +kernel
theorem dX2_least_7 : fet cX2_least 7 = some (.aload_n 0) := by decide +kernel
theorem dX2_least_8 : fet cX2_least 8 = some (.getfield 24) := by decide +kernel
theorem dX2_least_11 : fet cX2_least 11 = some (.if_icmp .ge 57) := by decide +kernel
theorem dX2_least_14 : fet cX2_least 14 = some (.iload 4) := by decide +kernel
theorem dX2_least_16 : fet cX2_least 16 = some (.bipush 8) := by decide +kernel
theorem dX2_least_18 : fet cX2_least 18 = some (.if_icmp .ge 50) := by decide +kernel
theorem dX2_least_21 : fet cX2_least 21 = some (.aload_n 0) := by decide +kernel
theorem dX2_least_22 : fet cX2_least 22 = some (.iload 4) := by decide +kernel
theorem dX2_least_24 : fet cX2_least 24 = some (.iload_n 1) := by decide +kernel
theorem dX2_least_25 : fet cX2_least 25 = some (.iload_n 2) := by decide +kernel
theorem dX2_least_26 : fet cX2_least 26 = some (.invokevirtual 28) := by decide +kernel
theorem dX2_least_29 : fet cX2_least 29 = some (.ifCond .eq 33) := by decide +kernel
theorem dX2_least_32 : fet cX2_least 32 = some (.aload_n 0) := by decide +kernel
theorem dX2_least_33 : fet cX2_least 33 = some (.getfield 21) := by decide +kernel
theorem dX2_least_36 : fet cX2_least 36 = some (.iload 4) := by decide +kernel
theorem dX2_least_38 : fet cX2_least 38 = some (.iaload) := by decide +kernel
theorem dX2_least_39 : fet cX2_least 39 = some (.iconst 1) := by decide +kernel
theorem dX2_least_40 : fet cX2_least 40 = some (.if_icmp .ne 22) := by decide +kernel
theorem dX2_least_43 : fet cX2_least 43 = some (.aload_n 0) := by decide +kernel
theorem dX2_least_44 : fet cX2_least 44 = some (.getfield 18) := by decide +kernel
theorem dX2_least_47 : fet cX2_least 47 = some (.iload 4) := by decide +kernel
theorem dX2_least_49 : fet cX2_least 49 = some (.iaload) := by decide +kernel
theorem dX2_least_50 : fet cX2_least 50 = some (.iload_n 3) := by decide +kernel
theorem dX2_least_51 : fet cX2_least 51 = some (.if_icmp .le 11) := by decide +kernel
theorem dX2_least_54 : fet cX2_least 54 = some (.aload_n 0) := by decide +kernel
theorem dX2_least_55 : fet cX2_least 55 = some (.getfield 18) := by decide +kernel
theorem dX2_least_58 : fet cX2_least 58 = some (.iload 4) := by decide +kernel
theorem dX2_least_60 : fet cX2_least 60 = some (.iaload) := by decide +kernel
theorem dX2_least_61 : fet cX2_least 61 = some (.istore_n 3) := by decide +kernel
theorem dX2_least_62 : fet cX2_least 62 = some (.iinc 4 1) := by decide +kernel
theorem dX2_least_65 : fet cX2_least 65 = some (.goto (-60)) := by decide +kernel
theorem dX2_least_68 : fet cX2_least 68 = some (.iload_n 3) := by decide +kernel
theorem dX2_least_69 : fet cX2_least 69 = some (.ireturn) := by decide +kernel
theorem dX2_most_0 : fet cX2_most 0 = some (.bipush 99) := by decide +kernel
theorem dX2_most_2 : fet cX2_most 2 = some (.istore_n 3) := by decide +kernel
theorem dX2_most_3 : fet cX2_most 3 = some (.iconst 0) := by decide +kernel
theorem dX2_most_4 : fet cX2_most 4 = some (.istore 4) := by decide +kernel
theorem dX2_most_6 : fet cX2_most 6 = some (.iload 4) := by decide +kernel
theorem dX2_most_8 : fet cX2_most 8 = some (.aload_n 0) := by decide +kernel
theorem dX2_most_9 : fet cX2_most 9 = some (.getfield 24) := by decide +kernel
theorem dX2_most_12 : fet cX2_most 12 = some (.if_icmp .ge 58) := by decide +kernel
theorem dX2_most_15 : fet cX2_most 15 = some (.iload 4) := by decide +kernel
theorem dX2_most_17 : fet cX2_most 17 = some (.bipush 8) := by decide +kernel
theorem dX2_most_19 : fet cX2_most 19 = some (.if_icmp .ge 51) := by decide +kernel
theorem dX2_most_22 : fet cX2_most 22 = some (.aload_n 0) := by decide +kernel
theorem dX2_most_23 : fet cX2_most 23 = some (.iload 4) := by decide +kernel
theorem dX2_most_25 : fet cX2_most 25 = some (.iload_n 1) := by decide +kernel
theorem dX2_most_26 : fet cX2_most 26 = some (.iload_n 2) := by decide +kernel
theorem dX2_most_27 : fet cX2_most 27 = some (.invokevirtual 28) := by decide +kernel
theorem dX2_most_30 : fet cX2_most 30 = some (.ifCond .eq 34) := by decide +kernel
theorem dX2_most_33 : fet cX2_most 33 = some (.aload_n 0) := by decide +kernel
theorem dX2_most_34 : fet cX2_most 34 = some (.getfield 21) := by decide +kernel
theorem dX2_most_37 : fet cX2_most 37 = some (.iload 4) := by decide +kernel
theorem dX2_most_39 : fet cX2_most 39 = some (.iaload) := by decide +kernel
theorem dX2_most_40 : fet cX2_most 40 = some (.ifCond .ne 24) := by decide +kernel
theorem dX2_most_43 : fet cX2_most 43 = some (.aload_n 0) := by decide +kernel
theorem dX2_most_44 : fet cX2_most 44 = some (.getfield 18) := by decide +kernel
theorem dX2_most_47 : fet cX2_most 47 = some (.iload 4) := by decide +kernel
theorem dX2_most_49 : fet cX2_most 49 = some (.iaload) := by decide +kernel
theorem dX2_most_50 : fet cX2_most 50 = some (.iload_n 3) := by decide +kernel
theorem dX2_most_51 : fet cX2_most 51 = some (.if_icmp .gt 13) := by decide +kernel
theorem dX2_most_54 : fet cX2_most 54 = some (.aload_n 0) := by decide +kernel
theorem dX2_most_55 : fet cX2_most 55 = some (.getfield 18) := by decide +kernel
theorem dX2_most_58 : fet cX2_most 58 = some (.iload 4) := by decide +kernel
theorem dX2_most_60 : fet cX2_most 60 = some (.iaload) := by decide +kernel
theorem dX2_most_61 : fet cX2_most 61 = some (.iconst 1) := by decide +kernel
theorem dX2_most_62 : fet cX2_most 62 = some (.isub) := by decide +kernel
theorem dX2_most_63 : fet cX2_most 63 = some (.istore_n 3) := by decide +kernel
theorem dX2_most_64 : fet cX2_most 64 = some (.iinc 4 1) := by decide +kernel
theorem dX2_most_67 : fet cX2_most 67 = some (.goto (-61)) := by decide +kernel
theorem dX2_most_70 : fet cX2_most 70 = some (.iload_n 3) := by decide +kernel
theorem dX2_most_71 : fet cX2_most 71 = some (.ireturn) := by decide +kernel
theorem dX2_isOf_0 : fet cX2_isOf 0 = some (.aload_n 0) := by decide +kernel
theorem dX2_isOf_1 : fet cX2_isOf 1 = some (.getfield 11) := by decide +kernel
theorem dX2_isOf_4 : fet cX2_isOf 4 = some (.iload_n 1) := by decide +kernel
theorem dX2_isOf_5 : fet cX2_isOf 5 = some (.iaload) := by decide +kernel
theorem dX2_isOf_6 : fet cX2_isOf 6 = some (.iload_n 2) := by decide +kernel
theorem dX2_isOf_7 : fet cX2_isOf 7 = some (.if_icmp .ne 17) := by decide +kernel
theorem dX2_isOf_10 : fet cX2_isOf 10 = some (.aload_n 0) := by decide +kernel
theorem dX2_isOf_11 : fet cX2_isOf 11 = some (.getfield 15) := by decide +kernel
theorem dX2_isOf_14 : fet cX2_isOf 14 = some (.iload_n 1) := by decide +kernel
theorem dX2_isOf_15 : fet cX2_isOf 15 = some (.iaload) := by decide +kernel
theorem dX2_isOf_16 : fet cX2_isOf 16 = some (.iload_n 3) := by decide +kernel
theorem dX2_isOf_17 : fet cX2_isOf 17 = some (.if_icmp .ne 7) := by decide +kernel
theorem dX2_isOf_20 : fet cX2_isOf 20 = some (.iconst 1) := by decide +kernel
theorem dX2_isOf_21 : fet cX2_isOf 21 = some (.goto 4) := by decide +kernel
theorem dX2_isOf_24 : fet cX2_isOf 24 = some (.iconst 0) := by decide +kernel
theorem dX2_isOf_25 : fet cX2_isOf 25 = some (.ireturn) := by decide +kernel
theorem dX3_init_0 : fet cX3_init 0 = some (.aload_n 0) := by decide +kernel
theorem dX3_init_1 : fet cX3_init 1 = some (.invokespecial 1) := by decide +kernel
theorem dX3_init_4 : fet cX3_init 4 = some (.aload_n 0) := by decide +kernel
theorem dX3_init_5 : fet cX3_init 5 = some (.iload_n 1) := by decide +kernel
theorem dX3_init_6 : fet cX3_init 6 = some (.ifCond .le 7) := by decide +kernel
theorem dX3_init_9 : fet cX3_init 9 = some (.iload_n 1) := by decide +kernel
theorem dX3_init_10 : fet cX3_init 10 = some (.goto 4) := by decide +kernel
theorem dX3_init_13 : fet cX3_init 13 = some (.iconst 1) := by decide +kernel
theorem dX3_init_14 : fet cX3_init 14 = some (.anewarray 7) := by decide +kernel
theorem dX3_init_17 : fet cX3_init 17 = some (.putfield 9) := by decide +kernel
theorem dX3_init_20 : fet cX3_init 20 = some (.iconst 0) := by decide +kernel
theorem dX3_init_21 : fet cX3_init 21 = some (.istore_n 2) := by decide +kernel
theorem dX3_init_22 : fet cX3_init 22 = some (.iload_n 2) := by decide +kernel
theorem dX3_init_23 : fet cX3_init 23 = some (.aload_n 0) := by decide +kernel
theorem dX3_init_24 : fet cX3_init 24 = some (.getfield 9) := by decide +kernel
theorem dX3_init_27 : fet cX3_init 27 = some (.arraylength) := by decide +kernel
theorem dX3_init_28 : fet cX3_init 28 = some (.if_icmp .ge 22) := by decide +kernel
theorem dX3_init_31 : fet cX3_init 31 = some (.aload_n 0) := by decide +kernel
theorem dX3_init_32 : fet cX3_init 32 = some (.getfield 9) := by decide +kernel
theorem dX3_init_35 : fet cX3_init 35 = some (.iload_n 2) := by decide +kernel
theorem dX3_init_36 : fet cX3_init 36 = some (.new 7) := by decide +kernel
theorem dX3_init_39 : fet cX3_init 39 = some (.dup) := by decide +kernel
theorem dX3_init_40 : fet cX3_init 40 = some (.invokespecial 15) := by decide +kernel
theorem dX3_init_43 : fet cX3_init 43 = some (.aastore) := by decide +kernel
theorem dX3_init_44 : fet cX3_init 44 = some (.iinc 2 1) := by decide +kernel
theorem dX3_init_47 : fet cX3_init 47 = some (.goto (-25)) := by decide +kernel
theorem dX3_init_50 : fet cX3_init 50 = some (.return_) := by decide +kernel
theorem dX3_push_0 : fet cX3_push 0 = some (.aload_n 0) := by decide +kernel
theorem dX3_push_1 : fet cX3_push 1 = some (.getfield 16) := by decide +kernel
theorem dX3_push_4 : fet cX3_push 4 = some (.aload_n 0) := by decide +kernel
theorem dX3_push_5 : fet cX3_push 5 = some (.getfield 9) := by decide +kernel
theorem dX3_push_8 : fet cX3_push 8 = some (.arraylength) := by decide +kernel
theorem dX3_push_9 : fet cX3_push 9 = some (.if_icmp .lt 7) := by decide +kernel
theorem dX3_push_12 : fet cX3_push 12 = some (.aload_n 0) := by decide +kernel
theorem dX3_push_13 : fet cX3_push 13 = some (.invokevirtual 20) := by decide +kernel
theorem dX3_push_16 : fet cX3_push 16 = some (.aload_n 0) := by decide +kernel
theorem dX3_push_17 : fet cX3_push 17 = some (.getfield 9) := by decide +kernel
theorem dX3_push_20 : fet cX3_push 20 = some (.aload_n 0) := by decide +kernel
theorem dX3_push_21 : fet cX3_push 21 = some (.getfield 16) := by decide +kernel
theorem dX3_push_24 : fet cX3_push 24 = some (.aaload) := by decide +kernel
theorem dX3_push_25 : fet cX3_push 25 = some (.aload_n 1) := by decide +kernel
theorem dX3_push_26 : fet cX3_push 26 = some (.invokevirtual 23) := by decide +kernel
theorem dX3_push_29 : fet cX3_push 29 = some (.aload_n 0) := by decide +kernel
theorem dX3_push_30 : fet cX3_push 30 = some (.dup) := by decide +kernel
theorem dX3_push_31 : fet cX3_push 31 = some (.getfield 16) := by decide +kernel
theorem dX3_push_34 : fet cX3_push 34 = some (.iconst 1) := by decide +kernel
theorem dX3_push_35 : fet cX3_push 35 = some (.iadd) := by decide +kernel
theorem dX3_push_36 : fet cX3_push 36 = some (.putfield 16) := by decide +kernel
theorem dX3_push_39 : fet cX3_push 39 = some (.return_) := by decide +kernel
theorem dX3_dropOldest_0 : fet cX3_dropOldest 0 = some (.aload_n 0) := by decide +kernel
theorem dX3_dropOldest_1 : fet cX3_dropOldest 1 = some (.getfield 9) := by decide +kernel
theorem dX3_dropOldest_4 : fet cX3_dropOldest 4 = some (.iconst 0) := by decide +kernel
theorem dX3_dropOldest_5 : fet cX3_dropOldest 5 = some (.aaload) := by decide +kernel
theorem dX3_dropOldest_6 : fet cX3_dropOldest 6 = some (.astore_n 1) := by decide +kernel
theorem dX3_dropOldest_7 : fet cX3_dropOldest 7 = some (.iconst 1) := by decide +kernel
theorem dX3_dropOldest_8 : fet cX3_dropOldest 8 = some (.istore_n 2) := by decide +kernel
theorem dX3_dropOldest_9 : fet cX3_dropOldest 9 = some (.iload_n 2) := by decide +kernel
theorem dX3_dropOldest_10 : fet cX3_dropOldest 10 = some (.aload_n 0) := by decide +kernel
theorem dX3_dropOldest_11 : fet cX3_dropOldest 11 = some (.getfield 9) := by decide +kernel
theorem dX3_dropOldest_14 : fet cX3_dropOldest 14 = some (.arraylength) := by decide +kernel
theorem dX3_dropOldest_15 : fet cX3_dropOldest 15 = some (.if_icmp .ge 23) := by decide +kernel
theorem dX3_dropOldest_18 : fet cX3_dropOldest 18 = some (.aload_n 0) := by decide +kernel
theorem dX3_dropOldest_19 : fet cX3_dropOldest 19 = some (.getfield 9) := by decide +kernel
theorem dX3_dropOldest_22 : fet cX3_dropOldest 22 = some (.iload_n 2) := by decide +kernel
theorem dX3_dropOldest_23 : fet cX3_dropOldest 23 = some (.iconst 1) := by decide +kernel
theorem dX3_dropOldest_24 : fet cX3_dropOldest 24 = some (.isub) := by decide +kernel
theorem dX3_dropOldest_25 : fet cX3_dropOldest 25 = some (.aload_n 0) := by decide +kernel
theorem dX3_dropOldest_26 : fet cX3_dropOldest 26 = some (.getfield 9) := by decide +kernel
theorem dX3_dropOldest_29 : fet cX3_dropOldest 29 = some (.iload_n 2) := by decide +kernel
theorem dX3_dropOldest_30 : fet cX3_dropOldest 30 = some (.aaload) := by decide +kernel
theorem dX3_dropOldest_31 : fet cX3_dropOldest 31 = some (.aastore) := by decide +kernel
theorem dX3_dropOldest_32 : fet cX3_dropOldest 32 = some (.iinc 2 1) := by decide +kernel
theorem dX3_dropOldest_35 : fet cX3_dropOldest 35 = some (.goto (-26)) := by decide +kernel
theorem dX3_dropOldest_38 : fet cX3_dropOldest 38 = some (.aload_n 0) := by decide +kernel
theorem dX3_dropOldest_39 : fet cX3_dropOldest 39 = some (.getfield 9) := by decide +kernel
theorem dX3_dropOldest_42 : fet cX3_dropOldest 42 = some (.aload_n 0) := by decide +kernel
theorem dX3_dropOldest_43 : fet cX3_dropOldest 43 = some (.getfield 9) := by decide +kernel
theorem dX3_dropOldest_46 : fet cX3_dropOldest 46 = some (.arraylength) := by decide +kernel
theorem dX3_dropOldest_47 : fet cX3_dropOldest 47 = some (.iconst 1) := by decide +kernel
theorem dX3_dropOldest_48 : fet cX3_dropOldest 48 = some (.isub) := by decide +kernel
theorem dX3_dropOldest_49 : fet cX3_dropOldest 49 = some (.aload_n 1) := by decide +kernel
theorem dX3_dropOldest_50 : fet cX3_dropOldest 50 = some (.aastore) := by decide +kernel
theorem dX3_dropOldest_51 : fet cX3_dropOldest 51 = some (.aload_n 0) := by decide +kernel
theorem dX3_dropOldest_52 : fet cX3_dropOldest 52 = some (.aload_n 0) := by decide +kernel
theorem dX3_dropOldest_53 : fet cX3_dropOldest 53 = some (.getfield 9) := by decide +kernel
theorem dX3_dropOldest_56 : fet cX3_dropOldest 56 = some (.arraylength) := by decide +kernel
theorem dX3_dropOldest_57 : fet cX3_dropOldest 57 = some (.iconst 1) := by decide +kernel
theorem dX3_dropOldest_58 : fet cX3_dropOldest 58 = some (.isub) := by decide +kernel
theorem dX3_dropOldest_59 : fet cX3_dropOldest 59 = some (.putfield 16) := by decide +kernel
theorem dX3_dropOldest_62 : fet cX3_dropOldest 62 = some (.return_) := by decide +kernel
theorem dX3_pop_0 : fet cX3_pop 0 = some (.aload_n 0) := by decide +kernel
theorem dX3_pop_1 : fet cX3_pop 1 = some (.getfield 16) := by decide +kernel
theorem dX3_pop_4 : fet cX3_pop 4 = some (.ifCond .le 15) := by decide +kernel
theorem dX3_pop_7 : fet cX3_pop 7 = some (.aload_n 0) := by decide +kernel
theorem dX3_pop_8 : fet cX3_pop 8 = some (.getfield 16) := by decide +kernel
theorem dX3_pop_11 : fet cX3_pop 11 = some (.aload_n 0) := by decide +kernel
theorem dX3_pop_12 : fet cX3_pop 12 = some (.getfield 9) := by decide +kernel
theorem dX3_pop_15 : fet cX3_pop 15 = some (.arraylength) := by decide +kernel
theorem dX3_pop_16 : fet cX3_pop 16 = some (.if_icmp .le 5) := by decide +kernel
theorem dX3_pop_19 : fet cX3_pop 19 = some (.iconst 0) := by decide +kernel
theorem dX3_pop_20 : fet cX3_pop 20 = some (.ireturn) := by decide +kernel
theorem dX3_pop_21 : fet cX3_pop 21 = some (.aload_n 0) := by decide +kernel
theorem dX3_pop_22 : fet cX3_pop 22 = some (.dup) := by decide +kernel
theorem dX3_pop_23 : fet cX3_pop 23 = some (.getfield 16) := by decide +kernel
theorem dX3_pop_26 : fet cX3_pop 26 = some (.iconst 1) := by decide +kernel
theorem dX3_pop_27 : fet cX3_pop 27 = some (.isub) := by decide +kernel
theorem dX3_pop_28 : fet cX3_pop 28 = some (.putfield 16) := by decide +kernel
theorem dX3_pop_31 : fet cX3_pop 31 = some (.aload_n 1) := by decide +kernel
theorem dX3_pop_32 : fet cX3_pop 32 = some (.aload_n 0) := by decide +kernel
theorem dX3_pop_33 : fet cX3_pop 33 = some (.getfield 9) := by decide +kernel
theorem dX3_pop_36 : fet cX3_pop 36 = some (.aload_n 0) := by decide +kernel
theorem dX3_pop_37 : fet cX3_pop 37 = some (.getfield 16) := by decide +kernel
theorem dX3_pop_40 : fet cX3_pop 40 = some (.aaload) := by decide +kernel
theorem dX3_pop_41 : fet cX3_pop 41 = some (.invokevirtual 23) := by decide +kernel
theorem dX3_pop_44 : fet cX3_pop 44 = some (.iconst 1) := by decide +kernel
theorem dX3_pop_45 : fet cX3_pop 45 = some (.ireturn) := by decide +kernel
theorem dX4_init_0 : fet cX4_init 0 = some (.aload_n 0) := by decide +kernel
theorem dX4_init_1 : fet cX4_init 1 = some (.invokespecial 3) := by decide +kernel
theorem dX4_init_4 : fet cX4_init 4 = some (.aload_n 0) := by decide +kernel
theorem dX4_init_5 : fet cX4_init 5 = some (.iconst 5) := by decide +kernel
theorem dX4_init_6 : fet cX4_init 6 = some (.newarray .int) := by decide +kernel
theorem dX4_init_8 : fet cX4_init 8 = some (.putfield 11) := by decide +kernel
theorem dX4_init_11 : fet cX4_init 11 = some (.return_) := by decide +kernel
theorem dX4_read_0 : fet cX4_read 0 = some (.aload_n 3) := by decide +kernel
theorem dX4_read_1 : fet cX4_read 1 = some (.invokevirtual 15) := by decide +kernel
theorem dX4_read_4 : fet cX4_read 4 = some (.aload_n 0) := by decide +kernel
theorem dX4_read_5 : fet cX4_read 5 = some (.iconst 1) := by decide +kernel
theorem dX4_read_6 : fet cX4_read 6 = some (.putfield 20) := by decide +kernel
theorem dX4_read_9 : fet cX4_read 9 = some (.iload_n 2) := by decide +kernel
theorem dX4_read_10 : fet cX4_read 10 = some (.aload_n 1) := by decide +kernel
theorem dX4_read_11 : fet cX4_read 11 = some (.arraylength) := by decide +kernel
theorem dX4_read_12 : fet cX4_read 12 = some (.if_icmp .ge 7) := by decide +kernel
theorem dX4_read_15 : fet cX4_read 15 = some (.iload_n 2) := by decide +kernel
theorem dX4_read_16 : fet cX4_read 16 = some (.goto 5) := by decide +kernel
theorem dX4_read_19 : fet cX4_read 19 = some (.aload_n 1) := by decide +kernel
theorem dX4_read_20 : fet cX4_read 20 = some (.arraylength) := by decide +kernel
theorem dX4_read_21 : fet cX4_read 21 = some (.istore 4) := by decide +kernel
theorem dX4_read_23 : fet cX4_read 23 = some (.iconst 0) := by decide +kernel
theorem dX4_read_24 : fet cX4_read 24 = some (.istore 5) := by decide +kernel
theorem dX4_read_26 : fet cX4_read 26 = some (.iconst 0) := by decide +kernel
theorem dX4_read_27 : fet cX4_read 27 = some (.istore 6) := by decide +kernel
theorem dX4_read_29 : fet cX4_read 29 = some (.iload 6) := by decide +kernel
theorem dX4_read_31 : fet cX4_read 31 = some (.iload 4) := by decide +kernel
theorem dX4_read_33 : fet cX4_read 33 = some (.if_icmp .ge 55) := by decide +kernel
theorem dX4_read_36 : fet cX4_read 36 = some (.iload 5) := by decide +kernel
theorem dX4_read_38 : fet cX4_read 38 = some (.iload 4) := by decide +kernel
theorem dX4_read_40 : fet cX4_read 40 = some (.if_icmp .ge 48) := by decide +kernel
theorem dX4_read_43 : fet cX4_read 43 = some (.aload_n 0) := by decide +kernel
theorem dX4_read_44 : fet cX4_read 44 = some (.aload_n 1) := by decide +kernel
theorem dX4_read_45 : fet cX4_read 45 = some (.iload 5) := by decide +kernel
theorem dX4_read_47 : fet cX4_read 47 = some (.iconst 1) := by decide +kernel
theorem dX4_read_48 : fet cX4_read 48 = some (.iadd) := by decide +kernel
theorem dX4_read_49 : fet cX4_read 49 = some (.iload 4) := by decide +kernel
theorem dX4_read_51 : fet cX4_read 51 = some (.invokevirtual 24) := by decide +kernel
theorem dX4_read_54 : fet cX4_read 54 = some (.istore 7) := by decide +kernel
theorem dX4_read_56 : fet cX4_read 56 = some (.iload 7) := by decide +kernel
theorem dX4_read_58 : fet cX4_read 58 = some (.bipush (-4)) := by decide +kernel
theorem dX4_read_60 : fet cX4_read 60 = some (.if_icmp .eq 15) := by decide +kernel
theorem dX4_read_63 : fet cX4_read 63 = some (.aload_n 0) := by decide +kernel
theorem dX4_read_64 : fet cX4_read 64 = some (.aload_n 1) := by decide +kernel
theorem dX4_read_65 : fet cX4_read 65 = some (.iload 5) := by decide +kernel
theorem dX4_read_67 : fet cX4_read 67 = some (.iaload) := by decide +kernel
theorem dX4_read_68 : fet cX4_read 68 = some (.aload_n 3) := by decide +kernel
theorem dX4_read_69 : fet cX4_read 69 = some (.invokevirtual 28) := by decide +kernel
theorem dX4_read_72 : fet cX4_read 72 = some (.ifCond .ne 6) := by decide +kernel
theorem dX4_read_75 : fet cX4_read 75 = some (.iload 5) := by decide +kernel
theorem dX4_read_77 : fet cX4_read 77 = some (.ireturn) := by decide +kernel
theorem dX4_read_78 : fet cX4_read 78 = some (.iload 7) := by decide +kernel
theorem dX4_read_80 : fet cX4_read 80 = some (.istore 5) := by decide +kernel
theorem dX4_read_82 : fet cX4_read 82 = some (.iinc 6 1) := by decide +kernel
theorem dX4_read_85 : fet cX4_read 85 = some (.goto (-56)) := by decide +kernel
theorem dX4_read_88 : fet cX4_read 88 = some (.bipush (-4)) := by decide +kernel
theorem dX4_read_90 : fet cX4_read 90 = some (.ireturn) := by decide +kernel
theorem dX4_scan_0 : fet cX4_scan 0 = some (.iload_n 2) := by decide +kernel
theorem dX4_scan_1 : fet cX4_scan 1 = some (.istore 4) := by decide +kernel
theorem dX4_scan_3 : fet cX4_scan 3 = some (.iconst 0) := by decide +kernel
theorem dX4_scan_4 : fet cX4_scan 4 = some (.istore 5) := by decide +kernel
theorem dX4_scan_6 : fet cX4_scan 6 = some (.iload 5) := by decide +kernel
theorem dX4_scan_8 : fet cX4_scan 8 = some (.iconst 5) := by decide +kernel
theorem dX4_scan_9 : fet cX4_scan 9 = some (.if_icmp .ge 129) := by decide +kernel
theorem dX4_scan_12 : fet cX4_scan 12 = some (.iconst 0) := by decide +kernel
theorem dX4_scan_13 : fet cX4_scan 13 = some (.istore 6) := by decide +kernel
theorem dX4_scan_15 : fet cX4_scan 15 = some (.iconst 0) := by decide +kernel
theorem dX4_scan_16 : fet cX4_scan 16 = some (.istore 7) := by decide +kernel
theorem dX4_scan_18 : fet cX4_scan 18 = some (.iload 6) := by decide +kernel
theorem dX4_scan_20 : fet cX4_scan 20 = some (.iconst 2) := by decide +kernel
theorem dX4_scan_21 : fet cX4_scan 21 = some (.if_icmp .ge 51) := by decide +kernel
theorem dX4_scan_24 : fet cX4_scan 24 = some (.iload 4) := by decide +kernel
theorem dX4_scan_26 : fet cX4_scan 26 = some (.iload_n 3) := by decide +kernel
theorem dX4_scan_27 : fet cX4_scan 27 = some (.if_icmp .ge 45) := by decide +kernel
theorem dX4_scan_30 : fet cX4_scan 30 = some (.aload_n 1) := by decide +kernel
theorem dX4_scan_31 : fet cX4_scan 31 = some (.iload 4) := by decide +kernel
theorem dX4_scan_33 : fet cX4_scan 33 = some (.iaload) := by decide +kernel
theorem dX4_scan_34 : fet cX4_scan 34 = some (.bipush 48) := by decide +kernel
theorem dX4_scan_36 : fet cX4_scan 36 = some (.if_icmp .lt 36) := by decide +kernel
theorem dX4_scan_39 : fet cX4_scan 39 = some (.aload_n 1) := by decide +kernel
theorem dX4_scan_40 : fet cX4_scan 40 = some (.iload 4) := by decide +kernel
theorem dX4_scan_42 : fet cX4_scan 42 = some (.iaload) := by decide +kernel
theorem dX4_scan_43 : fet cX4_scan 43 = some (.bipush 57) := by decide +kernel
theorem dX4_scan_45 : fet cX4_scan 45 = some (.if_icmp .gt 27) := by decide +kernel
theorem dX4_scan_48 : fet cX4_scan 48 = some (.bipush 10) := by decide +kernel
theorem dX4_scan_50 : fet cX4_scan 50 = some (.iload 7) := by decide +kernel
theorem dX4_scan_52 : fet cX4_scan 52 = some (.imul) := by decide +kernel
theorem dX4_scan_53 : fet cX4_scan 53 = some (.aload_n 1) := by decide +kernel
theorem dX4_scan_54 : fet cX4_scan 54 = some (.iload 4) := by decide +kernel
theorem dX4_scan_56 : fet cX4_scan 56 = some (.iaload) := by decide +kernel
theorem dX4_scan_57 : fet cX4_scan 57 = some (.iadd) := by decide +kernel
theorem dX4_scan_58 : fet cX4_scan 58 = some (.bipush 48) := by decide +kernel
theorem dX4_scan_60 : fet cX4_scan 60 = some (.isub) := by decide +kernel
theorem dX4_scan_61 : fet cX4_scan 61 = some (.istore 7) := by decide +kernel
theorem dX4_scan_63 : fet cX4_scan 63 = some (.iinc 6 1) := by decide +kernel
theorem dX4_scan_66 : fet cX4_scan 66 = some (.iinc 4 1) := by decide +kernel
theorem dX4_scan_69 : fet cX4_scan 69 = some (.goto (-51)) := by decide +kernel
theorem dX4_scan_72 : fet cX4_scan 72 = some (.iload 6) := by decide +kernel
theorem dX4_scan_74 : fet cX4_scan 74 = some (.ifCond .eq 9) := by decide +kernel
theorem dX4_scan_77 : fet cX4_scan 77 = some (.iload 4) := by decide +kernel
theorem dX4_scan_79 : fet cX4_scan 79 = some (.iload_n 3) := by decide +kernel
theorem dX4_scan_80 : fet cX4_scan 80 = some (.if_icmp .lt 6) := by decide +kernel
theorem dX4_scan_83 : fet cX4_scan 83 = some (.bipush (-4)) := by decide +kernel
theorem dX4_scan_85 : fet cX4_scan 85 = some (.ireturn) := by decide +kernel
theorem dX4_scan_86 : fet cX4_scan 86 = some (.aload_n 0) := by decide +kernel
theorem dX4_scan_87 : fet cX4_scan 87 = some (.getfield 11) := by decide +kernel
theorem dX4_scan_90 : fet cX4_scan 90 = some (.iload 5) := by decide +kernel
theorem dX4_scan_92 : fet cX4_scan 92 = some (.iload 7) := by decide +kernel
theorem dX4_scan_94 : fet cX4_scan 94 = some (.iastore) := by decide +kernel
theorem dX4_scan_95 : fet cX4_scan 95 = some (.aload_n 0) := by decide +kernel
theorem dX4_scan_96 : fet cX4_scan 96 = some (.iload 5) := by decide +kernel
theorem dX4_scan_98 : fet cX4_scan 98 = some (.iconst 1) := by decide +kernel
theorem dX4_scan_99 : fet cX4_scan 99 = some (.iadd) := by decide +kernel
theorem dX4_scan_100 : fet cX4_scan 100 = some (.putfield 32) := by decide +kernel
theorem dX4_scan_103 : fet cX4_scan 103 = some (.aload_n 1) := by decide +kernel
theorem dX4_scan_104 : fet cX4_scan 104 = some (.iload 4) := by decide +kernel
theorem dX4_scan_106 : fet cX4_scan 106 = some (.iaload) := by decide +kernel
theorem dX4_scan_107 : fet cX4_scan 107 = some (.istore 8) := by decide +kernel
theorem dX4_scan_109 : fet cX4_scan 109 = some (.iinc 4 1) := by decide +kernel
theorem dX4_scan_112 : fet cX4_scan 112 = some (.iload 8) := by decide +kernel
theorem dX4_scan_114 : fet cX4_scan 114 = some (.bipush 59) := by decide +kernel
theorem dX4_scan_116 : fet cX4_scan 116 = some (.if_icmp .ne 6) := by decide +kernel
theorem dX4_scan_119 : fet cX4_scan 119 = some (.iload 4) := by decide +kernel
theorem dX4_scan_121 : fet cX4_scan 121 = some (.ireturn) := by decide +kernel
theorem dX4_scan_122 : fet cX4_scan 122 = some (.iload 8) := by decide +kernel
theorem dX4_scan_124 : fet cX4_scan 124 = some (.bipush 44) := by decide +kernel
theorem dX4_scan_126 : fet cX4_scan 126 = some (.if_icmp .eq 6) := by decide +kernel
theorem dX4_scan_129 : fet cX4_scan 129 = some (.bipush (-4)) := by decide +kernel
theorem dX4_scan_131 : fet cX4_scan 131 = some (.ireturn) := by decide +kernel
theorem dX4_scan_132 : fet cX4_scan 132 = some (.iinc 5 1) := by decide +kernel
theorem dX4_scan_135 : fet cX4_scan 135 = some (.goto (-129)) := by decide +kernel
theorem dX4_scan_138 : fet cX4_scan 138 = some (.bipush (-4)) := by decide +kernel
theorem dX4_scan_140 : fet cX4_scan 140 = some (.ireturn) := by decide +kernel
theorem dX4_take_0 : fet cX4_take 0 = some (.iload_n 1) := by decide +kernel
theorem dX4_take_1 : fet cX4_take 1 = some (.bipush 105) := by decide +kernel
theorem dX4_take_3 : fet cX4_take 3 = some (.if_icmp .ne 9) := by decide +kernel
theorem dX4_take_6 : fet cX4_take 6 = some (.aload_n 0) := by decide +kernel
theorem dX4_take_7 : fet cX4_take 7 = some (.aload_n 2) := by decide +kernel
theorem dX4_take_8 : fet cX4_take 8 = some (.invokevirtual 36) := by decide +kernel
theorem dX4_take_11 : fet cX4_take 11 = some (.ireturn) := by decide +kernel
theorem dX4_take_12 : fet cX4_take 12 = some (.aload_n 0) := by decide +kernel
theorem dX4_take_13 : fet cX4_take 13 = some (.iconst 0) := by decide +kernel
theorem dX4_take_14 : fet cX4_take 14 = some (.putfield 20) := by decide +kernel
theorem dX4_take_17 : fet cX4_take 17 = some (.iload_n 1) := by decide +kernel
theorem dX4_take_18 : fet cX4_take 18 = some (.lookupswitch 66 #[(98, 48), (100, 42), (103, 60), (111, 54)]) := by decide +kernel
theorem dX4_take_60 : fet cX4_take 60 = some (.aload_n 0) := by decide +kernel
theorem dX4_take_61 : fet cX4_take 61 = some (.aload_n 2) := by decide +kernel
theorem dX4_take_62 : fet cX4_take 62 = some (.invokevirtual 40) := by decide +kernel
theorem dX4_take_65 : fet cX4_take 65 = some (.ireturn) := by decide +kernel
theorem dX4_take_66 : fet cX4_take 66 = some (.aload_n 0) := by decide +kernel
theorem dX4_take_67 : fet cX4_take 67 = some (.aload_n 2) := by decide +kernel
theorem dX4_take_68 : fet cX4_take 68 = some (.invokevirtual 43) := by decide +kernel
theorem dX4_take_71 : fet cX4_take 71 = some (.ireturn) := by decide +kernel
theorem dX4_take_72 : fet cX4_take 72 = some (.aload_n 0) := by decide +kernel
theorem dX4_take_73 : fet cX4_take 73 = some (.aload_n 2) := by decide +kernel
theorem dX4_take_74 : fet cX4_take 74 = some (.invokevirtual 46) := by decide +kernel
theorem dX4_take_77 : fet cX4_take 77 = some (.ireturn) := by decide +kernel
theorem dX4_take_78 : fet cX4_take 78 = some (.aload_n 0) := by decide +kernel
theorem dX4_take_79 : fet cX4_take 79 = some (.aload_n 2) := by decide +kernel
theorem dX4_take_80 : fet cX4_take 80 = some (.invokevirtual 49) := by decide +kernel
theorem dX4_take_83 : fet cX4_take 83 = some (.ireturn) := by decide +kernel
theorem dX4_take_84 : fet cX4_take 84 = some (.iconst 0) := by decide +kernel
theorem dX4_take_85 : fet cX4_take 85 = some (.ireturn) := by decide +kernel
theorem dX4_takeIslands_0 : fet cX4_takeIslands 0 = some (.aload_n 0) := by decide +kernel
theorem dX4_takeIslands_1 : fet cX4_takeIslands 1 = some (.getfield 32) := by decide +kernel
theorem dX4_takeIslands_4 : fet cX4_takeIslands 4 = some (.iconst 1) := by decide +kernel
theorem dX4_takeIslands_5 : fet cX4_takeIslands 5 = some (.if_icmp .ne 25) := by decide +kernel
theorem dX4_takeIslands_8 : fet cX4_takeIslands 8 = some (.aload_n 0) := by decide +kernel
theorem dX4_takeIslands_9 : fet cX4_takeIslands 9 = some (.getfield 20) := by decide +kernel
theorem dX4_takeIslands_12 : fet cX4_takeIslands 12 = some (.ifCond .eq 18) := by decide +kernel
theorem dX4_takeIslands_15 : fet cX4_takeIslands 15 = some (.aload_n 0) := by decide +kernel
theorem dX4_takeIslands_16 : fet cX4_takeIslands 16 = some (.getfield 11) := by decide +kernel
theorem dX4_takeIslands_19 : fet cX4_takeIslands 19 = some (.iconst 0) := by decide +kernel
theorem dX4_takeIslands_20 : fet cX4_takeIslands 20 = some (.iaload) := by decide +kernel
theorem dX4_takeIslands_21 : fet cX4_takeIslands 21 = some (.iconst 2) := by decide +kernel
theorem dX4_takeIslands_22 : fet cX4_takeIslands 22 = some (.bipush 8) := by decide +kernel
theorem dX4_takeIslands_24 : fet cX4_takeIslands 24 = some (.invokestatic 52) := by decide +kernel
theorem dX4_takeIslands_27 : fet cX4_takeIslands 27 = some (.ifCond .ne 5) := by decide +kernel
theorem dX4_takeIslands_30 : fet cX4_takeIslands 30 = some (.iconst 0) := by decide +kernel
theorem dX4_takeIslands_31 : fet cX4_takeIslands 31 = some (.ireturn) := by decide +kernel
theorem dX4_takeIslands_32 : fet cX4_takeIslands 32 = some (.aload_n 1) := by decide +kernel
theorem dX4_takeIslands_33 : fet cX4_takeIslands 33 = some (.aload_n 0) := by decide +kernel
theorem dX4_takeIslands_34 : fet cX4_takeIslands 34 = some (.getfield 11) := by decide +kernel
theorem dX4_takeIslands_37 : fet cX4_takeIslands 37 = some (.iconst 0) := by decide +kernel
theorem dX4_takeIslands_38 : fet cX4_takeIslands 38 = some (.iaload) := by decide +kernel
theorem dX4_takeIslands_39 : fet cX4_takeIslands 39 = some (.putfield 56) := by decide +kernel
theorem dX4_takeIslands_42 : fet cX4_takeIslands 42 = some (.iconst 1) := by decide +kernel
theorem dX4_takeIslands_43 : fet cX4_takeIslands 43 = some (.ireturn) := by decide +kernel
theorem dX4_takeDelay_0 : fet cX4_takeDelay 0 = some (.aload_n 0) := by decide +kernel
theorem dX4_takeDelay_1 : fet cX4_takeDelay 1 = some (.getfield 32) := by decide +kernel
theorem dX4_takeDelay_4 : fet cX4_takeDelay 4 = some (.iconst 1) := by decide +kernel
theorem dX4_takeDelay_5 : fet cX4_takeDelay 5 = some (.if_icmp .ne 18) := by decide +kernel
theorem dX4_takeDelay_8 : fet cX4_takeDelay 8 = some (.aload_n 0) := by decide +kernel
theorem dX4_takeDelay_9 : fet cX4_takeDelay 9 = some (.getfield 11) := by decide +kernel
theorem dX4_takeDelay_12 : fet cX4_takeDelay 12 = some (.iconst 0) := by decide +kernel
theorem dX4_takeDelay_13 : fet cX4_takeDelay 13 = some (.iaload) := by decide +kernel
theorem dX4_takeDelay_14 : fet cX4_takeDelay 14 = some (.iconst 1) := by decide +kernel
theorem dX4_takeDelay_15 : fet cX4_takeDelay 15 = some (.bipush 9) := by decide +kernel
theorem dX4_takeDelay_17 : fet cX4_takeDelay 17 = some (.invokestatic 52) := by decide +kernel
theorem dX4_takeDelay_20 : fet cX4_takeDelay 20 = some (.ifCond .ne 5) := by decide +kernel
theorem dX4_takeDelay_23 : fet cX4_takeDelay 23 = some (.iconst 0) := by decide +kernel
theorem dX4_takeDelay_24 : fet cX4_takeDelay 24 = some (.ireturn) := by decide +kernel
theorem dX4_takeDelay_25 : fet cX4_takeDelay 25 = some (.aload_n 1) := by decide +kernel
theorem dX4_takeDelay_26 : fet cX4_takeDelay 26 = some (.aload_n 0) := by decide +kernel
theorem dX4_takeDelay_27 : fet cX4_takeDelay 27 = some (.getfield 11) := by decide +kernel
theorem dX4_takeDelay_30 : fet cX4_takeDelay 30 = some (.iconst 0) := by decide +kernel
theorem dX4_takeDelay_31 : fet cX4_takeDelay 31 = some (.iaload) := by decide +kernel
theorem dX4_takeDelay_32 : fet cX4_takeDelay 32 = some (.putfield 59) := by decide +kernel
theorem dX4_takeDelay_35 : fet cX4_takeDelay 35 = some (.iconst 1) := by decide +kernel
theorem dX4_takeDelay_36 : fet cX4_takeDelay 36 = some (.ireturn) := by decide +kernel
theorem dX4_takeBridge_0 : fet cX4_takeBridge 0 = some (.aload_n 1) := by decide +kernel
theorem dX4_takeBridge_1 : fet cX4_takeBridge 1 = some (.getfield 62) := by decide +kernel
theorem dX4_takeBridge_4 : fet cX4_takeBridge 4 = some (.istore_n 2) := by decide +kernel
theorem dX4_takeBridge_5 : fet cX4_takeBridge 5 = some (.aload_n 0) := by decide +kernel
theorem dX4_takeBridge_6 : fet cX4_takeBridge 6 = some (.getfield 32) := by decide +kernel
theorem dX4_takeBridge_9 : fet cX4_takeBridge 9 = some (.iconst 3) := by decide +kernel
theorem dX4_takeBridge_10 : fet cX4_takeBridge 10 = some (.if_icmp .ne 21) := by decide +kernel
theorem dX4_takeBridge_13 : fet cX4_takeBridge 13 = some (.iload_n 2) := by decide +kernel
theorem dX4_takeBridge_14 : fet cX4_takeBridge 14 = some (.ifCond .lt 17) := by decide +kernel
theorem dX4_takeBridge_17 : fet cX4_takeBridge 17 = some (.iload_n 2) := by decide +kernel
theorem dX4_takeBridge_18 : fet cX4_takeBridge 18 = some (.bipush 9) := by decide +kernel
theorem dX4_takeBridge_20 : fet cX4_takeBridge 20 = some (.if_icmp .ge 11) := by decide +kernel
theorem dX4_takeBridge_23 : fet cX4_takeBridge 23 = some (.aload_n 0) := by decide +kernel
theorem dX4_takeBridge_24 : fet cX4_takeBridge 24 = some (.aload_n 1) := by decide +kernel
theorem dX4_takeBridge_25 : fet cX4_takeBridge 25 = some (.invokevirtual 65) := by decide +kernel
theorem dX4_takeBridge_28 : fet cX4_takeBridge 28 = some (.ifCond .ne 5) := by decide +kernel
theorem dX4_takeBridge_31 : fet cX4_takeBridge 31 = some (.iconst 0) := by decide +kernel
theorem dX4_takeBridge_32 : fet cX4_takeBridge 32 = some (.ireturn) := by decide +kernel
theorem dX4_takeBridge_33 : fet cX4_takeBridge 33 = some (.aload_n 1) := by decide +kernel
theorem dX4_takeBridge_34 : fet cX4_takeBridge 34 = some (.getfield 68) := by decide +kernel
theorem dX4_takeBridge_37 : fet cX4_takeBridge 37 = some (.iload_n 2) := by decide +kernel
theorem dX4_takeBridge_38 : fet cX4_takeBridge 38 = some (.aload_n 0) := by decide +kernel
theorem dX4_takeBridge_39 : fet cX4_takeBridge 39 = some (.getfield 11) := by decide +kernel
theorem dX4_takeBridge_42 : fet cX4_takeBridge 42 = some (.iconst 0) := by decide +kernel
theorem dX4_takeBridge_43 : fet cX4_takeBridge 43 = some (.iaload) := by decide +kernel
theorem dX4_takeBridge_44 : fet cX4_takeBridge 44 = some (.iastore) := by decide +kernel
theorem dX4_takeBridge_45 : fet cX4_takeBridge 45 = some (.aload_n 1) := by decide +kernel
theorem dX4_takeBridge_46 : fet cX4_takeBridge 46 = some (.getfield 71) := by decide +kernel
theorem dX4_takeBridge_49 : fet cX4_takeBridge 49 = some (.iload_n 2) := by decide +kernel
theorem dX4_takeBridge_50 : fet cX4_takeBridge 50 = some (.aload_n 0) := by decide +kernel
theorem dX4_takeBridge_51 : fet cX4_takeBridge 51 = some (.getfield 11) := by decide +kernel
theorem dX4_takeBridge_54 : fet cX4_takeBridge 54 = some (.iconst 1) := by decide +kernel
theorem dX4_takeBridge_55 : fet cX4_takeBridge 55 = some (.iaload) := by decide +kernel
theorem dX4_takeBridge_56 : fet cX4_takeBridge 56 = some (.iastore) := by decide +kernel
theorem dX4_takeBridge_57 : fet cX4_takeBridge 57 = some (.aload_n 1) := by decide +kernel
theorem dX4_takeBridge_58 : fet cX4_takeBridge 58 = some (.getfield 74) := by decide +kernel
theorem dX4_takeBridge_61 : fet cX4_takeBridge 61 = some (.iload_n 2) := by decide +kernel
theorem dX4_takeBridge_62 : fet cX4_takeBridge 62 = some (.aload_n 0) := by decide +kernel
theorem dX4_takeBridge_63 : fet cX4_takeBridge 63 = some (.getfield 11) := by decide +kernel
theorem dX4_takeBridge_66 : fet cX4_takeBridge 66 = some (.iconst 2) := by decide +kernel
theorem dX4_takeBridge_67 : fet cX4_takeBridge 67 = some (.iaload) := by decide +kernel
theorem dX4_takeBridge_68 : fet cX4_takeBridge 68 = some (.iastore) := by decide +kernel
theorem dX4_takeBridge_69 : fet cX4_takeBridge 69 = some (.aload_n 1) := by decide +kernel
theorem dX4_takeBridge_70 : fet cX4_takeBridge 70 = some (.dup) := by decide +kernel
theorem dX4_takeBridge_71 : fet cX4_takeBridge 71 = some (.getfield 62) := by decide +kernel
theorem dX4_takeBridge_74 : fet cX4_takeBridge 74 = some (.iconst 1) := by decide +kernel
theorem dX4_takeBridge_75 : fet cX4_takeBridge 75 = some (.iadd) := by decide +kernel
theorem dX4_takeBridge_76 : fet cX4_takeBridge 76 = some (.putfield 62) := by decide +kernel
theorem dX4_takeBridge_79 : fet cX4_takeBridge 79 = some (.iconst 1) := by decide +kernel
theorem dX4_takeBridge_80 : fet cX4_takeBridge 80 = some (.ireturn) := by decide +kernel
theorem dX4_takeOak_0 : fet cX4_takeOak 0 = some (.aload_n 0) := by decide +kernel
theorem dX4_takeOak_1 : fet cX4_takeOak 1 = some (.getfield 32) := by decide +kernel
theorem dX4_takeOak_4 : fet cX4_takeOak 4 = some (.iconst 1) := by decide +kernel
theorem dX4_takeOak_5 : fet cX4_takeOak 5 = some (.if_icmp .ne 16) := by decide +kernel
theorem dX4_takeOak_8 : fet cX4_takeOak 8 = some (.aload_n 0) := by decide +kernel
theorem dX4_takeOak_9 : fet cX4_takeOak 9 = some (.getfield 11) := by decide +kernel
theorem dX4_takeOak_12 : fet cX4_takeOak 12 = some (.iconst 0) := by decide +kernel
theorem dX4_takeOak_13 : fet cX4_takeOak 13 = some (.iaload) := by decide +kernel
theorem dX4_takeOak_14 : fet cX4_takeOak 14 = some (.aload_n 1) := by decide +kernel
theorem dX4_takeOak_15 : fet cX4_takeOak 15 = some (.getfield 62) := by decide +kernel
theorem dX4_takeOak_18 : fet cX4_takeOak 18 = some (.if_icmp .lt 5) := by decide +kernel
theorem dX4_takeOak_21 : fet cX4_takeOak 21 = some (.iconst 0) := by decide +kernel
theorem dX4_takeOak_22 : fet cX4_takeOak 22 = some (.ireturn) := by decide +kernel
theorem dX4_takeOak_23 : fet cX4_takeOak 23 = some (.aload_n 1) := by decide +kernel
theorem dX4_takeOak_24 : fet cX4_takeOak 24 = some (.dup) := by decide +kernel
theorem dX4_takeOak_25 : fet cX4_takeOak 25 = some (.getfield 77) := by decide +kernel
theorem dX4_takeOak_28 : fet cX4_takeOak 28 = some (.iconst 1) := by decide +kernel
theorem dX4_takeOak_29 : fet cX4_takeOak 29 = some (.aload_n 0) := by decide +kernel
theorem dX4_takeOak_30 : fet cX4_takeOak 30 = some (.getfield 11) := by decide +kernel
theorem dX4_takeOak_33 : fet cX4_takeOak 33 = some (.iconst 0) := by decide +kernel
theorem dX4_takeOak_34 : fet cX4_takeOak 34 = some (.iaload) := by decide +kernel
theorem dX4_takeOak_35 : fet cX4_takeOak 35 = some (.ishl) := by decide +kernel
theorem dX4_takeOak_36 : fet cX4_takeOak 36 = some (.ior) := by decide +kernel
theorem dX4_takeOak_37 : fet cX4_takeOak 37 = some (.putfield 77) := by decide +kernel
theorem dX4_takeOak_40 : fet cX4_takeOak 40 = some (.iconst 1) := by decide +kernel
theorem dX4_takeOak_41 : fet cX4_takeOak 41 = some (.ireturn) := by decide +kernel
theorem dX4_takeGoer_0 : fet cX4_takeGoer 0 = some (.aload_n 1) := by decide +kernel
theorem dX4_takeGoer_1 : fet cX4_takeGoer 1 = some (.getfield 80) := by decide +kernel
theorem dX4_takeGoer_4 : fet cX4_takeGoer 4 = some (.istore_n 2) := by decide +kernel
theorem dX4_takeGoer_5 : fet cX4_takeGoer 5 = some (.aload_n 0) := by decide +kernel
theorem dX4_takeGoer_6 : fet cX4_takeGoer 6 = some (.getfield 32) := by decide +kernel
theorem dX4_takeGoer_9 : fet cX4_takeGoer 9 = some (.iconst 5) := by decide +kernel
theorem dX4_takeGoer_10 : fet cX4_takeGoer 10 = some (.if_icmp .ne 20) := by decide +kernel
theorem dX4_takeGoer_13 : fet cX4_takeGoer 13 = some (.iload_n 2) := by decide +kernel
theorem dX4_takeGoer_14 : fet cX4_takeGoer 14 = some (.ifCond .lt 16) := by decide +kernel
theorem dX4_takeGoer_17 : fet cX4_takeGoer 17 = some (.iload_n 2) := by decide +kernel
theorem dX4_takeGoer_18 : fet cX4_takeGoer 18 = some (.iconst 5) := by decide +kernel
theorem dX4_takeGoer_19 : fet cX4_takeGoer 19 = some (.if_icmp .ge 11) := by decide +kernel
theorem dX4_takeGoer_22 : fet cX4_takeGoer 22 = some (.aload_n 0) := by decide +kernel
theorem dX4_takeGoer_23 : fet cX4_takeGoer 23 = some (.aload_n 1) := by decide +kernel
theorem dX4_takeGoer_24 : fet cX4_takeGoer 24 = some (.invokevirtual 65) := by decide +kernel
theorem dX4_takeGoer_27 : fet cX4_takeGoer 27 = some (.ifCond .ne 5) := by decide +kernel
theorem dX4_takeGoer_30 : fet cX4_takeGoer 30 = some (.iconst 0) := by decide +kernel
theorem dX4_takeGoer_31 : fet cX4_takeGoer 31 = some (.ireturn) := by decide +kernel
theorem dX4_takeGoer_32 : fet cX4_takeGoer 32 = some (.aload_n 0) := by decide +kernel
theorem dX4_takeGoer_33 : fet cX4_takeGoer 33 = some (.getfield 11) := by decide +kernel
theorem dX4_takeGoer_36 : fet cX4_takeGoer 36 = some (.iconst 2) := by decide +kernel
theorem dX4_takeGoer_37 : fet cX4_takeGoer 37 = some (.iaload) := by decide +kernel
theorem dX4_takeGoer_38 : fet cX4_takeGoer 38 = some (.iconst 1) := by decide +kernel
theorem dX4_takeGoer_39 : fet cX4_takeGoer 39 = some (.bipush 40) := by decide +kernel
theorem dX4_takeGoer_41 : fet cX4_takeGoer 41 = some (.invokestatic 52) := by decide +kernel
theorem dX4_takeGoer_44 : fet cX4_takeGoer 44 = some (.ifCond .ne 5) := by decide +kernel
theorem dX4_takeGoer_47 : fet cX4_takeGoer 47 = some (.iconst 0) := by decide +kernel
theorem dX4_takeGoer_48 : fet cX4_takeGoer 48 = some (.ireturn) := by decide +kernel
theorem dX4_takeGoer_49 : fet cX4_takeGoer 49 = some (.aload_n 0) := by decide +kernel
theorem dX4_takeGoer_50 : fet cX4_takeGoer 50 = some (.getfield 11) := by decide +kernel
theorem dX4_takeGoer_53 : fet cX4_takeGoer 53 = some (.iconst 3) := by decide +kernel
theorem dX4_takeGoer_54 : fet cX4_takeGoer 54 = some (.iaload) := by decide +kernel
theorem dX4_takeGoer_55 : fet cX4_takeGoer 55 = some (.iconst 0) := by decide +kernel
theorem dX4_takeGoer_56 : fet cX4_takeGoer 56 = some (.bipush 20) := by decide +kernel
theorem dX4_takeGoer_58 : fet cX4_takeGoer 58 = some (.invokestatic 52) := by decide +kernel
theorem dX4_takeGoer_61 : fet cX4_takeGoer 61 = some (.ifCond .eq 17) := by decide +kernel
theorem dX4_takeGoer_64 : fet cX4_takeGoer 64 = some (.aload_n 0) := by decide +kernel
theorem dX4_takeGoer_65 : fet cX4_takeGoer 65 = some (.getfield 11) := by decide +kernel
theorem dX4_takeGoer_68 : fet cX4_takeGoer 68 = some (.iconst 4) := by decide +kernel
theorem dX4_takeGoer_69 : fet cX4_takeGoer 69 = some (.iaload) := by decide +kernel
theorem dX4_takeGoer_70 : fet cX4_takeGoer 70 = some (.iconst 0) := by decide +kernel
theorem dX4_takeGoer_71 : fet cX4_takeGoer 71 = some (.iconst 4) := by decide +kernel
theorem dX4_takeGoer_72 : fet cX4_takeGoer 72 = some (.invokestatic 52) := by decide +kernel
theorem dX4_takeGoer_75 : fet cX4_takeGoer 75 = some (.ifCond .ne 5) := by decide +kernel
theorem dX4_takeGoer_78 : fet cX4_takeGoer 78 = some (.iconst 0) := by decide +kernel
theorem dX4_takeGoer_79 : fet cX4_takeGoer 79 = some (.ireturn) := by decide +kernel
theorem dX4_takeGoer_80 : fet cX4_takeGoer 80 = some (.aload_n 1) := by decide +kernel
theorem dX4_takeGoer_81 : fet cX4_takeGoer 81 = some (.getfield 83) := by decide +kernel
theorem dX4_takeGoer_84 : fet cX4_takeGoer 84 = some (.iload_n 2) := by decide +kernel
theorem dX4_takeGoer_85 : fet cX4_takeGoer 85 = some (.aload_n 0) := by decide +kernel
theorem dX4_takeGoer_86 : fet cX4_takeGoer 86 = some (.getfield 11) := by decide +kernel
theorem dX4_takeGoer_89 : fet cX4_takeGoer 89 = some (.iconst 0) := by decide +kernel
theorem dX4_takeGoer_90 : fet cX4_takeGoer 90 = some (.iaload) := by decide +kernel
theorem dX4_takeGoer_91 : fet cX4_takeGoer 91 = some (.iastore) := by decide +kernel
theorem dX4_takeGoer_92 : fet cX4_takeGoer 92 = some (.aload_n 1) := by decide +kernel
theorem dX4_takeGoer_93 : fet cX4_takeGoer 93 = some (.getfield 86) := by decide +kernel
theorem dX4_takeGoer_96 : fet cX4_takeGoer 96 = some (.iload_n 2) := by decide +kernel
theorem dX4_takeGoer_97 : fet cX4_takeGoer 97 = some (.aload_n 0) := by decide +kernel
theorem dX4_takeGoer_98 : fet cX4_takeGoer 98 = some (.getfield 11) := by decide +kernel
theorem dX4_takeGoer_101 : fet cX4_takeGoer 101 = some (.iconst 1) := by decide +kernel
theorem dX4_takeGoer_102 : fet cX4_takeGoer 102 = some (.iaload) := by decide +kernel
theorem dX4_takeGoer_103 : fet cX4_takeGoer 103 = some (.iastore) := by decide +kernel
theorem dX4_takeGoer_104 : fet cX4_takeGoer 104 = some (.aload_n 1) := by decide +kernel
theorem dX4_takeGoer_105 : fet cX4_takeGoer 105 = some (.getfield 89) := by decide +kernel
theorem dX4_takeGoer_108 : fet cX4_takeGoer 108 = some (.iload_n 2) := by decide +kernel
theorem dX4_takeGoer_109 : fet cX4_takeGoer 109 = some (.aload_n 0) := by decide +kernel
theorem dX4_takeGoer_110 : fet cX4_takeGoer 110 = some (.getfield 11) := by decide +kernel
theorem dX4_takeGoer_113 : fet cX4_takeGoer 113 = some (.iconst 2) := by decide +kernel
theorem dX4_takeGoer_114 : fet cX4_takeGoer 114 = some (.iaload) := by decide +kernel
theorem dX4_takeGoer_115 : fet cX4_takeGoer 115 = some (.iastore) := by decide +kernel
theorem dX4_takeGoer_116 : fet cX4_takeGoer 116 = some (.aload_n 1) := by decide +kernel
theorem dX4_takeGoer_117 : fet cX4_takeGoer 117 = some (.getfield 92) := by decide +kernel
theorem dX4_takeGoer_120 : fet cX4_takeGoer 120 = some (.iload_n 2) := by decide +kernel
theorem dX4_takeGoer_121 : fet cX4_takeGoer 121 = some (.aload_n 0) := by decide +kernel
theorem dX4_takeGoer_122 : fet cX4_takeGoer 122 = some (.getfield 11) := by decide +kernel
theorem dX4_takeGoer_125 : fet cX4_takeGoer 125 = some (.iconst 3) := by decide +kernel
theorem dX4_takeGoer_126 : fet cX4_takeGoer 126 = some (.iaload) := by decide +kernel
theorem dX4_takeGoer_127 : fet cX4_takeGoer 127 = some (.iastore) := by decide +kernel
theorem dX4_takeGoer_128 : fet cX4_takeGoer 128 = some (.aload_n 1) := by decide +kernel
theorem dX4_takeGoer_129 : fet cX4_takeGoer 129 = some (.getfield 95) := by decide +kernel
theorem dX4_takeGoer_132 : fet cX4_takeGoer 132 = some (.iload_n 2) := by decide +kernel
theorem dX4_takeGoer_133 : fet cX4_takeGoer 133 = some (.aload_n 0) := by decide +kernel
theorem dX4_takeGoer_134 : fet cX4_takeGoer 134 = some (.getfield 11) := by decide +kernel
theorem dX4_takeGoer_137 : fet cX4_takeGoer 137 = some (.iconst 4) := by decide +kernel
theorem dX4_takeGoer_138 : fet cX4_takeGoer 138 = some (.iaload) := by decide +kernel
theorem dX4_takeGoer_139 : fet cX4_takeGoer 139 = some (.iastore) := by decide +kernel
theorem dX4_takeGoer_140 : fet cX4_takeGoer 140 = some (.aload_n 1) := by decide +kernel
theorem dX4_takeGoer_141 : fet cX4_takeGoer 141 = some (.getfield 98) := by decide +kernel
theorem dX4_takeGoer_144 : fet cX4_takeGoer 144 = some (.iload_n 2) := by decide +kernel
theorem dX4_takeGoer_145 : fet cX4_takeGoer 145 = some (.aload_n 0) := by decide +kernel
theorem dX4_takeGoer_146 : fet cX4_takeGoer 146 = some (.getfield 11) := by decide +kernel
theorem dX4_takeGoer_149 : fet cX4_takeGoer 149 = some (.iconst 4) := by decide +kernel
theorem dX4_takeGoer_150 : fet cX4_takeGoer 150 = some (.iaload) := by decide +kernel
theorem dX4_takeGoer_151 : fet cX4_takeGoer 151 = some (.iconst 1) := by decide +kernel
theorem dX4_takeGoer_152 : fet cX4_takeGoer 152 = some (.if_icmp .ne 14) := by decide +kernel
theorem dX4_takeGoer_155 : fet cX4_takeGoer 155 = some (.iconst 2) := by decide +kernel
theorem dX4_takeGoer_156 : fet cX4_takeGoer 156 = some (.aload_n 0) := by decide +kernel
theorem dX4_takeGoer_157 : fet cX4_takeGoer 157 = some (.getfield 11) := by decide +kernel
theorem dX4_takeGoer_160 : fet cX4_takeGoer 160 = some (.iconst 2) := by decide +kernel
theorem dX4_takeGoer_161 : fet cX4_takeGoer 161 = some (.iaload) := by decide +kernel
theorem dX4_takeGoer_162 : fet cX4_takeGoer 162 = some (.imul) := by decide +kernel
theorem dX4_takeGoer_163 : fet cX4_takeGoer 163 = some (.goto 9) := by decide +kernel
theorem dX4_takeGoer_166 : fet cX4_takeGoer 166 = some (.aload_n 0) := by decide +kernel
theorem dX4_takeGoer_167 : fet cX4_takeGoer 167 = some (.getfield 11) := by decide +kernel
theorem dX4_takeGoer_170 : fet cX4_takeGoer 170 = some (.iconst 2) := by decide +kernel
theorem dX4_takeGoer_171 : fet cX4_takeGoer 171 = some (.iaload) := by decide +kernel
theorem dX4_takeGoer_172 : fet cX4_takeGoer 172 = some (.iastore) := by decide +kernel
theorem dX4_takeGoer_173 : fet cX4_takeGoer 173 = some (.aload_n 1) := by decide +kernel
theorem dX4_takeGoer_174 : fet cX4_takeGoer 174 = some (.dup) := by decide +kernel
theorem dX4_takeGoer_175 : fet cX4_takeGoer 175 = some (.getfield 80) := by decide +kernel
theorem dX4_takeGoer_178 : fet cX4_takeGoer 178 = some (.iconst 1) := by decide +kernel
theorem dX4_takeGoer_179 : fet cX4_takeGoer 179 = some (.iadd) := by decide +kernel
theorem dX4_takeGoer_180 : fet cX4_takeGoer 180 = some (.putfield 80) := by decide +kernel
theorem dX4_takeGoer_183 : fet cX4_takeGoer 183 = some (.iconst 1) := by decide +kernel
theorem dX4_takeGoer_184 : fet cX4_takeGoer 184 = some (.ireturn) := by decide +kernel
theorem dX4_areTwoIslands_0 : fet cX4_areTwoIslands 0 = some (.aload_n 0) := by decide +kernel
theorem dX4_areTwoIslands_1 : fet cX4_areTwoIslands 1 = some (.getfield 11) := by decide +kernel
theorem dX4_areTwoIslands_4 : fet cX4_areTwoIslands 4 = some (.iconst 0) := by decide +kernel
theorem dX4_areTwoIslands_5 : fet cX4_areTwoIslands 5 = some (.iaload) := by decide +kernel
theorem dX4_areTwoIslands_6 : fet cX4_areTwoIslands 6 = some (.aload_n 1) := by decide +kernel
theorem dX4_areTwoIslands_7 : fet cX4_areTwoIslands 7 = some (.getfield 56) := by decide +kernel
theorem dX4_areTwoIslands_10 : fet cX4_areTwoIslands 10 = some (.if_icmp .ge 35) := by decide +kernel
theorem dX4_areTwoIslands_13 : fet cX4_areTwoIslands 13 = some (.aload_n 0) := by decide +kernel
theorem dX4_areTwoIslands_14 : fet cX4_areTwoIslands 14 = some (.getfield 11) := by decide +kernel
theorem dX4_areTwoIslands_17 : fet cX4_areTwoIslands 17 = some (.iconst 1) := by decide +kernel
theorem dX4_areTwoIslands_18 : fet cX4_areTwoIslands 18 = some (.iaload) := by decide +kernel
theorem dX4_areTwoIslands_19 : fet cX4_areTwoIslands 19 = some (.aload_n 1) := by decide +kernel
theorem dX4_areTwoIslands_20 : fet cX4_areTwoIslands 20 = some (.getfield 56) := by decide +kernel
theorem dX4_areTwoIslands_23 : fet cX4_areTwoIslands 23 = some (.if_icmp .ge 22) := by decide +kernel
theorem dX4_areTwoIslands_26 : fet cX4_areTwoIslands 26 = some (.aload_n 0) := by decide +kernel
theorem dX4_areTwoIslands_27 : fet cX4_areTwoIslands 27 = some (.getfield 11) := by decide +kernel
theorem dX4_areTwoIslands_30 : fet cX4_areTwoIslands 30 = some (.iconst 0) := by decide +kernel
theorem dX4_areTwoIslands_31 : fet cX4_areTwoIslands 31 = some (.iaload) := by decide +kernel
theorem dX4_areTwoIslands_32 : fet cX4_areTwoIslands 32 = some (.aload_n 0) := by decide +kernel
theorem dX4_areTwoIslands_33 : fet cX4_areTwoIslands 33 = some (.getfield 11) := by decide +kernel
theorem dX4_areTwoIslands_36 : fet cX4_areTwoIslands 36 = some (.iconst 1) := by decide +kernel
theorem dX4_areTwoIslands_37 : fet cX4_areTwoIslands 37 = some (.iaload) := by decide +kernel
theorem dX4_areTwoIslands_38 : fet cX4_areTwoIslands 38 = some (.if_icmp .eq 7) := by decide +kernel
theorem dX4_areTwoIslands_41 : fet cX4_areTwoIslands 41 = some (.iconst 1) := by decide +kernel
theorem dX4_areTwoIslands_42 : fet cX4_areTwoIslands 42 = some (.goto 4) := by decide +kernel
theorem dX4_areTwoIslands_45 : fet cX4_areTwoIslands 45 = some (.iconst 0) := by decide +kernel
theorem dX4_areTwoIslands_46 : fet cX4_areTwoIslands 46 = some (.ireturn) := by decide +kernel
theorem dX5_init_0 : fet cX5_init 0 = some (.aload_n 0) := by decide +kernel
theorem dX5_init_1 : fet cX5_init 1 = some (.invokespecial 3) := by decide +kernel
theorem dX5_init_4 : fet cX5_init 4 = some (.aload_n 0) := by decide +kernel
theorem dX5_init_5 : fet cX5_init 5 = some (.bipush 9) := by decide +kernel
theorem dX5_init_7 : fet cX5_init 7 = some (.newarray .int) := by decide +kernel
theorem dX5_init_9 : fet cX5_init 9 = some (.putfield 9) := by decide +kernel
theorem dX5_init_12 : fet cX5_init 12 = some (.aload_n 0) := by decide +kernel
theorem dX5_init_13 : fet cX5_init 13 = some (.bipush 9) := by decide +kernel
theorem dX5_init_15 : fet cX5_init 15 = some (.newarray .int) := by decide +kernel
theorem dX5_init_17 : fet cX5_init 17 = some (.putfield 15) := by decide +kernel
theorem dX5_init_20 : fet cX5_init 20 = some (.aload_n 0) := by decide +kernel
theorem dX5_init_21 : fet cX5_init 21 = some (.bipush 81) := by decide +kernel
theorem dX5_init_23 : fet cX5_init 23 = some (.newarray .int) := by decide +kernel
theorem dX5_init_25 : fet cX5_init 25 = some (.putfield 18) := by decide +kernel
theorem dX5_init_28 : fet cX5_init 28 = some (.aload_n 0) := by decide +kernel
theorem dX5_init_29 : fet cX5_init 29 = some (.bipush 81) := by decide +kernel
theorem dX5_init_31 : fet cX5_init 31 = some (.newarray .int) := by decide +kernel
theorem dX5_init_33 : fet cX5_init 33 = some (.putfield 21) := by decide +kernel
theorem dX5_init_36 : fet cX5_init 36 = some (.aload_n 0) := by decide +kernel
theorem dX5_init_37 : fet cX5_init 37 = some (.iconst 5) := by decide +kernel
theorem dX5_init_38 : fet cX5_init 38 = some (.newarray .int) := by decide +kernel
theorem dX5_init_40 : fet cX5_init 40 = some (.putfield 24) := by decide +kernel
theorem dX5_init_43 : fet cX5_init 43 = some (.aload_n 0) := by decide +kernel
theorem dX5_init_44 : fet cX5_init 44 = some (.iconst 5) := by decide +kernel
theorem dX5_init_45 : fet cX5_init 45 = some (.newarray .int) := by decide +kernel
theorem dX5_init_47 : fet cX5_init 47 = some (.putfield 27) := by decide +kernel
theorem dX5_init_50 : fet cX5_init 50 = some (.return_) := by decide +kernel
theorem dX5_start_0 : fet cX5_start 0 = some (.aload_n 0) := by decide +kernel
theorem dX5_start_1 : fet cX5_start 1 = some (.iconst 0) := by decide +kernel
theorem dX5_start_2 : fet cX5_start 2 = some (.putfield 30) := by decide +kernel
theorem dX5_start_5 : fet cX5_start 5 = some (.aload_n 0) := by decide +kernel
theorem dX5_start_6 : fet cX5_start 6 = some (.iconst 0) := by decide +kernel
theorem dX5_start_7 : fet cX5_start 7 = some (.putfield 34) := by decide +kernel
theorem dX5_start_10 : fet cX5_start 10 = some (.iconst 0) := by decide +kernel
theorem dX5_start_11 : fet cX5_start 11 = some (.istore_n 2) := by decide +kernel
theorem dX5_start_12 : fet cX5_start 12 = some (.iload_n 2) := by decide +kernel
theorem dX5_start_13 : fet cX5_start 13 = some (.bipush 9) := by decide +kernel
theorem dX5_start_15 : fet cX5_start 15 = some (.if_icmp .ge 63) := by decide +kernel
theorem dX5_start_18 : fet cX5_start 18 = some (.aload_n 0) := by decide +kernel
theorem dX5_start_19 : fet cX5_start 19 = some (.getfield 9) := by decide +kernel
theorem dX5_start_22 : fet cX5_start 22 = some (.iload_n 2) := by decide +kernel
theorem dX5_start_23 : fet cX5_start 23 = some (.iconst 0) := by decide +kernel
theorem dX5_start_24 : fet cX5_start 24 = some (.iastore) := by decide +kernel
theorem dX5_start_25 : fet cX5_start 25 = some (.aload_n 0) := by decide +kernel
theorem dX5_start_26 : fet cX5_start 26 = some (.getfield 15) := by decide +kernel
theorem dX5_start_29 : fet cX5_start 29 = some (.iload_n 2) := by decide +kernel
theorem dX5_start_30 : fet cX5_start 30 = some (.iconst 0) := by decide +kernel
theorem dX5_start_31 : fet cX5_start 31 = some (.iastore) := by decide +kernel
theorem dX5_start_32 : fet cX5_start 32 = some (.bipush (-9)) := by decide +kernel
theorem dX5_start_34 : fet cX5_start 34 = some (.istore_n 3) := by decide +kernel
theorem dX5_start_35 : fet cX5_start 35 = some (.iload_n 3) := by decide +kernel
theorem dX5_start_36 : fet cX5_start 36 = some (.ifCond .ge 36) := by decide +kernel
theorem dX5_start_39 : fet cX5_start 39 = some (.aload_n 0) := by decide +kernel
theorem dX5_start_40 : fet cX5_start 40 = some (.getfield 18) := by decide +kernel
theorem dX5_start_43 : fet cX5_start 43 = some (.iload_n 2) := by decide +kernel
theorem dX5_start_44 : fet cX5_start 44 = some (.iload_n 3) := by decide +kernel
theorem dX5_start_45 : fet cX5_start 45 = some (.invokestatic 37) := by decide +kernel
theorem dX5_start_48 : fet cX5_start 48 = some (.aload_n 1) := by decide +kernel
theorem dX5_start_49 : fet cX5_start 49 = some (.getfield 41) := by decide +kernel
theorem dX5_start_52 : fet cX5_start 52 = some (.iload_n 2) := by decide +kernel
theorem dX5_start_53 : fet cX5_start 53 = some (.iaload) := by decide +kernel
theorem dX5_start_54 : fet cX5_start 54 = some (.iastore) := by decide +kernel
theorem dX5_start_55 : fet cX5_start 55 = some (.aload_n 0) := by decide +kernel
theorem dX5_start_56 : fet cX5_start 56 = some (.getfield 21) := by decide +kernel
theorem dX5_start_59 : fet cX5_start 59 = some (.iload_n 2) := by decide +kernel
theorem dX5_start_60 : fet cX5_start 60 = some (.iload_n 3) := by decide +kernel
theorem dX5_start_61 : fet cX5_start 61 = some (.invokestatic 37) := by decide +kernel
theorem dX5_start_64 : fet cX5_start 64 = some (.iconst 0) := by decide +kernel
theorem dX5_start_65 : fet cX5_start 65 = some (.iastore) := by decide +kernel
theorem dX5_start_66 : fet cX5_start 66 = some (.iinc 3 1) := by decide +kernel
theorem dX5_start_69 : fet cX5_start 69 = some (.goto (-34)) := by decide +kernel
theorem dX5_start_72 : fet cX5_start 72 = some (.iinc 2 1) := by decide +kernel
theorem dX5_start_75 : fet cX5_start 75 = some (.goto (-63)) := by decide +kernel
theorem dX5_start_78 : fet cX5_start 78 = some (.iconst 0) := by decide +kernel
theorem dX5_start_79 : fet cX5_start 79 = some (.istore_n 2) := by decide +kernel
theorem dX5_start_80 : fet cX5_start 80 = some (.iload_n 2) := by decide +kernel
theorem dX5_start_81 : fet cX5_start 81 = some (.iconst 5) := by decide +kernel
theorem dX5_start_82 : fet cX5_start 82 = some (.if_icmp .ge 33) := by decide +kernel
theorem dX5_start_85 : fet cX5_start 85 = some (.aload_n 0) := by decide +kernel
theorem dX5_start_86 : fet cX5_start 86 = some (.getfield 24) := by decide +kernel
theorem dX5_start_89 : fet cX5_start 89 = some (.iload_n 2) := by decide +kernel
theorem dX5_start_90 : fet cX5_start 90 = some (.aload_n 1) := by decide +kernel
theorem dX5_start_91 : fet cX5_start 91 = some (.getfield 46) := by decide +kernel
theorem dX5_start_94 : fet cX5_start 94 = some (.iload_n 2) := by decide +kernel
theorem dX5_start_95 : fet cX5_start 95 = some (.iaload) := by decide +kernel
theorem dX5_start_96 : fet cX5_start 96 = some (.iastore) := by decide +kernel
theorem dX5_start_97 : fet cX5_start 97 = some (.aload_n 0) := by decide +kernel
theorem dX5_start_98 : fet cX5_start 98 = some (.getfield 27) := by decide +kernel
theorem dX5_start_101 : fet cX5_start 101 = some (.iload_n 2) := by decide +kernel
theorem dX5_start_102 : fet cX5_start 102 = some (.aload_n 1) := by decide +kernel
theorem dX5_start_103 : fet cX5_start 103 = some (.getfield 49) := by decide +kernel
theorem dX5_start_106 : fet cX5_start 106 = some (.iload_n 2) := by decide +kernel
theorem dX5_start_107 : fet cX5_start 107 = some (.iaload) := by decide +kernel
theorem dX5_start_108 : fet cX5_start 108 = some (.iastore) := by decide +kernel
theorem dX5_start_109 : fet cX5_start 109 = some (.iinc 2 1) := by decide +kernel
theorem dX5_start_112 : fet cX5_start 112 = some (.goto (-32)) := by decide +kernel
theorem dX5_start_115 : fet cX5_start 115 = some (.return_) := by decide +kernel
theorem dX5_copy_0 : fet cX5_copy 0 = some (.aload_n 0) := by decide +kernel
theorem dX5_copy_1 : fet cX5_copy 1 = some (.aload_n 1) := by decide +kernel
theorem dX5_copy_2 : fet cX5_copy 2 = some (.getfield 30) := by decide +kernel
theorem dX5_copy_5 : fet cX5_copy 5 = some (.putfield 30) := by decide +kernel
theorem dX5_copy_8 : fet cX5_copy 8 = some (.aload_n 0) := by decide +kernel
theorem dX5_copy_9 : fet cX5_copy 9 = some (.aload_n 1) := by decide +kernel
theorem dX5_copy_10 : fet cX5_copy 10 = some (.getfield 34) := by decide +kernel
theorem dX5_copy_13 : fet cX5_copy 13 = some (.putfield 34) := by decide +kernel
theorem dX5_copy_16 : fet cX5_copy 16 = some (.aload_n 1) := by decide +kernel
theorem dX5_copy_17 : fet cX5_copy 17 = some (.getfield 9) := by decide +kernel
theorem dX5_copy_20 : fet cX5_copy 20 = some (.iconst 0) := by decide +kernel
theorem dX5_copy_21 : fet cX5_copy 21 = some (.aload_n 0) := by decide +kernel
theorem dX5_copy_22 : fet cX5_copy 22 = some (.getfield 9) := by decide +kernel
theorem dX5_copy_25 : fet cX5_copy 25 = some (.iconst 0) := by decide +kernel
theorem dX5_copy_26 : fet cX5_copy 26 = some (.aload_n 0) := by decide +kernel
theorem dX5_copy_27 : fet cX5_copy 27 = some (.getfield 9) := by decide +kernel
theorem dX5_copy_30 : fet cX5_copy 30 = some (.arraylength) := by decide +kernel
theorem dX5_copy_31 : fet cX5_copy 31 = some (.invokestatic 52) := by decide +kernel
theorem dX5_copy_34 : fet cX5_copy 34 = some (.aload_n 1) := by decide +kernel
theorem dX5_copy_35 : fet cX5_copy 35 = some (.getfield 15) := by decide +kernel
theorem dX5_copy_38 : fet cX5_copy 38 = some (.iconst 0) := by decide +kernel
theorem dX5_copy_39 : fet cX5_copy 39 = some (.aload_n 0) := by decide +kernel
theorem dX5_copy_40 : fet cX5_copy 40 = some (.getfield 15) := by decide +kernel
theorem dX5_copy_43 : fet cX5_copy 43 = some (.iconst 0) := by decide +kernel
theorem dX5_copy_44 : fet cX5_copy 44 = some (.aload_n 0) := by decide +kernel
theorem dX5_copy_45 : fet cX5_copy 45 = some (.getfield 15) := by decide +kernel
theorem dX5_copy_48 : fet cX5_copy 48 = some (.arraylength) := by decide +kernel
theorem dX5_copy_49 : fet cX5_copy 49 = some (.invokestatic 52) := by decide +kernel
theorem dX5_copy_52 : fet cX5_copy 52 = some (.aload_n 1) := by decide +kernel
theorem dX5_copy_53 : fet cX5_copy 53 = some (.getfield 18) := by decide +kernel
theorem dX5_copy_56 : fet cX5_copy 56 = some (.iconst 0) := by decide +kernel
theorem dX5_copy_57 : fet cX5_copy 57 = some (.aload_n 0) := by decide +kernel
theorem dX5_copy_58 : fet cX5_copy 58 = some (.getfield 18) := by decide +kernel
theorem dX5_copy_61 : fet cX5_copy 61 = some (.iconst 0) := by decide +kernel
theorem dX5_copy_62 : fet cX5_copy 62 = some (.aload_n 0) := by decide +kernel
theorem dX5_copy_63 : fet cX5_copy 63 = some (.getfield 18) := by decide +kernel
theorem dX5_copy_66 : fet cX5_copy 66 = some (.arraylength) := by decide +kernel
theorem dX5_copy_67 : fet cX5_copy 67 = some (.invokestatic 52) := by decide +kernel
theorem dX5_copy_70 : fet cX5_copy 70 = some (.aload_n 1) := by decide +kernel
theorem dX5_copy_71 : fet cX5_copy 71 = some (.getfield 21) := by decide +kernel
theorem dX5_copy_74 : fet cX5_copy 74 = some (.iconst 0) := by decide +kernel
theorem dX5_copy_75 : fet cX5_copy 75 = some (.aload_n 0) := by decide +kernel
theorem dX5_copy_76 : fet cX5_copy 76 = some (.getfield 21) := by decide +kernel
theorem dX5_copy_79 : fet cX5_copy 79 = some (.iconst 0) := by decide +kernel
theorem dX5_copy_80 : fet cX5_copy 80 = some (.aload_n 0) := by decide +kernel
theorem dX5_copy_81 : fet cX5_copy 81 = some (.getfield 21) := by decide +kernel
theorem dX5_copy_84 : fet cX5_copy 84 = some (.arraylength) := by decide +kernel
theorem dX5_copy_85 : fet cX5_copy 85 = some (.invokestatic 52) := by decide +kernel
theorem dX5_copy_88 : fet cX5_copy 88 = some (.aload_n 1) := by decide +kernel
theorem dX5_copy_89 : fet cX5_copy 89 = some (.getfield 24) := by decide +kernel
theorem dX5_copy_92 : fet cX5_copy 92 = some (.iconst 0) := by decide +kernel
theorem dX5_copy_93 : fet cX5_copy 93 = some (.aload_n 0) := by decide +kernel
theorem dX5_copy_94 : fet cX5_copy 94 = some (.getfield 24) := by decide +kernel
theorem dX5_copy_97 : fet cX5_copy 97 = some (.iconst 0) := by decide +kernel
theorem dX5_copy_98 : fet cX5_copy 98 = some (.aload_n 0) := by decide +kernel
theorem dX5_copy_99 : fet cX5_copy 99 = some (.getfield 24) := by decide +kernel
theorem dX5_copy_102 : fet cX5_copy 102 = some (.arraylength) := by decide +kernel
theorem dX5_copy_103 : fet cX5_copy 103 = some (.invokestatic 52) := by decide +kernel
theorem dX5_copy_106 : fet cX5_copy 106 = some (.aload_n 1) := by decide +kernel
theorem dX5_copy_107 : fet cX5_copy 107 = some (.getfield 27) := by decide +kernel
theorem dX5_copy_110 : fet cX5_copy 110 = some (.iconst 0) := by decide +kernel
theorem dX5_copy_111 : fet cX5_copy 111 = some (.aload_n 0) := by decide +kernel
theorem dX5_copy_112 : fet cX5_copy 112 = some (.getfield 27) := by decide +kernel
theorem dX5_copy_115 : fet cX5_copy 115 = some (.iconst 0) := by decide +kernel
theorem dX5_copy_116 : fet cX5_copy 116 = some (.aload_n 0) := by decide +kernel
theorem dX5_copy_117 : fet cX5_copy 117 = some (.getfield 27) := by decide +kernel
theorem dX5_copy_120 : fet cX5_copy 120 = some (.arraylength) := by decide +kernel
theorem dX5_copy_121 : fet cX5_copy 121 = some (.invokestatic 52) := by decide +kernel
theorem dX5_copy_124 : fet cX5_copy 124 = some (.return_) := by decide +kernel
theorem dX5_endDay_0 : fet cX5_endDay 0 = some (.iconst 0) := by decide +kernel
theorem dX5_endDay_1 : fet cX5_endDay 1 = some (.istore_n 1) := by decide +kernel
theorem dX5_endDay_2 : fet cX5_endDay 2 = some (.iload_n 1) := by decide +kernel
theorem dX5_endDay_3 : fet cX5_endDay 3 = some (.bipush 9) := by decide +kernel
theorem dX5_endDay_5 : fet cX5_endDay 5 = some (.if_icmp .ge 61) := by decide +kernel
theorem dX5_endDay_8 : fet cX5_endDay 8 = some (.aload_n 0) := by decide +kernel
theorem dX5_endDay_9 : fet cX5_endDay 9 = some (.getfield 18) := by decide +kernel
theorem dX5_endDay_12 : fet cX5_endDay 12 = some (.iload_n 1) := by decide +kernel
theorem dX5_endDay_13 : fet cX5_endDay 13 = some (.aload_n 0) := by decide +kernel
theorem dX5_endDay_14 : fet cX5_endDay 14 = some (.getfield 30) := by decide +kernel
theorem dX5_endDay_17 : fet cX5_endDay 17 = some (.invokestatic 37) := by decide +kernel
theorem dX5_endDay_20 : fet cX5_endDay 20 = some (.aload_n 0) := by decide +kernel
theorem dX5_endDay_21 : fet cX5_endDay 21 = some (.getfield 9) := by decide +kernel
theorem dX5_endDay_24 : fet cX5_endDay 24 = some (.iload_n 1) := by decide +kernel
theorem dX5_endDay_25 : fet cX5_endDay 25 = some (.iaload) := by decide +kernel
theorem dX5_endDay_26 : fet cX5_endDay 26 = some (.iastore) := by decide +kernel
theorem dX5_endDay_27 : fet cX5_endDay 27 = some (.aload_n 0) := by decide +kernel
theorem dX5_endDay_28 : fet cX5_endDay 28 = some (.getfield 21) := by decide +kernel
theorem dX5_endDay_31 : fet cX5_endDay 31 = some (.iload_n 1) := by decide +kernel
theorem dX5_endDay_32 : fet cX5_endDay 32 = some (.aload_n 0) := by decide +kernel
theorem dX5_endDay_33 : fet cX5_endDay 33 = some (.getfield 30) := by decide +kernel
theorem dX5_endDay_36 : fet cX5_endDay 36 = some (.invokestatic 37) := by decide +kernel
theorem dX5_endDay_39 : fet cX5_endDay 39 = some (.aload_n 0) := by decide +kernel
theorem dX5_endDay_40 : fet cX5_endDay 40 = some (.getfield 15) := by decide +kernel
theorem dX5_endDay_43 : fet cX5_endDay 43 = some (.iload_n 1) := by decide +kernel
theorem dX5_endDay_44 : fet cX5_endDay 44 = some (.iaload) := by decide +kernel
theorem dX5_endDay_45 : fet cX5_endDay 45 = some (.iastore) := by decide +kernel
theorem dX5_endDay_46 : fet cX5_endDay 46 = some (.aload_n 0) := by decide +kernel
theorem dX5_endDay_47 : fet cX5_endDay 47 = some (.getfield 9) := by decide +kernel
theorem dX5_endDay_50 : fet cX5_endDay 50 = some (.iload_n 1) := by decide +kernel
theorem dX5_endDay_51 : fet cX5_endDay 51 = some (.iconst 0) := by decide +kernel
theorem dX5_endDay_52 : fet cX5_endDay 52 = some (.iastore) := by decide +kernel
theorem dX5_endDay_53 : fet cX5_endDay 53 = some (.aload_n 0) := by decide +kernel
theorem dX5_endDay_54 : fet cX5_endDay 54 = some (.getfield 15) := by decide +kernel
theorem dX5_endDay_57 : fet cX5_endDay 57 = some (.iload_n 1) := by decide +kernel
theorem dX5_endDay_58 : fet cX5_endDay 58 = some (.iconst 0) := by decide +kernel
theorem dX5_endDay_59 : fet cX5_endDay 59 = some (.iastore) := by decide +kernel
theorem dX5_endDay_60 : fet cX5_endDay 60 = some (.iinc 1 1) := by decide +kernel
theorem dX5_endDay_63 : fet cX5_endDay 63 = some (.goto (-61)) := by decide +kernel
theorem dX5_endDay_66 : fet cX5_endDay 66 = some (.aload_n 0) := by decide +kernel
theorem dX5_endDay_67 : fet cX5_endDay 67 = some (.dup) := by decide +kernel
theorem dX5_endDay_68 : fet cX5_endDay 68 = some (.getfield 30) := by decide +kernel
theorem dX5_endDay_71 : fet cX5_endDay 71 = some (.iconst 1) := by decide +kernel
theorem dX5_endDay_72 : fet cX5_endDay 72 = some (.iadd) := by decide +kernel
theorem dX5_endDay_73 : fet cX5_endDay 73 = some (.putfield 30) := by decide +kernel
theorem dX5_endDay_76 : fet cX5_endDay 76 = some (.return_) := by decide +kernel
theorem dX5_fallen_0 : fet cX5_fallen 0 = some (.iconst 0) := by decide +kernel
theorem dX5_fallen_1 : fet cX5_fallen 1 = some (.istore_n 2) := by decide +kernel
theorem dX5_fallen_2 : fet cX5_fallen 2 = some (.iconst 0) := by decide +kernel
theorem dX5_fallen_3 : fet cX5_fallen 3 = some (.istore_n 3) := by decide +kernel
theorem dX5_fallen_4 : fet cX5_fallen 4 = some (.iload_n 3) := by decide +kernel
theorem dX5_fallen_5 : fet cX5_fallen 5 = some (.iload_n 1) := by decide +kernel
theorem dX5_fallen_6 : fet cX5_fallen 6 = some (.if_icmp .ge 28) := by decide +kernel
theorem dX5_fallen_9 : fet cX5_fallen 9 = some (.iload_n 3) := by decide +kernel
theorem dX5_fallen_10 : fet cX5_fallen 10 = some (.iconst 5) := by decide +kernel
theorem dX5_fallen_11 : fet cX5_fallen 11 = some (.if_icmp .ge 23) := by decide +kernel
theorem dX5_fallen_14 : fet cX5_fallen 14 = some (.aload_n 0) := by decide +kernel
theorem dX5_fallen_15 : fet cX5_fallen 15 = some (.getfield 24) := by decide +kernel
theorem dX5_fallen_18 : fet cX5_fallen 18 = some (.iload_n 3) := by decide +kernel
theorem dX5_fallen_19 : fet cX5_fallen 19 = some (.iaload) := by decide +kernel
theorem dX5_fallen_20 : fet cX5_fallen 20 = some (.bipush (-4)) := by decide +kernel
theorem dX5_fallen_22 : fet cX5_fallen 22 = some (.if_icmp .ne 6) := by decide +kernel
theorem dX5_fallen_25 : fet cX5_fallen 25 = some (.iinc 2 1) := by decide +kernel
theorem dX5_fallen_28 : fet cX5_fallen 28 = some (.iinc 3 1) := by decide +kernel
theorem dX5_fallen_31 : fet cX5_fallen 31 = some (.goto (-27)) := by decide +kernel
theorem dX5_fallen_34 : fet cX5_fallen 34 = some (.iload_n 2) := by decide +kernel
theorem dX5_fallen_35 : fet cX5_fallen 35 = some (.ireturn) := by decide +kernel
theorem dX5_slot_0 : fet cX5_slot 0 = some (.iload_n 0) := by decide +kernel
theorem dX5_slot_1 : fet cX5_slot 1 = some (.bipush 9) := by decide +kernel
theorem dX5_slot_3 : fet cX5_slot 3 = some (.imul) := by decide +kernel
theorem dX5_slot_4 : fet cX5_slot 4 = some (.iload_n 1) := by decide +kernel
theorem dX5_slot_5 : fet cX5_slot 5 = some (.bipush 9) := by decide +kernel
theorem dX5_slot_7 : fet cX5_slot 7 = some (.invokestatic 58) := by decide +kernel
theorem dX5_slot_10 : fet cX5_slot 10 = some (.iadd) := by decide +kernel
theorem dX5_slot_11 : fet cX5_slot 11 = some (.ireturn) := by decide +kernel
theorem dX6_init_0 : fet cX6_init 0 = some (.aload_n 0) := by decide +kernel
theorem dX6_init_1 : fet cX6_init 1 = some (.invokespecial 3) := by decide +kernel
theorem dX6_init_4 : fet cX6_init 4 = some (.aload_n 0) := by decide +kernel
theorem dX6_init_5 : fet cX6_init 5 = some (.bipush 8) := by decide +kernel
theorem dX6_init_7 : fet cX6_init 7 = some (.newarray .int) := by decide +kernel
theorem dX6_init_9 : fet cX6_init 9 = some (.putfield 9) := by decide +kernel
theorem dX6_init_12 : fet cX6_init 12 = some (.aload_n 0) := by decide +kernel
theorem dX6_init_13 : fet cX6_init 13 = some (.bipush 8) := by decide +kernel
theorem dX6_init_15 : fet cX6_init 15 = some (.newarray .int) := by decide +kernel
theorem dX6_init_17 : fet cX6_init 17 = some (.putfield 15) := by decide +kernel
theorem dX6_init_20 : fet cX6_init 20 = some (.return_) := by decide +kernel
theorem dX6_seek_0 : fet cX6_seek 0 = some (.aload_n 0) := by decide +kernel
theorem dX6_seek_1 : fet cX6_seek 1 = some (.bipush (-4)) := by decide +kernel
theorem dX6_seek_3 : fet cX6_seek 3 = some (.putfield 18) := by decide +kernel
theorem dX6_seek_6 : fet cX6_seek 6 = some (.aload_n 0) := by decide +kernel
theorem dX6_seek_7 : fet cX6_seek 7 = some (.bipush (-4)) := by decide +kernel
theorem dX6_seek_9 : fet cX6_seek 9 = some (.putfield 22) := by decide +kernel
theorem dX6_seek_12 : fet cX6_seek 12 = some (.iconst 0) := by decide +kernel
theorem dX6_seek_13 : fet cX6_seek 13 = some (.istore 5) := by decide +kernel
theorem dX6_seek_15 : fet cX6_seek 15 = some (.iload 5) := by decide +kernel
theorem dX6_seek_17 : fet cX6_seek 17 = some (.bipush 8) := by decide +kernel
theorem dX6_seek_19 : fet cX6_seek 19 = some (.if_icmp .ge 28) := by decide +kernel
theorem dX6_seek_22 : fet cX6_seek 22 = some (.aload_n 0) := by decide +kernel
theorem dX6_seek_23 : fet cX6_seek 23 = some (.getfield 9) := by decide +kernel
theorem dX6_seek_26 : fet cX6_seek 26 = some (.iload 5) := by decide +kernel
theorem dX6_seek_28 : fet cX6_seek 28 = some (.iload 5) := by decide +kernel
theorem dX6_seek_30 : fet cX6_seek 30 = some (.iload_n 2) := by decide +kernel
theorem dX6_seek_31 : fet cX6_seek 31 = some (.if_icmp .ne 7) := by decide +kernel
theorem dX6_seek_34 : fet cX6_seek 34 = some (.iconst 0) := by decide +kernel
theorem dX6_seek_35 : fet cX6_seek 35 = some (.goto 5) := by decide +kernel
theorem dX6_seek_38 : fet cX6_seek 38 = some (.ldc 25) := by decide +kernel
theorem dX6_seek_40 : fet cX6_seek 40 = some (.iastore) := by decide +kernel
theorem dX6_seek_41 : fet cX6_seek 41 = some (.iinc 5 1) := by decide +kernel
theorem dX6_seek_44 : fet cX6_seek 44 = some (.goto (-29)) := by decide +kernel
theorem dX6_seek_47 : fet cX6_seek 47 = some (.iconst 1) := by decide +kernel
theorem dX6_seek_48 : fet cX6_seek 48 = some (.istore 5) := by decide +kernel
theorem dX6_seek_50 : fet cX6_seek 50 = some (.iload 5) := by decide +kernel
theorem dX6_seek_52 : fet cX6_seek 52 = some (.bipush 8) := by decide +kernel
theorem dX6_seek_54 : fet cX6_seek 54 = some (.if_icmp .gt 87) := by decide +kernel
theorem dX6_seek_57 : fet cX6_seek 57 = some (.aload_n 1) := by decide +kernel
theorem dX6_seek_58 : fet cX6_seek 58 = some (.invokevirtual 26) := by decide +kernel
theorem dX6_seek_61 : fet cX6_seek 61 = some (.aload_n 1) := by decide +kernel
theorem dX6_seek_62 : fet cX6_seek 62 = some (.aload_n 1) := by decide +kernel
theorem dX6_seek_63 : fet cX6_seek 63 = some (.getfield 31) := by decide +kernel
theorem dX6_seek_66 : fet cX6_seek 66 = some (.getfield 35) := by decide +kernel
theorem dX6_seek_69 : fet cX6_seek 69 = some (.iconst 1) := by decide +kernel
theorem dX6_seek_70 : fet cX6_seek 70 = some (.isub) := by decide +kernel
theorem dX6_seek_71 : fet cX6_seek 71 = some (.aload_n 1) := by decide +kernel
theorem dX6_seek_72 : fet cX6_seek 72 = some (.getfield 40) := by decide +kernel
theorem dX6_seek_75 : fet cX6_seek 75 = some (.iadd) := by decide +kernel
theorem dX6_seek_76 : fet cX6_seek 76 = some (.invokevirtual 43) := by decide +kernel
theorem dX6_seek_79 : fet cX6_seek 79 = some (.aload_n 0) := by decide +kernel
theorem dX6_seek_80 : fet cX6_seek 80 = some (.aload_n 1) := by decide +kernel
theorem dX6_seek_81 : fet cX6_seek 81 = some (.iload 4) := by decide +kernel
theorem dX6_seek_83 : fet cX6_seek 83 = some (.invokevirtual 47) := by decide +kernel
theorem dX6_seek_86 : fet cX6_seek 86 = some (.aload_n 0) := by decide +kernel
theorem dX6_seek_87 : fet cX6_seek 87 = some (.getfield 9) := by decide +kernel
theorem dX6_seek_90 : fet cX6_seek 90 = some (.iload_n 3) := by decide +kernel
theorem dX6_seek_91 : fet cX6_seek 91 = some (.iaload) := by decide +kernel
theorem dX6_seek_92 : fet cX6_seek 92 = some (.ldc 25) := by decide +kernel
theorem dX6_seek_94 : fet cX6_seek 94 = some (.if_icmp .ge 41) := by decide +kernel
theorem dX6_seek_97 : fet cX6_seek 97 = some (.aload_n 0) := by decide +kernel
theorem dX6_seek_98 : fet cX6_seek 98 = some (.getfield 18) := by decide +kernel
theorem dX6_seek_101 : fet cX6_seek 101 = some (.bipush (-4)) := by decide +kernel
theorem dX6_seek_103 : fet cX6_seek 103 = some (.if_icmp .eq 16) := by decide +kernel
theorem dX6_seek_106 : fet cX6_seek 106 = some (.aload_n 0) := by decide +kernel
theorem dX6_seek_107 : fet cX6_seek 107 = some (.getfield 9) := by decide +kernel
theorem dX6_seek_110 : fet cX6_seek 110 = some (.iload_n 3) := by decide +kernel
theorem dX6_seek_111 : fet cX6_seek 111 = some (.iaload) := by decide +kernel
theorem dX6_seek_112 : fet cX6_seek 112 = some (.aload_n 0) := by decide +kernel
theorem dX6_seek_113 : fet cX6_seek 113 = some (.getfield 18) := by decide +kernel
theorem dX6_seek_116 : fet cX6_seek 116 = some (.if_icmp .ge 19) := by decide +kernel
theorem dX6_seek_119 : fet cX6_seek 119 = some (.aload_n 0) := by decide +kernel
theorem dX6_seek_120 : fet cX6_seek 120 = some (.aload_n 0) := by decide +kernel
theorem dX6_seek_121 : fet cX6_seek 121 = some (.getfield 9) := by decide +kernel
theorem dX6_seek_124 : fet cX6_seek 124 = some (.iload_n 3) := by decide +kernel
theorem dX6_seek_125 : fet cX6_seek 125 = some (.iaload) := by decide +kernel
theorem dX6_seek_126 : fet cX6_seek 126 = some (.putfield 18) := by decide +kernel
theorem dX6_seek_129 : fet cX6_seek 129 = some (.aload_n 0) := by decide +kernel
theorem dX6_seek_130 : fet cX6_seek 130 = some (.iload 5) := by decide +kernel
theorem dX6_seek_132 : fet cX6_seek 132 = some (.putfield 22) := by decide +kernel
theorem dX6_seek_135 : fet cX6_seek 135 = some (.iinc 5 1) := by decide +kernel
theorem dX6_seek_138 : fet cX6_seek 138 = some (.goto (-88)) := by decide +kernel
theorem dX6_seek_141 : fet cX6_seek 141 = some (.return_) := by decide +kernel
theorem dX6_goOn_0 : fet cX6_goOn 0 = some (.iconst 0) := by decide +kernel
theorem dX6_goOn_1 : fet cX6_goOn 1 = some (.istore_n 3) := by decide +kernel
theorem dX6_goOn_2 : fet cX6_goOn 2 = some (.iload_n 3) := by decide +kernel
theorem dX6_goOn_3 : fet cX6_goOn 3 = some (.bipush 8) := by decide +kernel
theorem dX6_goOn_5 : fet cX6_goOn 5 = some (.if_icmp .ge 17) := by decide +kernel
theorem dX6_goOn_8 : fet cX6_goOn 8 = some (.aload_n 0) := by decide +kernel
theorem dX6_goOn_9 : fet cX6_goOn 9 = some (.getfield 15) := by decide +kernel
theorem dX6_goOn_12 : fet cX6_goOn 12 = some (.iload_n 3) := by decide +kernel
theorem dX6_goOn_13 : fet cX6_goOn 13 = some (.ldc 25) := by decide +kernel
theorem dX6_goOn_15 : fet cX6_goOn 15 = some (.iastore) := by decide +kernel
theorem dX6_goOn_16 : fet cX6_goOn 16 = some (.iinc 3 1) := by decide +kernel
theorem dX6_goOn_19 : fet cX6_goOn 19 = some (.goto (-17)) := by decide +kernel
theorem dX6_goOn_22 : fet cX6_goOn 22 = some (.aload_n 1) := by decide +kernel
theorem dX6_goOn_23 : fet cX6_goOn 23 = some (.getfield 51) := by decide +kernel
theorem dX6_goOn_26 : fet cX6_goOn 26 = some (.astore_n 3) := by decide +kernel
theorem dX6_goOn_27 : fet cX6_goOn 27 = some (.iconst 0) := by decide +kernel
theorem dX6_goOn_28 : fet cX6_goOn 28 = some (.istore 4) := by decide +kernel
theorem dX6_goOn_30 : fet cX6_goOn 30 = some (.iload 4) := by decide +kernel
theorem dX6_goOn_32 : fet cX6_goOn 32 = some (.aload_n 3) := by decide +kernel
theorem dX6_goOn_33 : fet cX6_goOn 33 = some (.getfield 55) := by decide +kernel
theorem dX6_goOn_36 : fet cX6_goOn 36 = some (.if_icmp .ge 75) := by decide +kernel
theorem dX6_goOn_39 : fet cX6_goOn 39 = some (.aload_n 1) := by decide +kernel
theorem dX6_goOn_40 : fet cX6_goOn 40 = some (.getfield 60) := by decide +kernel
theorem dX6_goOn_43 : fet cX6_goOn 43 = some (.iload 4) := by decide +kernel
theorem dX6_goOn_45 : fet cX6_goOn 45 = some (.iaload) := by decide +kernel
theorem dX6_goOn_46 : fet cX6_goOn 46 = some (.iload_n 2) := by decide +kernel
theorem dX6_goOn_47 : fet cX6_goOn 47 = some (.if_icmp .ge 15) := by decide +kernel
theorem dX6_goOn_50 : fet cX6_goOn 50 = some (.iload_n 2) := by decide +kernel
theorem dX6_goOn_51 : fet cX6_goOn 51 = some (.aload_n 1) := by decide +kernel
theorem dX6_goOn_52 : fet cX6_goOn 52 = some (.getfield 60) := by decide +kernel
theorem dX6_goOn_55 : fet cX6_goOn 55 = some (.iload 4) := by decide +kernel
theorem dX6_goOn_57 : fet cX6_goOn 57 = some (.iaload) := by decide +kernel
theorem dX6_goOn_58 : fet cX6_goOn 58 = some (.isub) := by decide +kernel
theorem dX6_goOn_59 : fet cX6_goOn 59 = some (.goto 4) := by decide +kernel
theorem dX6_goOn_62 : fet cX6_goOn 62 = some (.iconst 0) := by decide +kernel
theorem dX6_goOn_63 : fet cX6_goOn 63 = some (.istore 5) := by decide +kernel
theorem dX6_goOn_65 : fet cX6_goOn 65 = some (.aload_n 0) := by decide +kernel
theorem dX6_goOn_66 : fet cX6_goOn 66 = some (.aload_n 3) := by decide +kernel
theorem dX6_goOn_67 : fet cX6_goOn 67 = some (.getfield 63) := by decide +kernel
theorem dX6_goOn_70 : fet cX6_goOn 70 = some (.iload 4) := by decide +kernel
theorem dX6_goOn_72 : fet cX6_goOn 72 = some (.iaload) := by decide +kernel
theorem dX6_goOn_73 : fet cX6_goOn 73 = some (.aload_n 3) := by decide +kernel
theorem dX6_goOn_74 : fet cX6_goOn 74 = some (.getfield 66) := by decide +kernel
theorem dX6_goOn_77 : fet cX6_goOn 77 = some (.iload 4) := by decide +kernel
theorem dX6_goOn_79 : fet cX6_goOn 79 = some (.iaload) := by decide +kernel
theorem dX6_goOn_80 : fet cX6_goOn 80 = some (.iload 5) := by decide +kernel
theorem dX6_goOn_82 : fet cX6_goOn 82 = some (.invokevirtual 69) := by decide +kernel
theorem dX6_goOn_85 : fet cX6_goOn 85 = some (.aload_n 0) := by decide +kernel
theorem dX6_goOn_86 : fet cX6_goOn 86 = some (.aload_n 3) := by decide +kernel
theorem dX6_goOn_87 : fet cX6_goOn 87 = some (.getfield 66) := by decide +kernel
theorem dX6_goOn_90 : fet cX6_goOn 90 = some (.iload 4) := by decide +kernel
theorem dX6_goOn_92 : fet cX6_goOn 92 = some (.iaload) := by decide +kernel
theorem dX6_goOn_93 : fet cX6_goOn 93 = some (.aload_n 3) := by decide +kernel
theorem dX6_goOn_94 : fet cX6_goOn 94 = some (.getfield 63) := by decide +kernel
theorem dX6_goOn_97 : fet cX6_goOn 97 = some (.iload 4) := by decide +kernel
theorem dX6_goOn_99 : fet cX6_goOn 99 = some (.iaload) := by decide +kernel
theorem dX6_goOn_100 : fet cX6_goOn 100 = some (.iload 5) := by decide +kernel
theorem dX6_goOn_102 : fet cX6_goOn 102 = some (.invokevirtual 69) := by decide +kernel
theorem dX6_goOn_105 : fet cX6_goOn 105 = some (.iinc 4 1) := by decide +kernel
theorem dX6_goOn_108 : fet cX6_goOn 108 = some (.goto (-78)) := by decide +kernel
theorem dX6_goOn_111 : fet cX6_goOn 111 = some (.aload_n 0) := by decide +kernel
theorem dX6_goOn_112 : fet cX6_goOn 112 = some (.getfield 9) := by decide +kernel
theorem dX6_goOn_115 : fet cX6_goOn 115 = some (.astore 4) := by decide +kernel
theorem dX6_goOn_117 : fet cX6_goOn 117 = some (.aload_n 0) := by decide +kernel
theorem dX6_goOn_118 : fet cX6_goOn 118 = some (.aload_n 0) := by decide +kernel
theorem dX6_goOn_119 : fet cX6_goOn 119 = some (.getfield 15) := by decide +kernel
theorem dX6_goOn_122 : fet cX6_goOn 122 = some (.putfield 9) := by decide +kernel
theorem dX6_goOn_125 : fet cX6_goOn 125 = some (.aload_n 0) := by decide +kernel
theorem dX6_goOn_126 : fet cX6_goOn 126 = some (.aload 4) := by decide +kernel
theorem dX6_goOn_128 : fet cX6_goOn 128 = some (.putfield 15) := by decide +kernel
theorem dX6_goOn_131 : fet cX6_goOn 131 = some (.return_) := by decide +kernel
theorem dX6_improve_0 : fet cX6_improve 0 = some (.aload_n 0) := by decide +kernel
theorem dX6_improve_1 : fet cX6_improve 1 = some (.getfield 9) := by decide +kernel
theorem dX6_improve_4 : fet cX6_improve 4 = some (.iload_n 1) := by decide +kernel
theorem dX6_improve_5 : fet cX6_improve 5 = some (.iaload) := by decide +kernel
theorem dX6_improve_6 : fet cX6_improve 6 = some (.ldc 25) := by decide +kernel
theorem dX6_improve_8 : fet cX6_improve 8 = some (.if_icmp .ge 34) := by decide +kernel
theorem dX6_improve_11 : fet cX6_improve 11 = some (.aload_n 0) := by decide +kernel
theorem dX6_improve_12 : fet cX6_improve 12 = some (.getfield 9) := by decide +kernel
theorem dX6_improve_15 : fet cX6_improve 15 = some (.iload_n 1) := by decide +kernel
theorem dX6_improve_16 : fet cX6_improve 16 = some (.iaload) := by decide +kernel
theorem dX6_improve_17 : fet cX6_improve 17 = some (.iload_n 3) := by decide +kernel
theorem dX6_improve_18 : fet cX6_improve 18 = some (.iadd) := by decide +kernel
theorem dX6_improve_19 : fet cX6_improve 19 = some (.aload_n 0) := by decide +kernel
theorem dX6_improve_20 : fet cX6_improve 20 = some (.getfield 15) := by decide +kernel
theorem dX6_improve_23 : fet cX6_improve 23 = some (.iload_n 2) := by decide +kernel
theorem dX6_improve_24 : fet cX6_improve 24 = some (.iaload) := by decide +kernel
theorem dX6_improve_25 : fet cX6_improve 25 = some (.if_icmp .ge 17) := by decide +kernel
theorem dX6_improve_28 : fet cX6_improve 28 = some (.aload_n 0) := by decide +kernel
theorem dX6_improve_29 : fet cX6_improve 29 = some (.getfield 15) := by decide +kernel
theorem dX6_improve_32 : fet cX6_improve 32 = some (.iload_n 2) := by decide +kernel
theorem dX6_improve_33 : fet cX6_improve 33 = some (.aload_n 0) := by decide +kernel
theorem dX6_improve_34 : fet cX6_improve 34 = some (.getfield 9) := by decide +kernel
theorem dX6_improve_37 : fet cX6_improve 37 = some (.iload_n 1) := by decide +kernel
theorem dX6_improve_38 : fet cX6_improve 38 = some (.iaload) := by decide +kernel
theorem dX6_improve_39 : fet cX6_improve 39 = some (.iload_n 3) := by decide +kernel
theorem dX6_improve_40 : fet cX6_improve 40 = some (.iadd) := by decide +kernel
theorem dX6_improve_41 : fet cX6_improve 41 = some (.iastore) := by decide +kernel
theorem dX6_improve_42 : fet cX6_improve 42 = some (.return_) := by decide +kernel
theorem dJ9_floorMod_7cf53_0 : fet cJ9_floorMod_7cf53 0 = some (.iload_n 0) := by decide +kernel
theorem dJ9_floorMod_7cf53_1 : fet cJ9_floorMod_7cf53 1 = some (.iload_n 1) := by decide +kernel
theorem dJ9_floorMod_7cf53_2 : fet cJ9_floorMod_7cf53 2 = some (.irem) := by decide +kernel
theorem dJ9_floorMod_7cf53_3 : fet cJ9_floorMod_7cf53 3 = some (.istore_n 2) := by decide +kernel
theorem dJ9_floorMod_7cf53_4 : fet cJ9_floorMod_7cf53 4 = some (.iload_n 0) := by decide +kernel
theorem dJ9_floorMod_7cf53_5 : fet cJ9_floorMod_7cf53 5 = some (.iload_n 1) := by decide +kernel
theorem dJ9_floorMod_7cf53_6 : fet cJ9_floorMod_7cf53 6 = some (.ixor) := by decide +kernel
theorem dJ9_floorMod_7cf53_7 : fet cJ9_floorMod_7cf53 7 = some (.ifCond .ge 11) := by decide +kernel
theorem dJ9_floorMod_7cf53_10 : fet cJ9_floorMod_7cf53 10 = some (.iload_n 2) := by decide +kernel
theorem dJ9_floorMod_7cf53_11 : fet cJ9_floorMod_7cf53 11 = some (.ifCond .eq 7) := by decide +kernel
theorem dJ9_floorMod_7cf53_14 : fet cJ9_floorMod_7cf53 14 = some (.iload_n 2) := by decide +kernel
theorem dJ9_floorMod_7cf53_15 : fet cJ9_floorMod_7cf53 15 = some (.iload_n 1) := by decide +kernel
theorem dJ9_floorMod_7cf53_16 : fet cJ9_floorMod_7cf53 16 = some (.iadd) := by decide +kernel
theorem dJ9_floorMod_7cf53_17 : fet cJ9_floorMod_7cf53 17 = some (.ireturn) := by decide +kernel
theorem dJ9_floorMod_7cf53_18 : fet cJ9_floorMod_7cf53 18 = some (.iload_n 2) := by decide +kernel
theorem dJ9_floorMod_7cf53_19 : fet cJ9_floorMod_7cf53 19 = some (.ireturn) := by decide +kernel
theorem dJ6_bitCount_0f7a4_0 : fet cJ6_bitCount_0f7a4 0 = some (.iload_n 0) := by decide +kernel
theorem dJ6_bitCount_0f7a4_1 : fet cJ6_bitCount_0f7a4 1 = some (.iload_n 0) := by decide +kernel
theorem dJ6_bitCount_0f7a4_2 : fet cJ6_bitCount_0f7a4 2 = some (.iconst 1) := by decide +kernel
theorem dJ6_bitCount_0f7a4_3 : fet cJ6_bitCount_0f7a4 3 = some (.iushr) := by decide +kernel
theorem dJ6_bitCount_0f7a4_4 : fet cJ6_bitCount_0f7a4 4 = some (.ldc_w 265) := by decide +kernel
theorem dJ6_bitCount_0f7a4_7 : fet cJ6_bitCount_0f7a4 7 = some (.iand) := by decide +kernel
theorem dJ6_bitCount_0f7a4_8 : fet cJ6_bitCount_0f7a4 8 = some (.isub) := by decide +kernel
theorem dJ6_bitCount_0f7a4_9 : fet cJ6_bitCount_0f7a4 9 = some (.istore_n 0) := by decide +kernel
theorem dJ6_bitCount_0f7a4_10 : fet cJ6_bitCount_0f7a4 10 = some (.iload_n 0) := by decide +kernel
theorem dJ6_bitCount_0f7a4_11 : fet cJ6_bitCount_0f7a4 11 = some (.ldc_w 266) := by decide +kernel
theorem dJ6_bitCount_0f7a4_14 : fet cJ6_bitCount_0f7a4 14 = some (.iand) := by decide +kernel
theorem dJ6_bitCount_0f7a4_15 : fet cJ6_bitCount_0f7a4 15 = some (.iload_n 0) := by decide +kernel
theorem dJ6_bitCount_0f7a4_16 : fet cJ6_bitCount_0f7a4 16 = some (.iconst 2) := by decide +kernel
theorem dJ6_bitCount_0f7a4_17 : fet cJ6_bitCount_0f7a4 17 = some (.iushr) := by decide +kernel
theorem dJ6_bitCount_0f7a4_18 : fet cJ6_bitCount_0f7a4 18 = some (.ldc_w 266) := by decide +kernel
theorem dJ6_bitCount_0f7a4_21 : fet cJ6_bitCount_0f7a4 21 = some (.iand) := by decide +kernel
theorem dJ6_bitCount_0f7a4_22 : fet cJ6_bitCount_0f7a4 22 = some (.iadd) := by decide +kernel
theorem dJ6_bitCount_0f7a4_23 : fet cJ6_bitCount_0f7a4 23 = some (.istore_n 0) := by decide +kernel
theorem dJ6_bitCount_0f7a4_24 : fet cJ6_bitCount_0f7a4 24 = some (.iload_n 0) := by decide +kernel
theorem dJ6_bitCount_0f7a4_25 : fet cJ6_bitCount_0f7a4 25 = some (.iload_n 0) := by decide +kernel
theorem dJ6_bitCount_0f7a4_26 : fet cJ6_bitCount_0f7a4 26 = some (.iconst 4) := by decide +kernel
theorem dJ6_bitCount_0f7a4_27 : fet cJ6_bitCount_0f7a4 27 = some (.iushr) := by decide +kernel
theorem dJ6_bitCount_0f7a4_28 : fet cJ6_bitCount_0f7a4 28 = some (.iadd) := by decide +kernel
theorem dJ6_bitCount_0f7a4_29 : fet cJ6_bitCount_0f7a4 29 = some (.ldc_w 267) := by decide +kernel
theorem dJ6_bitCount_0f7a4_32 : fet cJ6_bitCount_0f7a4 32 = some (.iand) := by decide +kernel
theorem dJ6_bitCount_0f7a4_33 : fet cJ6_bitCount_0f7a4 33 = some (.istore_n 0) := by decide +kernel
theorem dJ6_bitCount_0f7a4_34 : fet cJ6_bitCount_0f7a4 34 = some (.iload_n 0) := by decide +kernel
theorem dJ6_bitCount_0f7a4_35 : fet cJ6_bitCount_0f7a4 35 = some (.iload_n 0) := by decide +kernel
theorem dJ6_bitCount_0f7a4_36 : fet cJ6_bitCount_0f7a4 36 = some (.bipush 8) := by decide +kernel
theorem dJ6_bitCount_0f7a4_38 : fet cJ6_bitCount_0f7a4 38 = some (.iushr) := by decide +kernel
theorem dJ6_bitCount_0f7a4_39 : fet cJ6_bitCount_0f7a4 39 = some (.iadd) := by decide +kernel
theorem dJ6_bitCount_0f7a4_40 : fet cJ6_bitCount_0f7a4 40 = some (.istore_n 0) := by decide +kernel
theorem dJ6_bitCount_0f7a4_41 : fet cJ6_bitCount_0f7a4 41 = some (.iload_n 0) := by decide +kernel
theorem dJ6_bitCount_0f7a4_42 : fet cJ6_bitCount_0f7a4 42 = some (.iload_n 0) := by decide +kernel
theorem dJ6_bitCount_0f7a4_43 : fet cJ6_bitCount_0f7a4 43 = some (.bipush 16) := by decide +kernel
theorem dJ6_bitCount_0f7a4_45 : fet cJ6_bitCount_0f7a4 45 = some (.iushr) := by decide +kernel
theorem dJ6_bitCount_0f7a4_46 : fet cJ6_bitCount_0f7a4 46 = some (.iadd) := by decide +kernel
theorem dJ6_bitCount_0f7a4_47 : fet cJ6_bitCount_0f7a4 47 = some (.istore_n 0) := by decide +kernel
theorem dJ6_bitCount_0f7a4_48 : fet cJ6_bitCount_0f7a4 48 = some (.iload_n 0) := by decide +kernel
theorem dJ6_bitCount_0f7a4_49 : fet cJ6_bitCount_0f7a4 49 = some (.bipush 63) := by decide +kernel
theorem dJ6_bitCount_0f7a4_51 : fet cJ6_bitCount_0f7a4 51 = some (.iand) := by decide +kernel
theorem dJ6_bitCount_0f7a4_52 : fet cJ6_bitCount_0f7a4 52 = some (.ireturn) := by decide +kernel
