theorem dX10_init_0 : decode cX10_init 0 = .ok (.aload_n 0, 1) := by decide +kernel
theorem dX10_init_1 : decode cX10_init 1 = .ok (.invokespecial 3, 3) := by decide +kernel
theorem dX10_init_4 : decode cX10_init 4 = .ok (.aload_n 0, 1) := by decide +kernel
theorem dX10_init_5 : decode cX10_init 5 = .ok (.bipush 67, 2) := by decide +kernel
theorem dX10_init_7 : decode cX10_init 7 = .ok (.newarray .int, 2) := by decide +kernel
theorem dX10_init_9 : decode cX10_init 9 = .ok (.putfield 9, 3) := by decide +kernel
theorem dX10_init_12 : decode cX10_init 12 = .ok (.aload_n 0, 1) := by decide +kernel
theorem dX10_init_13 : decode cX10_init 13 = .ok (.bipush 67, 2) := by decide +kernel
theorem dX10_init_15 : decode cX10_init 15 = .ok (.newarray .int, 2) := by decide +kernel
theorem dX10_init_17 : decode cX10_init 17 = .ok (.putfield 13, 3) := by decide +kernel
theorem dX10_init_20 : decode cX10_init 20 = .ok (.aload_n 0, 1) := by decide +kernel
theorem dX10_init_21 : decode cX10_init 21 = .ok (.bipush 67, 2) := by decide +kernel
theorem dX10_init_23 : decode cX10_init 23 = .ok (.newarray .int, 2) := by decide +kernel
theorem dX10_init_25 : decode cX10_init 25 = .ok (.putfield 16, 3) := by decide +kernel
theorem dX10_init_28 : decode cX10_init 28 = .ok (.aload_n 0, 1) := by decide +kernel
theorem dX10_init_29 : decode cX10_init 29 = .ok (.sipush 536, 3) := by decide +kernel
theorem dX10_init_32 : decode cX10_init 32 = .ok (.newarray .int, 2) := by decide +kernel
theorem dX10_init_34 : decode cX10_init 34 = .ok (.putfield 19, 3) := by decide +kernel
theorem dX10_init_37 : decode cX10_init 37 = .ok (.aload_n 0, 1) := by decide +kernel
theorem dX10_init_38 : decode cX10_init 38 = .ok (.bipush 60, 2) := by decide +kernel
theorem dX10_init_40 : decode cX10_init 40 = .ok (.newarray .char, 2) := by decide +kernel
theorem dX10_init_42 : decode cX10_init 42 = .ok (.putfield 22, 3) := by decide +kernel
theorem dX10_init_45 : decode cX10_init 45 = .ok (.aload_n 0, 1) := by decide +kernel
theorem dX10_init_46 : decode cX10_init 46 = .ok (.bipush 60, 2) := by decide +kernel
theorem dX10_init_48 : decode cX10_init 48 = .ok (.newarray .char, 2) := by decide +kernel
theorem dX10_init_50 : decode cX10_init 50 = .ok (.putfield 26, 3) := by decide +kernel
theorem dX10_init_53 : decode cX10_init 53 = .ok (.aload_n 0, 1) := by decide +kernel
theorem dX10_init_54 : decode cX10_init 54 = .ok (.iconst (-1), 1) := by decide +kernel
theorem dX10_init_55 : decode cX10_init 55 = .ok (.putfield 29, 3) := by decide +kernel
theorem dX10_init_58 : decode cX10_init 58 = .ok (.aload_n 0, 1) := by decide +kernel
theorem dX10_init_59 : decode cX10_init 59 = .ok (.sipush 240, 3) := by decide +kernel
theorem dX10_init_62 : decode cX10_init 62 = .ok (.newarray .int, 2) := by decide +kernel
theorem dX10_init_64 : decode cX10_init 64 = .ok (.putfield 33, 3) := by decide +kernel
theorem dX10_init_67 : decode cX10_init 67 = .ok (.aload_n 0, 1) := by decide +kernel
theorem dX10_init_68 : decode cX10_init 68 = .ok (.getfield 9, 3) := by decide +kernel
theorem dX10_init_71 : decode cX10_init 71 = .ok (.iconst 2, 1) := by decide +kernel
theorem dX10_init_72 : decode cX10_init 72 = .ok (.iconst 4, 1) := by decide +kernel
theorem dX10_init_73 : decode cX10_init 73 = .ok (.iastore, 1) := by decide +kernel
theorem dX10_init_74 : decode cX10_init 74 = .ok (.return_, 1) := by decide +kernel
theorem dX10_thrown_0 : decode cX10_thrown 0 = .ok (.aload_n 0, 1) := by decide +kernel
theorem dX10_thrown_1 : decode cX10_thrown 1 = .ok (.getfield 36, 3) := by decide +kernel
theorem dX10_thrown_4 : decode cX10_thrown 4 = .ok (.ireturn, 1) := by decide +kernel
theorem dX10_in_0 : decode cX10_in 0 = .ok (.iload_n 0, 1) := by decide +kernel
theorem dX10_in_1 : decode cX10_in 1 = .ok (.iload_n 1, 1) := by decide +kernel
theorem dX10_in_2 : decode cX10_in 2 = .ok (.if_icmp .lt 12, 3) := by decide +kernel
theorem dX10_in_5 : decode cX10_in 5 = .ok (.iload_n 0, 1) := by decide +kernel
theorem dX10_in_6 : decode cX10_in 6 = .ok (.iload_n 2, 1) := by decide +kernel
theorem dX10_in_7 : decode cX10_in 7 = .ok (.if_icmp .gt 7, 3) := by decide +kernel
theorem dX10_in_10 : decode cX10_in 10 = .ok (.iconst 1, 1) := by decide +kernel
theorem dX10_in_11 : decode cX10_in 11 = .ok (.goto 4, 3) := by decide +kernel
theorem dX10_in_14 : decode cX10_in 14 = .ok (.iconst 0, 1) := by decide +kernel
theorem dX10_in_15 : decode cX10_in 15 = .ok (.ireturn, 1) := by decide +kernel
theorem dX10_keep_0 : decode cX10_keep 0 = .ok (.aload_n 0, 1) := by decide +kernel
theorem dX10_keep_1 : decode cX10_keep 1 = .ok (.iconst 0, 1) := by decide +kernel
theorem dX10_keep_2 : decode cX10_keep 2 = .ok (.putfield 36, 3) := by decide +kernel
theorem dX10_keep_5 : decode cX10_keep 5 = .ok (.aload_n 0, 1) := by decide +kernel
theorem dX10_keep_6 : decode cX10_keep 6 = .ok (.getfield 9, 3) := by decide +kernel
theorem dX10_keep_9 : decode cX10_keep 9 = .ok (.iconst 0, 1) := by decide +kernel
theorem dX10_keep_10 : decode cX10_keep 10 = .ok (.aload_n 0, 1) := by decide +kernel
theorem dX10_keep_11 : decode cX10_keep 11 = .ok (.getfield 13, 3) := by decide +kernel
theorem dX10_keep_14 : decode cX10_keep 14 = .ok (.iconst 0, 1) := by decide +kernel
theorem dX10_keep_15 : decode cX10_keep 15 = .ok (.bipush 67, 2) := by decide +kernel
theorem dX10_keep_17 : decode cX10_keep 17 = .ok (.invokestatic 39, 3) := by decide +kernel
theorem dX10_keep_20 : decode cX10_keep 20 = .ok (.return_, 1) := by decide +kernel
theorem dX10_ends_0 : decode cX10_ends 0 = .ok (.aload_n 0, 1) := by decide +kernel
theorem dX10_ends_1 : decode cX10_ends 1 = .ok (.getfield 36, 3) := by decide +kernel
theorem dX10_ends_4 : decode cX10_ends 4 = .ok (.ifCond .le 20, 3) := by decide +kernel
theorem dX10_ends_7 : decode cX10_ends 7 = .ok (.aload_n 0, 1) := by decide +kernel
theorem dX10_ends_8 : decode cX10_ends 8 = .ok (.getfield 13, 3) := by decide +kernel
theorem dX10_ends_11 : decode cX10_ends 11 = .ok (.iconst 0, 1) := by decide +kernel
theorem dX10_ends_12 : decode cX10_ends 12 = .ok (.aload_n 0, 1) := by decide +kernel
theorem dX10_ends_13 : decode cX10_ends 13 = .ok (.getfield 9, 3) := by decide +kernel
theorem dX10_ends_16 : decode cX10_ends 16 = .ok (.iconst 0, 1) := by decide +kernel
theorem dX10_ends_17 : decode cX10_ends 17 = .ok (.bipush 67, 2) := by decide +kernel
theorem dX10_ends_19 : decode cX10_ends 19 = .ok (.invokestatic 39, 3) := by decide +kernel
theorem dX10_ends_22 : decode cX10_ends 22 = .ok (.iconst 0, 1) := by decide +kernel
theorem dX10_ends_23 : decode cX10_ends 23 = .ok (.ireturn, 1) := by decide +kernel
theorem dX10_ends_24 : decode cX10_ends 24 = .ok (.aload_n 0, 1) := by decide +kernel
theorem dX10_ends_25 : decode cX10_ends 25 = .ok (.getfield 45, 3) := by decide +kernel
theorem dX10_ends_28 : decode cX10_ends 28 = .ok (.bipush 8, 2) := by decide +kernel
theorem dX10_ends_30 : decode cX10_ends 30 = .ok (.if_icmp .ne 30, 3) := by decide +kernel
theorem dX10_ends_33 : decode cX10_ends 33 = .ok (.aload_n 0, 1) := by decide +kernel
theorem dX10_ends_34 : decode cX10_ends 34 = .ok (.getfield 19, 3) := by decide +kernel
theorem dX10_ends_37 : decode cX10_ends 37 = .ok (.bipush 67, 2) := by decide +kernel
theorem dX10_ends_39 : decode cX10_ends 39 = .ok (.aload_n 0, 1) := by decide +kernel
theorem dX10_ends_40 : decode cX10_ends 40 = .ok (.getfield 19, 3) := by decide +kernel
theorem dX10_ends_43 : decode cX10_ends 43 = .ok (.iconst 0, 1) := by decide +kernel
theorem dX10_ends_44 : decode cX10_ends 44 = .ok (.sipush 469, 3) := by decide +kernel
theorem dX10_ends_47 : decode cX10_ends 47 = .ok (.invokestatic 39, 3) := by decide +kernel
theorem dX10_ends_50 : decode cX10_ends 50 = .ok (.aload_n 0, 1) := by decide +kernel
theorem dX10_ends_51 : decode cX10_ends 51 = .ok (.dup, 1) := by decide +kernel
theorem dX10_ends_52 : decode cX10_ends 52 = .ok (.getfield 45, 3) := by decide +kernel
theorem dX10_ends_55 : decode cX10_ends 55 = .ok (.iconst 1, 1) := by decide +kernel
theorem dX10_ends_56 : decode cX10_ends 56 = .ok (.isub, 1) := by decide +kernel
theorem dX10_ends_57 : decode cX10_ends 57 = .ok (.putfield 45, 3) := by decide +kernel
theorem dX10_ends_60 : decode cX10_ends 60 = .ok (.aload_n 0, 1) := by decide +kernel
theorem dX10_ends_61 : decode cX10_ends 61 = .ok (.getfield 13, 3) := by decide +kernel
theorem dX10_ends_64 : decode cX10_ends 64 = .ok (.iconst 0, 1) := by decide +kernel
theorem dX10_ends_65 : decode cX10_ends 65 = .ok (.aload_n 0, 1) := by decide +kernel
theorem dX10_ends_66 : decode cX10_ends 66 = .ok (.getfield 19, 3) := by decide +kernel
theorem dX10_ends_69 : decode cX10_ends 69 = .ok (.bipush 67, 2) := by decide +kernel
theorem dX10_ends_71 : decode cX10_ends 71 = .ok (.aload_n 0, 1) := by decide +kernel
theorem dX10_ends_72 : decode cX10_ends 72 = .ok (.getfield 45, 3) := by decide +kernel
theorem dX10_ends_75 : decode cX10_ends 75 = .ok (.imul, 1) := by decide +kernel
theorem dX10_ends_76 : decode cX10_ends 76 = .ok (.bipush 67, 2) := by decide +kernel
theorem dX10_ends_78 : decode cX10_ends 78 = .ok (.invokestatic 39, 3) := by decide +kernel
theorem dX10_ends_81 : decode cX10_ends 81 = .ok (.aload_n 0, 1) := by decide +kernel
theorem dX10_ends_82 : decode cX10_ends 82 = .ok (.dup, 1) := by decide +kernel
theorem dX10_ends_83 : decode cX10_ends 83 = .ok (.getfield 45, 3) := by decide +kernel
theorem dX10_ends_86 : decode cX10_ends 86 = .ok (.iconst 1, 1) := by decide +kernel
theorem dX10_ends_87 : decode cX10_ends 87 = .ok (.iadd, 1) := by decide +kernel
theorem dX10_ends_88 : decode cX10_ends 88 = .ok (.putfield 45, 3) := by decide +kernel
theorem dX10_ends_91 : decode cX10_ends 91 = .ok (.iload_n 1, 1) := by decide +kernel
theorem dX10_ends_92 : decode cX10_ends 92 = .ok (.ireturn, 1) := by decide +kernel
theorem dX10_fails_0 : decode cX10_fails 0 = .ok (.aload_n 0, 1) := by decide +kernel
theorem dX10_fails_1 : decode cX10_fails 1 = .ok (.iload_n 1, 1) := by decide +kernel
theorem dX10_fails_2 : decode cX10_fails 2 = .ok (.putfield 36, 3) := by decide +kernel
theorem dX10_fails_5 : decode cX10_fails 5 = .ok (.iconst 0, 1) := by decide +kernel
theorem dX10_fails_6 : decode cX10_fails 6 = .ok (.ireturn, 1) := by decide +kernel
theorem dX10_refuse_0 : decode cX10_refuse 0 = .ok (.aload_n 0, 1) := by decide +kernel
theorem dX10_refuse_1 : decode cX10_refuse 1 = .ok (.iload_n 1, 1) := by decide +kernel
theorem dX10_refuse_2 : decode cX10_refuse 2 = .ok (.putfield 36, 3) := by decide +kernel
theorem dX10_refuse_5 : decode cX10_refuse 5 = .ok (.aload_n 0, 1) := by decide +kernel
theorem dX10_refuse_6 : decode cX10_refuse 6 = .ok (.iconst 1, 1) := by decide +kernel
theorem dX10_refuse_7 : decode cX10_refuse 7 = .ok (.putfield 48, 3) := by decide +kernel
theorem dX10_refuse_10 : decode cX10_refuse 10 = .ok (.aload_n 0, 1) := by decide +kernel
theorem dX10_refuse_11 : decode cX10_refuse 11 = .ok (.iload_n 2, 1) := by decide +kernel
theorem dX10_refuse_12 : decode cX10_refuse 12 = .ok (.putfield 52, 3) := by decide +kernel
theorem dX10_refuse_15 : decode cX10_refuse 15 = .ok (.aload_n 0, 1) := by decide +kernel
theorem dX10_refuse_16 : decode cX10_refuse 16 = .ok (.iload_n 3, 1) := by decide +kernel
theorem dX10_refuse_17 : decode cX10_refuse 17 = .ok (.putfield 55, 3) := by decide +kernel
theorem dX10_refuse_20 : decode cX10_refuse 20 = .ok (.iconst 0, 1) := by decide +kernel
theorem dX10_refuse_21 : decode cX10_refuse 21 = .ok (.ireturn, 1) := by decide +kernel
theorem dX10_refusal_0 : decode cX10_refusal 0 = .ok (.aload_n 0, 1) := by decide +kernel
theorem dX10_refusal_1 : decode cX10_refusal 1 = .ok (.aload_n 0, 1) := by decide +kernel
theorem dX10_refusal_2 : decode cX10_refusal 2 = .ok (.getfield 52, 3) := by decide +kernel
theorem dX10_refusal_5 : decode cX10_refusal 5 = .ok (.ifCond .ne 7, 3) := by decide +kernel
theorem dX10_refusal_8 : decode cX10_refusal 8 = .ok (.iconst 1, 1) := by decide +kernel
theorem dX10_refusal_9 : decode cX10_refusal 9 = .ok (.goto 4, 3) := by decide +kernel
theorem dX10_refusal_12 : decode cX10_refusal 12 = .ok (.iconst 0, 1) := by decide +kernel
theorem dX10_refusal_13 : decode cX10_refusal 13 = .ok (.putfield 36, 3) := by decide +kernel
theorem dX10_refusal_16 : decode cX10_refusal 16 = .ok (.aload_n 0, 1) := by decide +kernel
theorem dX10_refusal_17 : decode cX10_refusal 17 = .ok (.getfield 36, 3) := by decide +kernel
theorem dX10_refusal_20 : decode cX10_refusal 20 = .ok (.ifCond .le 7, 3) := by decide +kernel
theorem dX10_refusal_23 : decode cX10_refusal 23 = .ok (.iconst 0, 1) := by decide +kernel
theorem dX10_refusal_24 : decode cX10_refusal 24 = .ok (.goto 18, 3) := by decide +kernel
theorem dX10_refusal_27 : decode cX10_refusal 27 = .ok (.iload_n 1, 1) := by decide +kernel
theorem dX10_refusal_28 : decode cX10_refusal 28 = .ok (.ifCond .eq 10, 3) := by decide +kernel
theorem dX10_refusal_31 : decode cX10_refusal 31 = .ok (.aload_n 0, 1) := by decide +kernel
theorem dX10_refusal_32 : decode cX10_refusal 32 = .ok (.getfield 55, 3) := by decide +kernel
theorem dX10_refusal_35 : decode cX10_refusal 35 = .ok (.goto 7, 3) := by decide +kernel
theorem dX10_refusal_38 : decode cX10_refusal 38 = .ok (.aload_n 0, 1) := by decide +kernel
theorem dX10_refusal_39 : decode cX10_refusal 39 = .ok (.getfield 52, 3) := by decide +kernel
theorem dX10_refusal_42 : decode cX10_refusal 42 = .ok (.ireturn, 1) := by decide +kernel
theorem dX10_isBar_0 : decode cX10_isBar 0 = .ok (.iload_n 1, 1) := by decide +kernel
theorem dX10_isBar_1 : decode cX10_isBar 1 = .ok (.iconst 0, 1) := by decide +kernel
theorem dX10_isBar_2 : decode cX10_isBar 2 = .ok (.aload_n 0, 1) := by decide +kernel
theorem dX10_isBar_3 : decode cX10_isBar 3 = .ok (.getfield 9, 3) := by decide +kernel
theorem dX10_isBar_6 : decode cX10_isBar 6 = .ok (.iconst 0, 1) := by decide +kernel
theorem dX10_isBar_7 : decode cX10_isBar 7 = .ok (.iaload, 1) := by decide +kernel
theorem dX10_isBar_8 : decode cX10_isBar 8 = .ok (.iconst 1, 1) := by decide +kernel
theorem dX10_isBar_9 : decode cX10_isBar 9 = .ok (.isub, 1) := by decide +kernel
theorem dX10_isBar_10 : decode cX10_isBar 10 = .ok (.invokestatic 58, 3) := by decide +kernel
theorem dX10_isBar_13 : decode cX10_isBar 13 = .ok (.ireturn, 1) := by decide +kernel
theorem dX10_isTin_0 : decode cX10_isTin 0 = .ok (.iload_n 0, 1) := by decide +kernel
theorem dX10_isTin_1 : decode cX10_isTin 1 = .ok (.iconst 0, 1) := by decide +kernel
theorem dX10_isTin_2 : decode cX10_isTin 2 = .ok (.iconst 3, 1) := by decide +kernel
theorem dX10_isTin_3 : decode cX10_isTin 3 = .ok (.invokestatic 58, 3) := by decide +kernel
theorem dX10_isTin_6 : decode cX10_isTin 6 = .ok (.ireturn, 1) := by decide +kernel
theorem dX10_isSound_0 : decode cX10_isSound 0 = .ok (.iload_n 1, 1) := by decide +kernel
theorem dX10_isSound_1 : decode cX10_isSound 1 = .ok (.iconst 0, 1) := by decide +kernel
theorem dX10_isSound_2 : decode cX10_isSound 2 = .ok (.aload_n 0, 1) := by decide +kernel
theorem dX10_isSound_3 : decode cX10_isSound 3 = .ok (.getfield 9, 3) := by decide +kernel
theorem dX10_isSound_6 : decode cX10_isSound 6 = .ok (.iconst 1, 1) := by decide +kernel
theorem dX10_isSound_7 : decode cX10_isSound 7 = .ok (.iaload, 1) := by decide +kernel
theorem dX10_isSound_8 : decode cX10_isSound 8 = .ok (.iconst 1, 1) := by decide +kernel
theorem dX10_isSound_9 : decode cX10_isSound 9 = .ok (.isub, 1) := by decide +kernel
theorem dX10_isSound_10 : decode cX10_isSound 10 = .ok (.invokestatic 58, 3) := by decide +kernel
theorem dX10_isSound_13 : decode cX10_isSound 13 = .ok (.ireturn, 1) := by decide +kernel
theorem dX10_of_0 : decode cX10_of 0 = .ok (.aload_n 0, 1) := by decide +kernel
theorem dX10_of_1 : decode cX10_of 1 = .ok (.getfield 9, 3) := by decide +kernel
theorem dX10_of_4 : decode cX10_of 4 = .ok (.bipush 19, 2) := by decide +kernel
theorem dX10_of_6 : decode cX10_of 6 = .ok (.iconst 3, 1) := by decide +kernel
theorem dX10_of_7 : decode cX10_of 7 = .ok (.iload_n 1, 1) := by decide +kernel
theorem dX10_of_8 : decode cX10_of 8 = .ok (.imul, 1) := by decide +kernel
theorem dX10_of_9 : decode cX10_of 9 = .ok (.iadd, 1) := by decide +kernel
theorem dX10_of_10 : decode cX10_of 10 = .ok (.iload_n 2, 1) := by decide +kernel
theorem dX10_of_11 : decode cX10_of 11 = .ok (.iadd, 1) := by decide +kernel
theorem dX10_of_12 : decode cX10_of 12 = .ok (.iaload, 1) := by decide +kernel
theorem dX10_of_13 : decode cX10_of 13 = .ok (.ireturn, 1) := by decide +kernel
theorem dX10_isDrop_0 : decode cX10_isDrop 0 = .ok (.aload_n 0, 1) := by decide +kernel
theorem dX10_isDrop_1 : decode cX10_isDrop 1 = .ok (.iload_n 1, 1) := by decide +kernel
theorem dX10_isDrop_2 : decode cX10_isDrop 2 = .ok (.iconst 1, 1) := by decide +kernel
theorem dX10_isDrop_3 : decode cX10_isDrop 3 = .ok (.invokevirtual 62, 3) := by decide +kernel
theorem dX10_isDrop_6 : decode cX10_isDrop 6 = .ok (.ifCond .lt 7, 3) := by decide +kernel
theorem dX10_isDrop_9 : decode cX10_isDrop 9 = .ok (.iconst 1, 1) := by decide +kernel
theorem dX10_isDrop_10 : decode cX10_isDrop 10 = .ok (.goto 4, 3) := by decide +kernel
theorem dX10_isDrop_13 : decode cX10_isDrop 13 = .ok (.iconst 0, 1) := by decide +kernel
theorem dX10_isDrop_14 : decode cX10_isDrop 14 = .ok (.ireturn, 1) := by decide +kernel
theorem dX10_barBegin_0 : decode cX10_barBegin 0 = .ok (.iconst 0, 1) := by decide +kernel
theorem dX10_barBegin_1 : decode cX10_barBegin 1 = .ok (.istore_n 2, 1) := by decide +kernel
theorem dX10_barBegin_2 : decode cX10_barBegin 2 = .ok (.iconst 0, 1) := by decide +kernel
theorem dX10_barBegin_3 : decode cX10_barBegin 3 = .ok (.istore_n 3, 1) := by decide +kernel
theorem dX10_barBegin_4 : decode cX10_barBegin 4 = .ok (.iload_n 3, 1) := by decide +kernel
theorem dX10_barBegin_5 : decode cX10_barBegin 5 = .ok (.iload_n 1, 1) := by decide +kernel
theorem dX10_barBegin_6 : decode cX10_barBegin 6 = .ok (.if_icmp .ge 20, 3) := by decide +kernel
theorem dX10_barBegin_9 : decode cX10_barBegin 9 = .ok (.iload_n 2, 1) := by decide +kernel
theorem dX10_barBegin_10 : decode cX10_barBegin 10 = .ok (.aload_n 0, 1) := by decide +kernel
theorem dX10_barBegin_11 : decode cX10_barBegin 11 = .ok (.getfield 9, 3) := by decide +kernel
theorem dX10_barBegin_14 : decode cX10_barBegin 14 = .ok (.iconst 5, 1) := by decide +kernel
theorem dX10_barBegin_15 : decode cX10_barBegin 15 = .ok (.iload_n 3, 1) := by decide +kernel
theorem dX10_barBegin_16 : decode cX10_barBegin 16 = .ok (.iadd, 1) := by decide +kernel
theorem dX10_barBegin_17 : decode cX10_barBegin 17 = .ok (.iaload, 1) := by decide +kernel
theorem dX10_barBegin_18 : decode cX10_barBegin 18 = .ok (.iadd, 1) := by decide +kernel
theorem dX10_barBegin_19 : decode cX10_barBegin 19 = .ok (.istore_n 2, 1) := by decide +kernel
theorem dX10_barBegin_20 : decode cX10_barBegin 20 = .ok (.iinc 3 1, 3) := by decide +kernel
theorem dX10_barBegin_23 : decode cX10_barBegin 23 = .ok (.goto (-19), 3) := by decide +kernel
theorem dX10_barBegin_26 : decode cX10_barBegin 26 = .ok (.iload_n 2, 1) := by decide +kernel
theorem dX10_barBegin_27 : decode cX10_barBegin 27 = .ok (.ireturn, 1) := by decide +kernel
theorem dX10_begin_0 : decode cX10_begin 0 = .ok (.iconst 0, 1) := by decide +kernel
theorem dX10_begin_1 : decode cX10_begin 1 = .ok (.istore_n 2, 1) := by decide +kernel
theorem dX10_begin_2 : decode cX10_begin 2 = .ok (.iconst 0, 1) := by decide +kernel
theorem dX10_begin_3 : decode cX10_begin 3 = .ok (.istore_n 3, 1) := by decide +kernel
theorem dX10_begin_4 : decode cX10_begin 4 = .ok (.iload_n 3, 1) := by decide +kernel
theorem dX10_begin_5 : decode cX10_begin 5 = .ok (.iload_n 1, 1) := by decide +kernel
theorem dX10_begin_6 : decode cX10_begin 6 = .ok (.if_icmp .ge 18, 3) := by decide +kernel
theorem dX10_begin_9 : decode cX10_begin 9 = .ok (.iload_n 2, 1) := by decide +kernel
theorem dX10_begin_10 : decode cX10_begin 10 = .ok (.aload_n 0, 1) := by decide +kernel
theorem dX10_begin_11 : decode cX10_begin 11 = .ok (.iload_n 3, 1) := by decide +kernel
theorem dX10_begin_12 : decode cX10_begin 12 = .ok (.iconst 2, 1) := by decide +kernel
theorem dX10_begin_13 : decode cX10_begin 13 = .ok (.invokevirtual 62, 3) := by decide +kernel
theorem dX10_begin_16 : decode cX10_begin 16 = .ok (.iadd, 1) := by decide +kernel
theorem dX10_begin_17 : decode cX10_begin 17 = .ok (.istore_n 2, 1) := by decide +kernel
theorem dX10_begin_18 : decode cX10_begin 18 = .ok (.iinc 3 1, 3) := by decide +kernel
theorem dX10_begin_21 : decode cX10_begin 21 = .ok (.goto (-17), 3) := by decide +kernel
theorem dX10_begin_24 : decode cX10_begin 24 = .ok (.iload_n 2, 1) := by decide +kernel
theorem dX10_begin_25 : decode cX10_begin 25 = .ok (.ireturn, 1) := by decide +kernel
theorem dX10_free_0 : decode cX10_free 0 = .ok (.aload_n 0, 1) := by decide +kernel
theorem dX10_free_1 : decode cX10_free 1 = .ok (.aload_n 0, 1) := by decide +kernel
theorem dX10_free_2 : decode cX10_free 2 = .ok (.getfield 9, 3) := by decide +kernel
theorem dX10_free_5 : decode cX10_free 5 = .ok (.iconst 0, 1) := by decide +kernel
theorem dX10_free_6 : decode cX10_free 6 = .ok (.iaload, 1) := by decide +kernel
theorem dX10_free_7 : decode cX10_free 7 = .ok (.invokevirtual 66, 3) := by decide +kernel
theorem dX10_free_10 : decode cX10_free 10 = .ok (.aload_n 0, 1) := by decide +kernel
theorem dX10_free_11 : decode cX10_free 11 = .ok (.aload_n 0, 1) := by decide +kernel
theorem dX10_free_12 : decode cX10_free 12 = .ok (.getfield 9, 3) := by decide +kernel
theorem dX10_free_15 : decode cX10_free 15 = .ok (.iconst 1, 1) := by decide +kernel
theorem dX10_free_16 : decode cX10_free 16 = .ok (.iaload, 1) := by decide +kernel
theorem dX10_free_17 : decode cX10_free 17 = .ok (.invokevirtual 70, 3) := by decide +kernel
theorem dX10_free_20 : decode cX10_free 20 = .ok (.isub, 1) := by decide +kernel
theorem dX10_free_21 : decode cX10_free 21 = .ok (.ireturn, 1) := by decide +kernel
theorem dX10_doBar_0 : decode cX10_doBar 0 = .ok (.aload_n 0, 1) := by decide +kernel
theorem dX10_doBar_1 : decode cX10_doBar 1 = .ok (.getfield 9, 3) := by decide +kernel
theorem dX10_doBar_4 : decode cX10_doBar 4 = .ok (.iconst 0, 1) := by decide +kernel
theorem dX10_doBar_5 : decode cX10_doBar 5 = .ok (.iaload, 1) := by decide +kernel
theorem dX10_doBar_6 : decode cX10_doBar 6 = .ok (.istore_n 2, 1) := by decide +kernel
theorem dX10_doBar_7 : decode cX10_doBar 7 = .ok (.iload_n 1, 1) := by decide +kernel
theorem dX10_doBar_8 : decode cX10_doBar 8 = .ok (.iconst 2, 1) := by decide +kernel
theorem dX10_doBar_9 : decode cX10_doBar 9 = .ok (.bipush 8, 2) := by decide +kernel
theorem dX10_doBar_11 : decode cX10_doBar 11 = .ok (.invokestatic 58, 3) := by decide +kernel
theorem dX10_doBar_14 : decode cX10_doBar 14 = .ok (.ifCond .ne 9, 3) := by decide +kernel
theorem dX10_doBar_17 : decode cX10_doBar 17 = .ok (.aload_n 0, 1) := by decide +kernel
theorem dX10_doBar_18 : decode cX10_doBar 18 = .ok (.iconst 1, 1) := by decide +kernel
theorem dX10_doBar_19 : decode cX10_doBar 19 = .ok (.invokevirtual 73, 3) := by decide +kernel
theorem dX10_doBar_22 : decode cX10_doBar 22 = .ok (.ireturn, 1) := by decide +kernel
theorem dX10_doBar_23 : decode cX10_doBar 23 = .ok (.iload_n 2, 1) := by decide +kernel
theorem dX10_doBar_24 : decode cX10_doBar 24 = .ok (.bipush 6, 2) := by decide +kernel
theorem dX10_doBar_26 : decode cX10_doBar 26 = .ok (.if_icmp .ne 12, 3) := by decide +kernel
theorem dX10_doBar_29 : decode cX10_doBar 29 = .ok (.aload_n 0, 1) := by decide +kernel
theorem dX10_doBar_30 : decode cX10_doBar 30 = .ok (.iconst 2, 1) := by decide +kernel
theorem dX10_doBar_31 : decode cX10_doBar 31 = .ok (.iconst 1, 1) := by decide +kernel
theorem dX10_doBar_32 : decode cX10_doBar 32 = .ok (.bipush 6, 2) := by decide +kernel
theorem dX10_doBar_34 : decode cX10_doBar 34 = .ok (.invokevirtual 76, 3) := by decide +kernel
theorem dX10_doBar_37 : decode cX10_doBar 37 = .ok (.ireturn, 1) := by decide +kernel
theorem dX10_doBar_38 : decode cX10_doBar 38 = .ok (.aload_n 0, 1) := by decide +kernel
theorem dX10_doBar_39 : decode cX10_doBar 39 = .ok (.getfield 9, 3) := by decide +kernel
theorem dX10_doBar_42 : decode cX10_doBar 42 = .ok (.iconst 5, 1) := by decide +kernel
theorem dX10_doBar_43 : decode cX10_doBar 43 = .ok (.iload_n 2, 1) := by decide +kernel
theorem dX10_doBar_44 : decode cX10_doBar 44 = .ok (.iadd, 1) := by decide +kernel
theorem dX10_doBar_45 : decode cX10_doBar 45 = .ok (.iload_n 1, 1) := by decide +kernel
theorem dX10_doBar_46 : decode cX10_doBar 46 = .ok (.iastore, 1) := by decide +kernel
theorem dX10_doBar_47 : decode cX10_doBar 47 = .ok (.aload_n 0, 1) := by decide +kernel
theorem dX10_doBar_48 : decode cX10_doBar 48 = .ok (.getfield 9, 3) := by decide +kernel
theorem dX10_doBar_51 : decode cX10_doBar 51 = .ok (.iconst 0, 1) := by decide +kernel
theorem dX10_doBar_52 : decode cX10_doBar 52 = .ok (.dup2, 1) := by decide +kernel
theorem dX10_doBar_53 : decode cX10_doBar 53 = .ok (.iaload, 1) := by decide +kernel
theorem dX10_doBar_54 : decode cX10_doBar 54 = .ok (.iconst 1, 1) := by decide +kernel
theorem dX10_doBar_55 : decode cX10_doBar 55 = .ok (.iadd, 1) := by decide +kernel
theorem dX10_doBar_56 : decode cX10_doBar 56 = .ok (.iastore, 1) := by decide +kernel
theorem dX10_doBar_57 : decode cX10_doBar 57 = .ok (.iload_n 2, 1) := by decide +kernel
theorem dX10_doBar_58 : decode cX10_doBar 58 = .ok (.ireturn, 1) := by decide +kernel
theorem dX10_bar_0 : decode cX10_bar 0 = .ok (.aload_n 0, 1) := by decide +kernel
theorem dX10_bar_1 : decode cX10_bar 1 = .ok (.invokevirtual 80, 3) := by decide +kernel
theorem dX10_bar_4 : decode cX10_bar 4 = .ok (.aload_n 0, 1) := by decide +kernel
theorem dX10_bar_5 : decode cX10_bar 5 = .ok (.aload_n 0, 1) := by decide +kernel
theorem dX10_bar_6 : decode cX10_bar 6 = .ok (.iload_n 1, 1) := by decide +kernel
theorem dX10_bar_7 : decode cX10_bar 7 = .ok (.invokevirtual 83, 3) := by decide +kernel
theorem dX10_bar_10 : decode cX10_bar 10 = .ok (.invokevirtual 86, 3) := by decide +kernel
theorem dX10_bar_13 : decode cX10_bar 13 = .ok (.ireturn, 1) := by decide +kernel
theorem dX10_doTin_0 : decode cX10_doTin 0 = .ok (.bipush 11, 2) := by decide +kernel
theorem dX10_doTin_2 : decode cX10_doTin 2 = .ok (.iconst 2, 1) := by decide +kernel
theorem dX10_doTin_3 : decode cX10_doTin 3 = .ok (.iload_n 1, 1) := by decide +kernel
theorem dX10_doTin_4 : decode cX10_doTin 4 = .ok (.imul, 1) := by decide +kernel
theorem dX10_doTin_5 : decode cX10_doTin 5 = .ok (.iadd, 1) := by decide +kernel
theorem dX10_doTin_6 : decode cX10_doTin 6 = .ok (.iload_n 3, 1) := by decide +kernel
theorem dX10_doTin_7 : decode cX10_doTin 7 = .ok (.ifCond .eq 7, 3) := by decide +kernel
theorem dX10_doTin_10 : decode cX10_doTin 10 = .ok (.iconst 0, 1) := by decide +kernel
theorem dX10_doTin_11 : decode cX10_doTin 11 = .ok (.goto 4, 3) := by decide +kernel
theorem dX10_doTin_14 : decode cX10_doTin 14 = .ok (.iconst 1, 1) := by decide +kernel
theorem dX10_doTin_15 : decode cX10_doTin 15 = .ok (.iadd, 1) := by decide +kernel
theorem dX10_doTin_16 : decode cX10_doTin 16 = .ok (.istore 4, 2) := by decide +kernel
theorem dX10_doTin_18 : decode cX10_doTin 18 = .ok (.iload_n 1, 1) := by decide +kernel
theorem dX10_doTin_19 : decode cX10_doTin 19 = .ok (.invokestatic 89, 3) := by decide +kernel
theorem dX10_doTin_22 : decode cX10_doTin 22 = .ok (.ifCond .ne 9, 3) := by decide +kernel
theorem dX10_doTin_25 : decode cX10_doTin 25 = .ok (.aload_n 0, 1) := by decide +kernel
theorem dX10_doTin_26 : decode cX10_doTin 26 = .ok (.iconst 1, 1) := by decide +kernel
theorem dX10_doTin_27 : decode cX10_doTin 27 = .ok (.invokevirtual 73, 3) := by decide +kernel
theorem dX10_doTin_30 : decode cX10_doTin 30 = .ok (.ireturn, 1) := by decide +kernel
theorem dX10_doTin_31 : decode cX10_doTin 31 = .ok (.iload_n 2, 1) := by decide +kernel
theorem dX10_doTin_32 : decode cX10_doTin 32 = .ok (.iconst 0, 1) := by decide +kernel
theorem dX10_doTin_33 : decode cX10_doTin 33 = .ok (.iload_n 3, 1) := by decide +kernel
theorem dX10_doTin_34 : decode cX10_doTin 34 = .ok (.ifCond .eq 8, 3) := by decide +kernel
theorem dX10_doTin_37 : decode cX10_doTin 37 = .ok (.bipush 11, 2) := by decide +kernel
theorem dX10_doTin_39 : decode cX10_doTin 39 = .ok (.goto 4, 3) := by decide +kernel
theorem dX10_doTin_42 : decode cX10_doTin 42 = .ok (.iconst 3, 1) := by decide +kernel
theorem dX10_doTin_43 : decode cX10_doTin 43 = .ok (.invokestatic 58, 3) := by decide +kernel
theorem dX10_doTin_46 : decode cX10_doTin 46 = .ok (.ifCond .ne 9, 3) := by decide +kernel
theorem dX10_doTin_49 : decode cX10_doTin 49 = .ok (.aload_n 0, 1) := by decide +kernel
theorem dX10_doTin_50 : decode cX10_doTin 50 = .ok (.iconst 2, 1) := by decide +kernel
theorem dX10_doTin_51 : decode cX10_doTin 51 = .ok (.invokevirtual 73, 3) := by decide +kernel
theorem dX10_doTin_54 : decode cX10_doTin 54 = .ok (.ireturn, 1) := by decide +kernel
theorem dX10_doTin_55 : decode cX10_doTin 55 = .ok (.aload_n 0, 1) := by decide +kernel
theorem dX10_doTin_56 : decode cX10_doTin 56 = .ok (.getfield 9, 3) := by decide +kernel
theorem dX10_doTin_59 : decode cX10_doTin 59 = .ok (.iload 4, 2) := by decide +kernel
theorem dX10_doTin_61 : decode cX10_doTin 61 = .ok (.iaload, 1) := by decide +kernel
theorem dX10_doTin_62 : decode cX10_doTin 62 = .ok (.istore 5, 2) := by decide +kernel
theorem dX10_doTin_64 : decode cX10_doTin 64 = .ok (.iload 5, 2) := by decide +kernel
theorem dX10_doTin_66 : decode cX10_doTin 66 = .ok (.iload_n 2, 1) := by decide +kernel
theorem dX10_doTin_67 : decode cX10_doTin 67 = .ok (.if_icmp .ne 11, 3) := by decide +kernel
theorem dX10_doTin_70 : decode cX10_doTin 70 = .ok (.aload_n 0, 1) := by decide +kernel
theorem dX10_doTin_71 : decode cX10_doTin 71 = .ok (.iconst 3, 1) := by decide +kernel
theorem dX10_doTin_72 : decode cX10_doTin 72 = .ok (.iconst 2, 1) := by decide +kernel
theorem dX10_doTin_73 : decode cX10_doTin 73 = .ok (.iload_n 2, 1) := by decide +kernel
theorem dX10_doTin_74 : decode cX10_doTin 74 = .ok (.invokevirtual 76, 3) := by decide +kernel
theorem dX10_doTin_77 : decode cX10_doTin 77 = .ok (.ireturn, 1) := by decide +kernel
theorem dX10_doTin_78 : decode cX10_doTin 78 = .ok (.aload_n 0, 1) := by decide +kernel
theorem dX10_doTin_79 : decode cX10_doTin 79 = .ok (.getfield 9, 3) := by decide +kernel
theorem dX10_doTin_82 : decode cX10_doTin 82 = .ok (.iload 4, 2) := by decide +kernel
theorem dX10_doTin_84 : decode cX10_doTin 84 = .ok (.iload_n 2, 1) := by decide +kernel
theorem dX10_doTin_85 : decode cX10_doTin 85 = .ok (.iastore, 1) := by decide +kernel
theorem dX10_doTin_86 : decode cX10_doTin 86 = .ok (.iload 5, 2) := by decide +kernel
theorem dX10_doTin_88 : decode cX10_doTin 88 = .ok (.ireturn, 1) := by decide +kernel
theorem dX10_key_0 : decode cX10_key 0 = .ok (.aload_n 0, 1) := by decide +kernel
theorem dX10_key_1 : decode cX10_key 1 = .ok (.invokevirtual 80, 3) := by decide +kernel
theorem dX10_key_4 : decode cX10_key 4 = .ok (.aload_n 0, 1) := by decide +kernel
theorem dX10_key_5 : decode cX10_key 5 = .ok (.aload_n 0, 1) := by decide +kernel
theorem dX10_key_6 : decode cX10_key 6 = .ok (.iload_n 1, 1) := by decide +kernel
theorem dX10_key_7 : decode cX10_key 7 = .ok (.iload_n 2, 1) := by decide +kernel
theorem dX10_key_8 : decode cX10_key 8 = .ok (.iconst 1, 1) := by decide +kernel
theorem dX10_key_9 : decode cX10_key 9 = .ok (.invokevirtual 93, 3) := by decide +kernel
theorem dX10_key_12 : decode cX10_key 12 = .ok (.invokevirtual 86, 3) := by decide +kernel
theorem dX10_key_15 : decode cX10_key 15 = .ok (.ireturn, 1) := by decide +kernel
theorem dX10_leak_0 : decode cX10_leak 0 = .ok (.aload_n 0, 1) := by decide +kernel
theorem dX10_leak_1 : decode cX10_leak 1 = .ok (.invokevirtual 80, 3) := by decide +kernel
theorem dX10_leak_4 : decode cX10_leak 4 = .ok (.aload_n 0, 1) := by decide +kernel
theorem dX10_leak_5 : decode cX10_leak 5 = .ok (.aload_n 0, 1) := by decide +kernel
theorem dX10_leak_6 : decode cX10_leak 6 = .ok (.iload_n 1, 1) := by decide +kernel
theorem dX10_leak_7 : decode cX10_leak 7 = .ok (.iload_n 2, 1) := by decide +kernel
theorem dX10_leak_8 : decode cX10_leak 8 = .ok (.iconst 0, 1) := by decide +kernel
theorem dX10_leak_9 : decode cX10_leak 9 = .ok (.invokevirtual 93, 3) := by decide +kernel
theorem dX10_leak_12 : decode cX10_leak 12 = .ok (.invokevirtual 86, 3) := by decide +kernel
theorem dX10_leak_15 : decode cX10_leak 15 = .ok (.ireturn, 1) := by decide +kernel
theorem dX10_sets_0 : decode cX10_sets 0 = .ok (.aload_n 0, 1) := by decide +kernel
theorem dX10_sets_1 : decode cX10_sets 1 = .ok (.getfield 9, 3) := by decide +kernel
theorem dX10_sets_4 : decode cX10_sets 4 = .ok (.iconst 1, 1) := by decide +kernel
theorem dX10_sets_5 : decode cX10_sets 5 = .ok (.iaload, 1) := by decide +kernel
theorem dX10_sets_6 : decode cX10_sets 6 = .ok (.istore 5, 2) := by decide +kernel
theorem dX10_sets_8 : decode cX10_sets 8 = .ok (.iload 5, 2) := by decide +kernel
theorem dX10_sets_10 : decode cX10_sets 10 = .ok (.bipush 16, 2) := by decide +kernel
theorem dX10_sets_12 : decode cX10_sets 12 = .ok (.if_icmp .ne 13, 3) := by decide +kernel
theorem dX10_sets_15 : decode cX10_sets 15 = .ok (.aload_n 0, 1) := by decide +kernel
theorem dX10_sets_16 : decode cX10_sets 16 = .ok (.iload 4, 2) := by decide +kernel
theorem dX10_sets_18 : decode cX10_sets 18 = .ok (.iconst 1, 1) := by decide +kernel
theorem dX10_sets_19 : decode cX10_sets 19 = .ok (.bipush 16, 2) := by decide +kernel
theorem dX10_sets_21 : decode cX10_sets 21 = .ok (.invokevirtual 76, 3) := by decide +kernel
theorem dX10_sets_24 : decode cX10_sets 24 = .ok (.ireturn, 1) := by decide +kernel
theorem dX10_sets_25 : decode cX10_sets 25 = .ok (.aload_n 0, 1) := by decide +kernel
theorem dX10_sets_26 : decode cX10_sets 26 = .ok (.invokevirtual 97, 3) := by decide +kernel
theorem dX10_sets_29 : decode cX10_sets 29 = .ok (.iload_n 3, 1) := by decide +kernel
theorem dX10_sets_30 : decode cX10_sets 30 = .ok (.if_icmp .ge 15, 3) := by decide +kernel
theorem dX10_sets_33 : decode cX10_sets 33 = .ok (.aload_n 0, 1) := by decide +kernel
theorem dX10_sets_34 : decode cX10_sets 34 = .ok (.iload 4, 2) := by decide +kernel
theorem dX10_sets_36 : decode cX10_sets 36 = .ok (.iconst 3, 1) := by decide +kernel
theorem dX10_sets_37 : decode cX10_sets 37 = .ok (.aload_n 0, 1) := by decide +kernel
theorem dX10_sets_38 : decode cX10_sets 38 = .ok (.invokevirtual 97, 3) := by decide +kernel
theorem dX10_sets_41 : decode cX10_sets 41 = .ok (.invokevirtual 76, 3) := by decide +kernel
theorem dX10_sets_44 : decode cX10_sets 44 = .ok (.ireturn, 1) := by decide +kernel
theorem dX10_sets_45 : decode cX10_sets 45 = .ok (.bipush 19, 2) := by decide +kernel
theorem dX10_sets_47 : decode cX10_sets 47 = .ok (.iconst 3, 1) := by decide +kernel
theorem dX10_sets_48 : decode cX10_sets 48 = .ok (.iload 5, 2) := by decide +kernel
theorem dX10_sets_50 : decode cX10_sets 50 = .ok (.imul, 1) := by decide +kernel
theorem dX10_sets_51 : decode cX10_sets 51 = .ok (.iadd, 1) := by decide +kernel
theorem dX10_sets_52 : decode cX10_sets 52 = .ok (.istore 6, 2) := by decide +kernel
theorem dX10_sets_54 : decode cX10_sets 54 = .ok (.aload_n 0, 1) := by decide +kernel
theorem dX10_sets_55 : decode cX10_sets 55 = .ok (.getfield 9, 3) := by decide +kernel
theorem dX10_sets_58 : decode cX10_sets 58 = .ok (.iload 6, 2) := by decide +kernel
theorem dX10_sets_60 : decode cX10_sets 60 = .ok (.iload_n 1, 1) := by decide +kernel
theorem dX10_sets_61 : decode cX10_sets 61 = .ok (.iastore, 1) := by decide +kernel
theorem dX10_sets_62 : decode cX10_sets 62 = .ok (.aload_n 0, 1) := by decide +kernel
theorem dX10_sets_63 : decode cX10_sets 63 = .ok (.getfield 9, 3) := by decide +kernel
theorem dX10_sets_66 : decode cX10_sets 66 = .ok (.iload 6, 2) := by decide +kernel
theorem dX10_sets_68 : decode cX10_sets 68 = .ok (.iconst 1, 1) := by decide +kernel
theorem dX10_sets_69 : decode cX10_sets 69 = .ok (.iadd, 1) := by decide +kernel
theorem dX10_sets_70 : decode cX10_sets 70 = .ok (.iload_n 2, 1) := by decide +kernel
theorem dX10_sets_71 : decode cX10_sets 71 = .ok (.iastore, 1) := by decide +kernel
theorem dX10_sets_72 : decode cX10_sets 72 = .ok (.aload_n 0, 1) := by decide +kernel
theorem dX10_sets_73 : decode cX10_sets 73 = .ok (.getfield 9, 3) := by decide +kernel
theorem dX10_sets_76 : decode cX10_sets 76 = .ok (.iload 6, 2) := by decide +kernel
theorem dX10_sets_78 : decode cX10_sets 78 = .ok (.iconst 2, 1) := by decide +kernel
theorem dX10_sets_79 : decode cX10_sets 79 = .ok (.iadd, 1) := by decide +kernel
theorem dX10_sets_80 : decode cX10_sets 80 = .ok (.iload_n 3, 1) := by decide +kernel
theorem dX10_sets_81 : decode cX10_sets 81 = .ok (.iastore, 1) := by decide +kernel
theorem dX10_sets_82 : decode cX10_sets 82 = .ok (.aload_n 0, 1) := by decide +kernel
theorem dX10_sets_83 : decode cX10_sets 83 = .ok (.getfield 9, 3) := by decide +kernel
theorem dX10_sets_86 : decode cX10_sets 86 = .ok (.iconst 1, 1) := by decide +kernel
theorem dX10_sets_87 : decode cX10_sets 87 = .ok (.dup2, 1) := by decide +kernel
theorem dX10_sets_88 : decode cX10_sets 88 = .ok (.iaload, 1) := by decide +kernel
theorem dX10_sets_89 : decode cX10_sets 89 = .ok (.iconst 1, 1) := by decide +kernel
theorem dX10_sets_90 : decode cX10_sets 90 = .ok (.iadd, 1) := by decide +kernel
theorem dX10_sets_91 : decode cX10_sets 91 = .ok (.iastore, 1) := by decide +kernel
theorem dX10_sets_92 : decode cX10_sets 92 = .ok (.aload_n 0, 1) := by decide +kernel
theorem dX10_sets_93 : decode cX10_sets 93 = .ok (.getfield 9, 3) := by decide +kernel
theorem dX10_sets_96 : decode cX10_sets 96 = .ok (.iconst 3, 1) := by decide +kernel
theorem dX10_sets_97 : decode cX10_sets 97 = .ok (.dup2, 1) := by decide +kernel
theorem dX10_sets_98 : decode cX10_sets 98 = .ok (.iaload, 1) := by decide +kernel
theorem dX10_sets_99 : decode cX10_sets 99 = .ok (.iconst 1, 1) := by decide +kernel
theorem dX10_sets_100 : decode cX10_sets 100 = .ok (.iadd, 1) := by decide +kernel
theorem dX10_sets_101 : decode cX10_sets 101 = .ok (.iastore, 1) := by decide +kernel
theorem dX10_sets_102 : decode cX10_sets 102 = .ok (.iload 5, 2) := by decide +kernel
theorem dX10_sets_104 : decode cX10_sets 104 = .ok (.ireturn, 1) := by decide +kernel
theorem dX10_doDrop_0 : decode cX10_doDrop 0 = .ok (.iload_n 1, 1) := by decide +kernel
theorem dX10_doDrop_1 : decode cX10_doDrop 1 = .ok (.invokestatic 89, 3) := by decide +kernel
theorem dX10_doDrop_4 : decode cX10_doDrop 4 = .ok (.ifCond .ne 9, 3) := by decide +kernel
theorem dX10_doDrop_7 : decode cX10_doDrop 7 = .ok (.aload_n 0, 1) := by decide +kernel
theorem dX10_doDrop_8 : decode cX10_doDrop 8 = .ok (.iconst 1, 1) := by decide +kernel
theorem dX10_doDrop_9 : decode cX10_doDrop 9 = .ok (.invokevirtual 73, 3) := by decide +kernel
theorem dX10_doDrop_12 : decode cX10_doDrop 12 = .ok (.ireturn, 1) := by decide +kernel
theorem dX10_doDrop_13 : decode cX10_doDrop 13 = .ok (.iload_n 2, 1) := by decide +kernel
theorem dX10_doDrop_14 : decode cX10_doDrop 14 = .ok (.iconst 0, 1) := by decide +kernel
theorem dX10_doDrop_15 : decode cX10_doDrop 15 = .ok (.bipush 9, 2) := by decide +kernel
theorem dX10_doDrop_17 : decode cX10_doDrop 17 = .ok (.invokestatic 58, 3) := by decide +kernel
theorem dX10_doDrop_20 : decode cX10_doDrop 20 = .ok (.ifCond .eq 24, 3) := by decide +kernel
theorem dX10_doDrop_23 : decode cX10_doDrop 23 = .ok (.iload_n 3, 1) := by decide +kernel
theorem dX10_doDrop_24 : decode cX10_doDrop 24 = .ok (.iconst 1, 1) := by decide +kernel
theorem dX10_doDrop_25 : decode cX10_doDrop 25 = .ok (.bipush 8, 2) := by decide +kernel
theorem dX10_doDrop_27 : decode cX10_doDrop 27 = .ok (.invokestatic 58, 3) := by decide +kernel
theorem dX10_doDrop_30 : decode cX10_doDrop 30 = .ok (.ifCond .eq 14, 3) := by decide +kernel
theorem dX10_doDrop_33 : decode cX10_doDrop 33 = .ok (.aload_n 0, 1) := by decide +kernel
theorem dX10_doDrop_34 : decode cX10_doDrop 34 = .ok (.iload_n 1, 1) := by decide +kernel
theorem dX10_doDrop_35 : decode cX10_doDrop 35 = .ok (.iload_n 2, 1) := by decide +kernel
theorem dX10_doDrop_36 : decode cX10_doDrop 36 = .ok (.iload_n 3, 1) := by decide +kernel
theorem dX10_doDrop_37 : decode cX10_doDrop 37 = .ok (.iconst 3, 1) := by decide +kernel
theorem dX10_doDrop_38 : decode cX10_doDrop 38 = .ok (.invokevirtual 101, 3) := by decide +kernel
theorem dX10_doDrop_41 : decode cX10_doDrop 41 = .ok (.goto 8, 3) := by decide +kernel
theorem dX10_doDrop_44 : decode cX10_doDrop 44 = .ok (.aload_n 0, 1) := by decide +kernel
theorem dX10_doDrop_45 : decode cX10_doDrop 45 = .ok (.iconst 2, 1) := by decide +kernel
theorem dX10_doDrop_46 : decode cX10_doDrop 46 = .ok (.invokevirtual 73, 3) := by decide +kernel
theorem dX10_doDrop_49 : decode cX10_doDrop 49 = .ok (.ireturn, 1) := by decide +kernel
theorem dX10_drop_0 : decode cX10_drop 0 = .ok (.aload_n 0, 1) := by decide +kernel
theorem dX10_drop_1 : decode cX10_drop 1 = .ok (.invokevirtual 80, 3) := by decide +kernel
theorem dX10_drop_4 : decode cX10_drop 4 = .ok (.aload_n 0, 1) := by decide +kernel
theorem dX10_drop_5 : decode cX10_drop 5 = .ok (.aload_n 0, 1) := by decide +kernel
theorem dX10_drop_6 : decode cX10_drop 6 = .ok (.iload_n 1, 1) := by decide +kernel
theorem dX10_drop_7 : decode cX10_drop 7 = .ok (.iload_n 2, 1) := by decide +kernel
theorem dX10_drop_8 : decode cX10_drop 8 = .ok (.iload_n 3, 1) := by decide +kernel
theorem dX10_drop_9 : decode cX10_drop 9 = .ok (.invokevirtual 105, 3) := by decide +kernel
theorem dX10_drop_12 : decode cX10_drop 12 = .ok (.invokevirtual 86, 3) := by decide +kernel
theorem dX10_drop_15 : decode cX10_drop 15 = .ok (.ireturn, 1) := by decide +kernel
theorem dX10_doRest_0 : decode cX10_doRest 0 = .ok (.iload_n 1, 1) := by decide +kernel
theorem dX10_doRest_1 : decode cX10_doRest 1 = .ok (.invokestatic 89, 3) := by decide +kernel
theorem dX10_doRest_4 : decode cX10_doRest 4 = .ok (.ifCond .ne 9, 3) := by decide +kernel
theorem dX10_doRest_7 : decode cX10_doRest 7 = .ok (.aload_n 0, 1) := by decide +kernel
theorem dX10_doRest_8 : decode cX10_doRest 8 = .ok (.iconst 1, 1) := by decide +kernel
theorem dX10_doRest_9 : decode cX10_doRest 9 = .ok (.invokevirtual 73, 3) := by decide +kernel
theorem dX10_doRest_12 : decode cX10_doRest 12 = .ok (.ireturn, 1) := by decide +kernel
theorem dX10_doRest_13 : decode cX10_doRest 13 = .ok (.aload_n 0, 1) := by decide +kernel
theorem dX10_doRest_14 : decode cX10_doRest 14 = .ok (.getfield 9, 3) := by decide +kernel
theorem dX10_doRest_17 : decode cX10_doRest 17 = .ok (.bipush 11, 2) := by decide +kernel
theorem dX10_doRest_19 : decode cX10_doRest 19 = .ok (.iconst 2, 1) := by decide +kernel
theorem dX10_doRest_20 : decode cX10_doRest 20 = .ok (.iload_n 1, 1) := by decide +kernel
theorem dX10_doRest_21 : decode cX10_doRest 21 = .ok (.imul, 1) := by decide +kernel
theorem dX10_doRest_22 : decode cX10_doRest 22 = .ok (.iadd, 1) := by decide +kernel
theorem dX10_doRest_23 : decode cX10_doRest 23 = .ok (.iconst 1, 1) := by decide +kernel
theorem dX10_doRest_24 : decode cX10_doRest 24 = .ok (.iadd, 1) := by decide +kernel
theorem dX10_doRest_25 : decode cX10_doRest 25 = .ok (.iaload, 1) := by decide +kernel
theorem dX10_doRest_26 : decode cX10_doRest 26 = .ok (.istore_n 2, 1) := by decide +kernel
theorem dX10_doRest_27 : decode cX10_doRest 27 = .ok (.iload_n 2, 1) := by decide +kernel
theorem dX10_doRest_28 : decode cX10_doRest 28 = .ok (.ifCond .ne 23, 3) := by decide +kernel
theorem dX10_doRest_31 : decode cX10_doRest 31 = .ok (.aload_n 0, 1) := by decide +kernel
theorem dX10_doRest_32 : decode cX10_doRest 32 = .ok (.iconst 2, 1) := by decide +kernel
theorem dX10_doRest_33 : decode cX10_doRest 33 = .ok (.iconst 4, 1) := by decide +kernel
theorem dX10_doRest_34 : decode cX10_doRest 34 = .ok (.aload_n 0, 1) := by decide +kernel
theorem dX10_doRest_35 : decode cX10_doRest 35 = .ok (.getfield 9, 3) := by decide +kernel
theorem dX10_doRest_38 : decode cX10_doRest 38 = .ok (.bipush 11, 2) := by decide +kernel
theorem dX10_doRest_40 : decode cX10_doRest 40 = .ok (.iconst 2, 1) := by decide +kernel
theorem dX10_doRest_41 : decode cX10_doRest 41 = .ok (.iload_n 1, 1) := by decide +kernel
theorem dX10_doRest_42 : decode cX10_doRest 42 = .ok (.imul, 1) := by decide +kernel
theorem dX10_doRest_43 : decode cX10_doRest 43 = .ok (.iadd, 1) := by decide +kernel
theorem dX10_doRest_44 : decode cX10_doRest 44 = .ok (.iaload, 1) := by decide +kernel
theorem dX10_doRest_45 : decode cX10_doRest 45 = .ok (.invokevirtual 76, 3) := by decide +kernel
theorem dX10_doRest_48 : decode cX10_doRest 48 = .ok (.goto 11, 3) := by decide +kernel
theorem dX10_doRest_51 : decode cX10_doRest 51 = .ok (.aload_n 0, 1) := by decide +kernel
theorem dX10_doRest_52 : decode cX10_doRest 52 = .ok (.iload_n 1, 1) := by decide +kernel
theorem dX10_doRest_53 : decode cX10_doRest 53 = .ok (.iconst (-1), 1) := by decide +kernel
theorem dX10_doRest_54 : decode cX10_doRest 54 = .ok (.iload_n 2, 1) := by decide +kernel
theorem dX10_doRest_55 : decode cX10_doRest 55 = .ok (.iconst 2, 1) := by decide +kernel
theorem dX10_doRest_56 : decode cX10_doRest 56 = .ok (.invokevirtual 101, 3) := by decide +kernel
theorem dX10_doRest_59 : decode cX10_doRest 59 = .ok (.ireturn, 1) := by decide +kernel
theorem dX10_rest_0 : decode cX10_rest 0 = .ok (.aload_n 0, 1) := by decide +kernel
theorem dX10_rest_1 : decode cX10_rest 1 = .ok (.invokevirtual 80, 3) := by decide +kernel
theorem dX10_rest_4 : decode cX10_rest 4 = .ok (.aload_n 0, 1) := by decide +kernel
theorem dX10_rest_5 : decode cX10_rest 5 = .ok (.aload_n 0, 1) := by decide +kernel
theorem dX10_rest_6 : decode cX10_rest 6 = .ok (.iload_n 1, 1) := by decide +kernel
theorem dX10_rest_7 : decode cX10_rest 7 = .ok (.invokevirtual 108, 3) := by decide +kernel
theorem dX10_rest_10 : decode cX10_rest 10 = .ok (.invokevirtual 86, 3) := by decide +kernel
theorem dX10_rest_13 : decode cX10_rest 13 = .ok (.ireturn, 1) := by decide +kernel
theorem dX10_doLift_0 : decode cX10_doLift 0 = .ok (.aload_n 0, 1) := by decide +kernel
theorem dX10_doLift_1 : decode cX10_doLift 1 = .ok (.getfield 9, 3) := by decide +kernel
theorem dX10_doLift_4 : decode cX10_doLift 4 = .ok (.iconst 1, 1) := by decide +kernel
theorem dX10_doLift_5 : decode cX10_doLift 5 = .ok (.iaload, 1) := by decide +kernel
theorem dX10_doLift_6 : decode cX10_doLift 6 = .ok (.iconst 1, 1) := by decide +kernel
theorem dX10_doLift_7 : decode cX10_doLift 7 = .ok (.isub, 1) := by decide +kernel
theorem dX10_doLift_8 : decode cX10_doLift 8 = .ok (.istore_n 1, 1) := by decide +kernel
theorem dX10_doLift_9 : decode cX10_doLift 9 = .ok (.iload_n 1, 1) := by decide +kernel
theorem dX10_doLift_10 : decode cX10_doLift 10 = .ok (.ifCond .ge 16, 3) := by decide +kernel
theorem dX10_doLift_13 : decode cX10_doLift 13 = .ok (.aload_n 0, 1) := by decide +kernel
theorem dX10_doLift_14 : decode cX10_doLift 14 = .ok (.iconst 1, 1) := by decide +kernel
theorem dX10_doLift_15 : decode cX10_doLift 15 = .ok (.iconst 5, 1) := by decide +kernel
theorem dX10_doLift_16 : decode cX10_doLift 16 = .ok (.aload_n 0, 1) := by decide +kernel
theorem dX10_doLift_17 : decode cX10_doLift 17 = .ok (.getfield 9, 3) := by decide +kernel
theorem dX10_doLift_20 : decode cX10_doLift 20 = .ok (.iconst 0, 1) := by decide +kernel
theorem dX10_doLift_21 : decode cX10_doLift 21 = .ok (.iaload, 1) := by decide +kernel
theorem dX10_doLift_22 : decode cX10_doLift 22 = .ok (.invokevirtual 76, 3) := by decide +kernel
theorem dX10_doLift_25 : decode cX10_doLift 25 = .ok (.ireturn, 1) := by decide +kernel
theorem dX10_doLift_26 : decode cX10_doLift 26 = .ok (.aload_n 0, 1) := by decide +kernel
theorem dX10_doLift_27 : decode cX10_doLift 27 = .ok (.getfield 9, 3) := by decide +kernel
theorem dX10_doLift_30 : decode cX10_doLift 30 = .ok (.iconst 1, 1) := by decide +kernel
theorem dX10_doLift_31 : decode cX10_doLift 31 = .ok (.iload_n 1, 1) := by decide +kernel
theorem dX10_doLift_32 : decode cX10_doLift 32 = .ok (.iastore, 1) := by decide +kernel
theorem dX10_doLift_33 : decode cX10_doLift 33 = .ok (.aload_n 0, 1) := by decide +kernel
theorem dX10_doLift_34 : decode cX10_doLift 34 = .ok (.getfield 9, 3) := by decide +kernel
theorem dX10_doLift_37 : decode cX10_doLift 37 = .ok (.iconst 4, 1) := by decide +kernel
theorem dX10_doLift_38 : decode cX10_doLift 38 = .ok (.dup2, 1) := by decide +kernel
theorem dX10_doLift_39 : decode cX10_doLift 39 = .ok (.iaload, 1) := by decide +kernel
theorem dX10_doLift_40 : decode cX10_doLift 40 = .ok (.iconst 1, 1) := by decide +kernel
theorem dX10_doLift_41 : decode cX10_doLift 41 = .ok (.iadd, 1) := by decide +kernel
theorem dX10_doLift_42 : decode cX10_doLift 42 = .ok (.iastore, 1) := by decide +kernel
theorem dX10_doLift_43 : decode cX10_doLift 43 = .ok (.aload_n 0, 1) := by decide +kernel
theorem dX10_doLift_44 : decode cX10_doLift 44 = .ok (.iload_n 1, 1) := by decide +kernel
theorem dX10_doLift_45 : decode cX10_doLift 45 = .ok (.iconst 2, 1) := by decide +kernel
theorem dX10_doLift_46 : decode cX10_doLift 46 = .ok (.invokevirtual 62, 3) := by decide +kernel
theorem dX10_doLift_49 : decode cX10_doLift 49 = .ok (.ireturn, 1) := by decide +kernel
theorem dX10_lift_0 : decode cX10_lift 0 = .ok (.aload_n 0, 1) := by decide +kernel
theorem dX10_lift_1 : decode cX10_lift 1 = .ok (.invokevirtual 80, 3) := by decide +kernel
theorem dX10_lift_4 : decode cX10_lift 4 = .ok (.aload_n 0, 1) := by decide +kernel
theorem dX10_lift_5 : decode cX10_lift 5 = .ok (.aload_n 0, 1) := by decide +kernel
theorem dX10_lift_6 : decode cX10_lift 6 = .ok (.invokevirtual 111, 3) := by decide +kernel
theorem dX10_lift_9 : decode cX10_lift 9 = .ok (.invokevirtual 86, 3) := by decide +kernel
theorem dX10_lift_12 : decode cX10_lift 12 = .ok (.ireturn, 1) := by decide +kernel
theorem dX10_doLimit_0 : decode cX10_doLimit 0 = .ok (.aload_n 0, 1) := by decide +kernel
theorem dX10_doLimit_1 : decode cX10_doLimit 1 = .ok (.getfield 9, 3) := by decide +kernel
theorem dX10_doLimit_4 : decode cX10_doLimit 4 = .ok (.iconst 2, 1) := by decide +kernel
theorem dX10_doLimit_5 : decode cX10_doLimit 5 = .ok (.iaload, 1) := by decide +kernel
theorem dX10_doLimit_6 : decode cX10_doLimit 6 = .ok (.istore_n 2, 1) := by decide +kernel
theorem dX10_doLimit_7 : decode cX10_doLimit 7 = .ok (.iload_n 1, 1) := by decide +kernel
theorem dX10_doLimit_8 : decode cX10_doLimit 8 = .ok (.iconst 1, 1) := by decide +kernel
theorem dX10_doLimit_9 : decode cX10_doLimit 9 = .ok (.bipush 11, 2) := by decide +kernel
theorem dX10_doLimit_11 : decode cX10_doLimit 11 = .ok (.invokestatic 58, 3) := by decide +kernel
theorem dX10_doLimit_14 : decode cX10_doLimit 14 = .ok (.ifCond .ne 9, 3) := by decide +kernel
theorem dX10_doLimit_17 : decode cX10_doLimit 17 = .ok (.aload_n 0, 1) := by decide +kernel
theorem dX10_doLimit_18 : decode cX10_doLimit 18 = .ok (.iconst 1, 1) := by decide +kernel
theorem dX10_doLimit_19 : decode cX10_doLimit 19 = .ok (.invokevirtual 73, 3) := by decide +kernel
theorem dX10_doLimit_22 : decode cX10_doLimit 22 = .ok (.ireturn, 1) := by decide +kernel
theorem dX10_doLimit_23 : decode cX10_doLimit 23 = .ok (.iload_n 2, 1) := by decide +kernel
theorem dX10_doLimit_24 : decode cX10_doLimit 24 = .ok (.iload_n 1, 1) := by decide +kernel
theorem dX10_doLimit_25 : decode cX10_doLimit 25 = .ok (.if_icmp .ne 11, 3) := by decide +kernel
theorem dX10_doLimit_28 : decode cX10_doLimit 28 = .ok (.aload_n 0, 1) := by decide +kernel
theorem dX10_doLimit_29 : decode cX10_doLimit 29 = .ok (.iconst 2, 1) := by decide +kernel
theorem dX10_doLimit_30 : decode cX10_doLimit 30 = .ok (.iconst 2, 1) := by decide +kernel
theorem dX10_doLimit_31 : decode cX10_doLimit 31 = .ok (.iload_n 1, 1) := by decide +kernel
theorem dX10_doLimit_32 : decode cX10_doLimit 32 = .ok (.invokevirtual 76, 3) := by decide +kernel
theorem dX10_doLimit_35 : decode cX10_doLimit 35 = .ok (.ireturn, 1) := by decide +kernel
theorem dX10_doLimit_36 : decode cX10_doLimit 36 = .ok (.aload_n 0, 1) := by decide +kernel
theorem dX10_doLimit_37 : decode cX10_doLimit 37 = .ok (.getfield 9, 3) := by decide +kernel
theorem dX10_doLimit_40 : decode cX10_doLimit 40 = .ok (.iconst 2, 1) := by decide +kernel
theorem dX10_doLimit_41 : decode cX10_doLimit 41 = .ok (.iload_n 1, 1) := by decide +kernel
theorem dX10_doLimit_42 : decode cX10_doLimit 42 = .ok (.iastore, 1) := by decide +kernel
theorem dX10_doLimit_43 : decode cX10_doLimit 43 = .ok (.iload_n 2, 1) := by decide +kernel
theorem dX10_doLimit_44 : decode cX10_doLimit 44 = .ok (.ireturn, 1) := by decide +kernel
theorem dX10_limit_0 : decode cX10_limit 0 = .ok (.aload_n 0, 1) := by decide +kernel
theorem dX10_limit_1 : decode cX10_limit 1 = .ok (.invokevirtual 80, 3) := by decide +kernel
theorem dX10_limit_4 : decode cX10_limit 4 = .ok (.aload_n 0, 1) := by decide +kernel
theorem dX10_limit_5 : decode cX10_limit 5 = .ok (.aload_n 0, 1) := by decide +kernel
theorem dX10_limit_6 : decode cX10_limit 6 = .ok (.iload_n 1, 1) := by decide +kernel
theorem dX10_limit_7 : decode cX10_limit 7 = .ok (.invokevirtual 114, 3) := by decide +kernel
theorem dX10_limit_10 : decode cX10_limit 10 = .ok (.invokevirtual 86, 3) := by decide +kernel
theorem dX10_limit_13 : decode cX10_limit 13 = .ok (.ireturn, 1) := by decide +kernel
theorem dX10_doTune_0 : decode cX10_doTune 0 = .ok (.aload_n 0, 1) := by decide +kernel
theorem dX10_doTune_1 : decode cX10_doTune 1 = .ok (.iload_n 1, 1) := by decide +kernel
theorem dX10_doTune_2 : decode cX10_doTune 2 = .ok (.invokevirtual 117, 3) := by decide +kernel
theorem dX10_doTune_5 : decode cX10_doTune 5 = .ok (.ifCond .ne 9, 3) := by decide +kernel
theorem dX10_doTune_8 : decode cX10_doTune 8 = .ok (.aload_n 0, 1) := by decide +kernel
theorem dX10_doTune_9 : decode cX10_doTune 9 = .ok (.iconst 1, 1) := by decide +kernel
theorem dX10_doTune_10 : decode cX10_doTune 10 = .ok (.invokevirtual 73, 3) := by decide +kernel
theorem dX10_doTune_13 : decode cX10_doTune 13 = .ok (.ireturn, 1) := by decide +kernel
theorem dX10_doTune_14 : decode cX10_doTune 14 = .ok (.iload_n 2, 1) := by decide +kernel
theorem dX10_doTune_15 : decode cX10_doTune 15 = .ok (.iconst 0, 1) := by decide +kernel
theorem dX10_doTune_16 : decode cX10_doTune 16 = .ok (.bipush 9, 2) := by decide +kernel
theorem dX10_doTune_18 : decode cX10_doTune 18 = .ok (.invokestatic 58, 3) := by decide +kernel
theorem dX10_doTune_21 : decode cX10_doTune 21 = .ok (.ifCond .ne 9, 3) := by decide +kernel
theorem dX10_doTune_24 : decode cX10_doTune 24 = .ok (.aload_n 0, 1) := by decide +kernel
theorem dX10_doTune_25 : decode cX10_doTune 25 = .ok (.iconst 2, 1) := by decide +kernel
theorem dX10_doTune_26 : decode cX10_doTune 26 = .ok (.invokevirtual 73, 3) := by decide +kernel
theorem dX10_doTune_29 : decode cX10_doTune 29 = .ok (.ireturn, 1) := by decide +kernel
theorem dX10_doTune_30 : decode cX10_doTune 30 = .ok (.aload_n 0, 1) := by decide +kernel
theorem dX10_doTune_31 : decode cX10_doTune 31 = .ok (.iload_n 1, 1) := by decide +kernel
theorem dX10_doTune_32 : decode cX10_doTune 32 = .ok (.iconst 1, 1) := by decide +kernel
theorem dX10_doTune_33 : decode cX10_doTune 33 = .ok (.invokevirtual 62, 3) := by decide +kernel
theorem dX10_doTune_36 : decode cX10_doTune 36 = .ok (.istore_n 3, 1) := by decide +kernel
theorem dX10_doTune_37 : decode cX10_doTune 37 = .ok (.iload_n 3, 1) := by decide +kernel
theorem dX10_doTune_38 : decode cX10_doTune 38 = .ok (.ifCond .ge 17, 3) := by decide +kernel
theorem dX10_doTune_41 : decode cX10_doTune 41 = .ok (.aload_n 0, 1) := by decide +kernel
theorem dX10_doTune_42 : decode cX10_doTune 42 = .ok (.iconst 3, 1) := by decide +kernel
theorem dX10_doTune_43 : decode cX10_doTune 43 = .ok (.bipush 6, 2) := by decide +kernel
theorem dX10_doTune_45 : decode cX10_doTune 45 = .ok (.aload_n 0, 1) := by decide +kernel
theorem dX10_doTune_46 : decode cX10_doTune 46 = .ok (.iload_n 1, 1) := by decide +kernel
theorem dX10_doTune_47 : decode cX10_doTune 47 = .ok (.iconst 2, 1) := by decide +kernel
theorem dX10_doTune_48 : decode cX10_doTune 48 = .ok (.invokevirtual 62, 3) := by decide +kernel
theorem dX10_doTune_51 : decode cX10_doTune 51 = .ok (.invokevirtual 76, 3) := by decide +kernel
theorem dX10_doTune_54 : decode cX10_doTune 54 = .ok (.ireturn, 1) := by decide +kernel
theorem dX10_doTune_55 : decode cX10_doTune 55 = .ok (.iload_n 3, 1) := by decide +kernel
theorem dX10_doTune_56 : decode cX10_doTune 56 = .ok (.iload_n 2, 1) := by decide +kernel
theorem dX10_doTune_57 : decode cX10_doTune 57 = .ok (.if_icmp .ne 11, 3) := by decide +kernel
theorem dX10_doTune_60 : decode cX10_doTune 60 = .ok (.aload_n 0, 1) := by decide +kernel
theorem dX10_doTune_61 : decode cX10_doTune 61 = .ok (.iconst 3, 1) := by decide +kernel
theorem dX10_doTune_62 : decode cX10_doTune 62 = .ok (.iconst 2, 1) := by decide +kernel
theorem dX10_doTune_63 : decode cX10_doTune 63 = .ok (.iload_n 2, 1) := by decide +kernel
theorem dX10_doTune_64 : decode cX10_doTune 64 = .ok (.invokevirtual 76, 3) := by decide +kernel
theorem dX10_doTune_67 : decode cX10_doTune 67 = .ok (.ireturn, 1) := by decide +kernel
theorem dX10_doTune_68 : decode cX10_doTune 68 = .ok (.aload_n 0, 1) := by decide +kernel
theorem dX10_doTune_69 : decode cX10_doTune 69 = .ok (.getfield 9, 3) := by decide +kernel
theorem dX10_doTune_72 : decode cX10_doTune 72 = .ok (.bipush 19, 2) := by decide +kernel
theorem dX10_doTune_74 : decode cX10_doTune 74 = .ok (.iconst 3, 1) := by decide +kernel
theorem dX10_doTune_75 : decode cX10_doTune 75 = .ok (.iload_n 1, 1) := by decide +kernel
theorem dX10_doTune_76 : decode cX10_doTune 76 = .ok (.imul, 1) := by decide +kernel
theorem dX10_doTune_77 : decode cX10_doTune 77 = .ok (.iadd, 1) := by decide +kernel
theorem dX10_doTune_78 : decode cX10_doTune 78 = .ok (.iconst 1, 1) := by decide +kernel
theorem dX10_doTune_79 : decode cX10_doTune 79 = .ok (.iadd, 1) := by decide +kernel
theorem dX10_doTune_80 : decode cX10_doTune 80 = .ok (.iload_n 2, 1) := by decide +kernel
theorem dX10_doTune_81 : decode cX10_doTune 81 = .ok (.iastore, 1) := by decide +kernel
theorem dX10_doTune_82 : decode cX10_doTune 82 = .ok (.iload_n 3, 1) := by decide +kernel
theorem dX10_doTune_83 : decode cX10_doTune 83 = .ok (.ireturn, 1) := by decide +kernel
theorem dX10_tune_0 : decode cX10_tune 0 = .ok (.aload_n 0, 1) := by decide +kernel
theorem dX10_tune_1 : decode cX10_tune 1 = .ok (.invokevirtual 80, 3) := by decide +kernel
theorem dX10_tune_4 : decode cX10_tune 4 = .ok (.aload_n 0, 1) := by decide +kernel
theorem dX10_tune_5 : decode cX10_tune 5 = .ok (.aload_n 0, 1) := by decide +kernel
theorem dX10_tune_6 : decode cX10_tune 6 = .ok (.iload_n 1, 1) := by decide +kernel
theorem dX10_tune_7 : decode cX10_tune 7 = .ok (.iload_n 2, 1) := by decide +kernel
theorem dX10_tune_8 : decode cX10_tune 8 = .ok (.invokevirtual 120, 3) := by decide +kernel
theorem dX10_tune_11 : decode cX10_tune 11 = .ok (.invokevirtual 86, 3) := by decide +kernel
theorem dX10_tune_14 : decode cX10_tune 14 = .ok (.ireturn, 1) := by decide +kernel
theorem dX10_pitch_0 : decode cX10_pitch 0 = .ok (.aload_n 0, 1) := by decide +kernel
theorem dX10_pitch_1 : decode cX10_pitch 1 = .ok (.getfield 9, 3) := by decide +kernel
theorem dX10_pitch_4 : decode cX10_pitch 4 = .ok (.bipush 11, 2) := by decide +kernel
theorem dX10_pitch_6 : decode cX10_pitch 6 = .ok (.iconst 2, 1) := by decide +kernel
theorem dX10_pitch_7 : decode cX10_pitch 7 = .ok (.aload_n 0, 1) := by decide +kernel
theorem dX10_pitch_8 : decode cX10_pitch 8 = .ok (.iload_n 1, 1) := by decide +kernel
theorem dX10_pitch_9 : decode cX10_pitch 9 = .ok (.iconst 0, 1) := by decide +kernel
theorem dX10_pitch_10 : decode cX10_pitch 10 = .ok (.invokevirtual 62, 3) := by decide +kernel
theorem dX10_pitch_13 : decode cX10_pitch 13 = .ok (.imul, 1) := by decide +kernel
theorem dX10_pitch_14 : decode cX10_pitch 14 = .ok (.iadd, 1) := by decide +kernel
theorem dX10_pitch_15 : decode cX10_pitch 15 = .ok (.iaload, 1) := by decide +kernel
theorem dX10_pitch_16 : decode cX10_pitch 16 = .ok (.aload_n 0, 1) := by decide +kernel
theorem dX10_pitch_17 : decode cX10_pitch 17 = .ok (.iload_n 1, 1) := by decide +kernel
theorem dX10_pitch_18 : decode cX10_pitch 18 = .ok (.iconst 1, 1) := by decide +kernel
theorem dX10_pitch_19 : decode cX10_pitch 19 = .ok (.invokevirtual 62, 3) := by decide +kernel
theorem dX10_pitch_22 : decode cX10_pitch 22 = .ok (.iadd, 1) := by decide +kernel
theorem dX10_pitch_23 : decode cX10_pitch 23 = .ok (.bipush 12, 2) := by decide +kernel
theorem dX10_pitch_25 : decode cX10_pitch 25 = .ok (.irem, 1) := by decide +kernel
theorem dX10_pitch_26 : decode cX10_pitch 26 = .ok (.ireturn, 1) := by decide +kernel
theorem dX10_beatsIn_0 : decode cX10_beatsIn 0 = .ok (.aload_n 0, 1) := by decide +kernel
theorem dX10_beatsIn_1 : decode cX10_beatsIn 1 = .ok (.iload_n 1, 1) := by decide +kernel
theorem dX10_beatsIn_2 : decode cX10_beatsIn 2 = .ok (.invokevirtual 70, 3) := by decide +kernel
theorem dX10_beatsIn_5 : decode cX10_beatsIn 5 = .ok (.aload_n 0, 1) := by decide +kernel
theorem dX10_beatsIn_6 : decode cX10_beatsIn 6 = .ok (.iload_n 2, 1) := by decide +kernel
theorem dX10_beatsIn_7 : decode cX10_beatsIn 7 = .ok (.invokevirtual 66, 3) := by decide +kernel
theorem dX10_beatsIn_10 : decode cX10_beatsIn 10 = .ok (.invokestatic 123, 3) := by decide +kernel
theorem dX10_beatsIn_13 : decode cX10_beatsIn 13 = .ok (.istore_n 3, 1) := by decide +kernel
theorem dX10_beatsIn_14 : decode cX10_beatsIn 14 = .ok (.aload_n 0, 1) := by decide +kernel
theorem dX10_beatsIn_15 : decode cX10_beatsIn 15 = .ok (.iload_n 1, 1) := by decide +kernel
theorem dX10_beatsIn_16 : decode cX10_beatsIn 16 = .ok (.iconst 1, 1) := by decide +kernel
theorem dX10_beatsIn_17 : decode cX10_beatsIn 17 = .ok (.iadd, 1) := by decide +kernel
theorem dX10_beatsIn_18 : decode cX10_beatsIn 18 = .ok (.invokevirtual 70, 3) := by decide +kernel
theorem dX10_beatsIn_21 : decode cX10_beatsIn 21 = .ok (.aload_n 0, 1) := by decide +kernel
theorem dX10_beatsIn_22 : decode cX10_beatsIn 22 = .ok (.iload_n 2, 1) := by decide +kernel
theorem dX10_beatsIn_23 : decode cX10_beatsIn 23 = .ok (.iconst 1, 1) := by decide +kernel
theorem dX10_beatsIn_24 : decode cX10_beatsIn 24 = .ok (.iadd, 1) := by decide +kernel
theorem dX10_beatsIn_25 : decode cX10_beatsIn 25 = .ok (.invokevirtual 66, 3) := by decide +kernel
theorem dX10_beatsIn_28 : decode cX10_beatsIn 28 = .ok (.invokestatic 128, 3) := by decide +kernel
theorem dX10_beatsIn_31 : decode cX10_beatsIn 31 = .ok (.istore 4, 2) := by decide +kernel
theorem dX10_beatsIn_33 : decode cX10_beatsIn 33 = .ok (.iconst 0, 1) := by decide +kernel
theorem dX10_beatsIn_34 : decode cX10_beatsIn 34 = .ok (.iload 4, 2) := by decide +kernel
theorem dX10_beatsIn_36 : decode cX10_beatsIn 36 = .ok (.iload_n 3, 1) := by decide +kernel
theorem dX10_beatsIn_37 : decode cX10_beatsIn 37 = .ok (.isub, 1) := by decide +kernel
theorem dX10_beatsIn_38 : decode cX10_beatsIn 38 = .ok (.invokestatic 123, 3) := by decide +kernel
theorem dX10_beatsIn_41 : decode cX10_beatsIn 41 = .ok (.ireturn, 1) := by decide +kernel
theorem dX10_parts_0 : decode cX10_parts 0 = .ok (.iconst 0, 1) := by decide +kernel
theorem dX10_parts_1 : decode cX10_parts 1 = .ok (.istore_n 2, 1) := by decide +kernel
theorem dX10_parts_2 : decode cX10_parts 2 = .ok (.iconst 0, 1) := by decide +kernel
theorem dX10_parts_3 : decode cX10_parts 3 = .ok (.istore_n 3, 1) := by decide +kernel
theorem dX10_parts_4 : decode cX10_parts 4 = .ok (.iload_n 3, 1) := by decide +kernel
theorem dX10_parts_5 : decode cX10_parts 5 = .ok (.aload_n 0, 1) := by decide +kernel
theorem dX10_parts_6 : decode cX10_parts 6 = .ok (.getfield 9, 3) := by decide +kernel
theorem dX10_parts_9 : decode cX10_parts 9 = .ok (.iconst 0, 1) := by decide +kernel
theorem dX10_parts_10 : decode cX10_parts 10 = .ok (.iaload, 1) := by decide +kernel
theorem dX10_parts_11 : decode cX10_parts 11 = .ok (.if_icmp .ge 26, 3) := by decide +kernel
theorem dX10_parts_14 : decode cX10_parts 14 = .ok (.iload_n 2, 1) := by decide +kernel
theorem dX10_parts_15 : decode cX10_parts 15 = .ok (.aload_n 0, 1) := by decide +kernel
theorem dX10_parts_16 : decode cX10_parts 16 = .ok (.iload_n 1, 1) := by decide +kernel
theorem dX10_parts_17 : decode cX10_parts 17 = .ok (.iload_n 3, 1) := by decide +kernel
theorem dX10_parts_18 : decode cX10_parts 18 = .ok (.invokevirtual 131, 3) := by decide +kernel
theorem dX10_parts_21 : decode cX10_parts 21 = .ok (.ifCond .le 7, 3) := by decide +kernel
theorem dX10_parts_24 : decode cX10_parts 24 = .ok (.iconst 1, 1) := by decide +kernel
theorem dX10_parts_25 : decode cX10_parts 25 = .ok (.goto 4, 3) := by decide +kernel
theorem dX10_parts_28 : decode cX10_parts 28 = .ok (.iconst 0, 1) := by decide +kernel
theorem dX10_parts_29 : decode cX10_parts 29 = .ok (.iadd, 1) := by decide +kernel
theorem dX10_parts_30 : decode cX10_parts 30 = .ok (.istore_n 2, 1) := by decide +kernel
theorem dX10_parts_31 : decode cX10_parts 31 = .ok (.iinc 3 1, 3) := by decide +kernel
theorem dX10_parts_34 : decode cX10_parts 34 = .ok (.goto (-30), 3) := by decide +kernel
theorem dX10_parts_37 : decode cX10_parts 37 = .ok (.iload_n 2, 1) := by decide +kernel
theorem dX10_parts_38 : decode cX10_parts 38 = .ok (.ireturn, 1) := by decide +kernel
theorem dX10_partsIn_0 : decode cX10_partsIn 0 = .ok (.iconst 0, 1) := by decide +kernel
theorem dX10_partsIn_1 : decode cX10_partsIn 1 = .ok (.istore_n 2, 1) := by decide +kernel
theorem dX10_partsIn_2 : decode cX10_partsIn 2 = .ok (.iconst 0, 1) := by decide +kernel
theorem dX10_partsIn_3 : decode cX10_partsIn 3 = .ok (.istore_n 3, 1) := by decide +kernel
theorem dX10_partsIn_4 : decode cX10_partsIn 4 = .ok (.iload_n 3, 1) := by decide +kernel
theorem dX10_partsIn_5 : decode cX10_partsIn 5 = .ok (.aload_n 0, 1) := by decide +kernel
theorem dX10_partsIn_6 : decode cX10_partsIn 6 = .ok (.getfield 9, 3) := by decide +kernel
theorem dX10_partsIn_9 : decode cX10_partsIn 9 = .ok (.iconst 1, 1) := by decide +kernel
theorem dX10_partsIn_10 : decode cX10_partsIn 10 = .ok (.iaload, 1) := by decide +kernel
theorem dX10_partsIn_11 : decode cX10_partsIn 11 = .ok (.if_icmp .ge 26, 3) := by decide +kernel
theorem dX10_partsIn_14 : decode cX10_partsIn 14 = .ok (.iload_n 2, 1) := by decide +kernel
theorem dX10_partsIn_15 : decode cX10_partsIn 15 = .ok (.aload_n 0, 1) := by decide +kernel
theorem dX10_partsIn_16 : decode cX10_partsIn 16 = .ok (.iload_n 3, 1) := by decide +kernel
theorem dX10_partsIn_17 : decode cX10_partsIn 17 = .ok (.iload_n 1, 1) := by decide +kernel
theorem dX10_partsIn_18 : decode cX10_partsIn 18 = .ok (.invokevirtual 131, 3) := by decide +kernel
theorem dX10_partsIn_21 : decode cX10_partsIn 21 = .ok (.ifCond .le 7, 3) := by decide +kernel
theorem dX10_partsIn_24 : decode cX10_partsIn 24 = .ok (.iconst 1, 1) := by decide +kernel
theorem dX10_partsIn_25 : decode cX10_partsIn 25 = .ok (.goto 4, 3) := by decide +kernel
theorem dX10_partsIn_28 : decode cX10_partsIn 28 = .ok (.iconst 0, 1) := by decide +kernel
theorem dX10_partsIn_29 : decode cX10_partsIn 29 = .ok (.iadd, 1) := by decide +kernel
theorem dX10_partsIn_30 : decode cX10_partsIn 30 = .ok (.istore_n 2, 1) := by decide +kernel
theorem dX10_partsIn_31 : decode cX10_partsIn 31 = .ok (.iinc 3 1, 3) := by decide +kernel
theorem dX10_partsIn_34 : decode cX10_partsIn 34 = .ok (.goto (-30), 3) := by decide +kernel
theorem dX10_partsIn_37 : decode cX10_partsIn 37 = .ok (.iload_n 2, 1) := by decide +kernel
theorem dX10_partsIn_38 : decode cX10_partsIn 38 = .ok (.ireturn, 1) := by decide +kernel
theorem dX10_filled_0 : decode cX10_filled 0 = .ok (.iconst 0, 1) := by decide +kernel
theorem dX10_filled_1 : decode cX10_filled 1 = .ok (.istore_n 2, 1) := by decide +kernel
theorem dX10_filled_2 : decode cX10_filled 2 = .ok (.iconst 0, 1) := by decide +kernel
theorem dX10_filled_3 : decode cX10_filled 3 = .ok (.istore_n 3, 1) := by decide +kernel
theorem dX10_filled_4 : decode cX10_filled 4 = .ok (.iload_n 3, 1) := by decide +kernel
theorem dX10_filled_5 : decode cX10_filled 5 = .ok (.aload_n 0, 1) := by decide +kernel
theorem dX10_filled_6 : decode cX10_filled 6 = .ok (.getfield 9, 3) := by decide +kernel
theorem dX10_filled_9 : decode cX10_filled 9 = .ok (.iconst 1, 1) := by decide +kernel
theorem dX10_filled_10 : decode cX10_filled 10 = .ok (.iaload, 1) := by decide +kernel
theorem dX10_filled_11 : decode cX10_filled 11 = .ok (.if_icmp .ge 18, 3) := by decide +kernel
theorem dX10_filled_14 : decode cX10_filled 14 = .ok (.iload_n 2, 1) := by decide +kernel
theorem dX10_filled_15 : decode cX10_filled 15 = .ok (.aload_n 0, 1) := by decide +kernel
theorem dX10_filled_16 : decode cX10_filled 16 = .ok (.iload_n 3, 1) := by decide +kernel
theorem dX10_filled_17 : decode cX10_filled 17 = .ok (.iload_n 1, 1) := by decide +kernel
theorem dX10_filled_18 : decode cX10_filled 18 = .ok (.invokevirtual 131, 3) := by decide +kernel
theorem dX10_filled_21 : decode cX10_filled 21 = .ok (.iadd, 1) := by decide +kernel
theorem dX10_filled_22 : decode cX10_filled 22 = .ok (.istore_n 2, 1) := by decide +kernel
theorem dX10_filled_23 : decode cX10_filled 23 = .ok (.iinc 3 1, 3) := by decide +kernel
theorem dX10_filled_26 : decode cX10_filled 26 = .ok (.goto (-22), 3) := by decide +kernel
theorem dX10_filled_29 : decode cX10_filled 29 = .ok (.iload_n 2, 1) := by decide +kernel
theorem dX10_filled_30 : decode cX10_filled 30 = .ok (.ireturn, 1) := by decide +kernel
theorem dX10_soundAt_0 : decode cX10_soundAt 0 = .ok (.iconst (-1), 1) := by decide +kernel
theorem dX10_soundAt_1 : decode cX10_soundAt 1 = .ok (.istore_n 2, 1) := by decide +kernel
theorem dX10_soundAt_2 : decode cX10_soundAt 2 = .ok (.iconst 0, 1) := by decide +kernel
theorem dX10_soundAt_3 : decode cX10_soundAt 3 = .ok (.istore_n 3, 1) := by decide +kernel
theorem dX10_soundAt_4 : decode cX10_soundAt 4 = .ok (.iload_n 3, 1) := by decide +kernel
theorem dX10_soundAt_5 : decode cX10_soundAt 5 = .ok (.aload_n 0, 1) := by decide +kernel
theorem dX10_soundAt_6 : decode cX10_soundAt 6 = .ok (.getfield 9, 3) := by decide +kernel
theorem dX10_soundAt_9 : decode cX10_soundAt 9 = .ok (.iconst 1, 1) := by decide +kernel
theorem dX10_soundAt_10 : decode cX10_soundAt 10 = .ok (.iaload, 1) := by decide +kernel
theorem dX10_soundAt_11 : decode cX10_soundAt 11 = .ok (.if_icmp .ge 36, 3) := by decide +kernel
theorem dX10_soundAt_14 : decode cX10_soundAt 14 = .ok (.iload_n 1, 1) := by decide +kernel
theorem dX10_soundAt_15 : decode cX10_soundAt 15 = .ok (.aload_n 0, 1) := by decide +kernel
theorem dX10_soundAt_16 : decode cX10_soundAt 16 = .ok (.iload_n 3, 1) := by decide +kernel
theorem dX10_soundAt_17 : decode cX10_soundAt 17 = .ok (.invokevirtual 70, 3) := by decide +kernel
theorem dX10_soundAt_20 : decode cX10_soundAt 20 = .ok (.aload_n 0, 1) := by decide +kernel
theorem dX10_soundAt_21 : decode cX10_soundAt 21 = .ok (.iload_n 3, 1) := by decide +kernel
theorem dX10_soundAt_22 : decode cX10_soundAt 22 = .ok (.iconst 1, 1) := by decide +kernel
theorem dX10_soundAt_23 : decode cX10_soundAt 23 = .ok (.iadd, 1) := by decide +kernel
theorem dX10_soundAt_24 : decode cX10_soundAt 24 = .ok (.invokevirtual 70, 3) := by decide +kernel
theorem dX10_soundAt_27 : decode cX10_soundAt 27 = .ok (.iconst 1, 1) := by decide +kernel
theorem dX10_soundAt_28 : decode cX10_soundAt 28 = .ok (.isub, 1) := by decide +kernel
theorem dX10_soundAt_29 : decode cX10_soundAt 29 = .ok (.invokestatic 58, 3) := by decide +kernel
theorem dX10_soundAt_32 : decode cX10_soundAt 32 = .ok (.ifCond .eq 7, 3) := by decide +kernel
theorem dX10_soundAt_35 : decode cX10_soundAt 35 = .ok (.iload_n 3, 1) := by decide +kernel
theorem dX10_soundAt_36 : decode cX10_soundAt 36 = .ok (.goto 4, 3) := by decide +kernel
theorem dX10_soundAt_39 : decode cX10_soundAt 39 = .ok (.iload_n 2, 1) := by decide +kernel
theorem dX10_soundAt_40 : decode cX10_soundAt 40 = .ok (.istore_n 2, 1) := by decide +kernel
theorem dX10_soundAt_41 : decode cX10_soundAt 41 = .ok (.iinc 3 1, 3) := by decide +kernel
theorem dX10_soundAt_44 : decode cX10_soundAt 44 = .ok (.goto (-40), 3) := by decide +kernel
theorem dX10_soundAt_47 : decode cX10_soundAt 47 = .ok (.iload_n 2, 1) := by decide +kernel
theorem dX10_soundAt_48 : decode cX10_soundAt 48 = .ok (.ireturn, 1) := by decide +kernel
theorem dX10_dropAhead_0 : decode cX10_dropAhead 0 = .ok (.iconst (-1), 1) := by decide +kernel
theorem dX10_dropAhead_1 : decode cX10_dropAhead 1 = .ok (.istore_n 2, 1) := by decide +kernel
theorem dX10_dropAhead_2 : decode cX10_dropAhead 2 = .ok (.iconst 0, 1) := by decide +kernel
theorem dX10_dropAhead_3 : decode cX10_dropAhead 3 = .ok (.istore_n 3, 1) := by decide +kernel
theorem dX10_dropAhead_4 : decode cX10_dropAhead 4 = .ok (.iload_n 3, 1) := by decide +kernel
theorem dX10_dropAhead_5 : decode cX10_dropAhead 5 = .ok (.iload_n 1, 1) := by decide +kernel
theorem dX10_dropAhead_6 : decode cX10_dropAhead 6 = .ok (.if_icmp .ge 23, 3) := by decide +kernel
theorem dX10_dropAhead_9 : decode cX10_dropAhead 9 = .ok (.aload_n 0, 1) := by decide +kernel
theorem dX10_dropAhead_10 : decode cX10_dropAhead 10 = .ok (.iload_n 3, 1) := by decide +kernel
theorem dX10_dropAhead_11 : decode cX10_dropAhead 11 = .ok (.invokevirtual 134, 3) := by decide +kernel
theorem dX10_dropAhead_14 : decode cX10_dropAhead 14 = .ok (.ifCond .eq 7, 3) := by decide +kernel
theorem dX10_dropAhead_17 : decode cX10_dropAhead 17 = .ok (.iload_n 3, 1) := by decide +kernel
theorem dX10_dropAhead_18 : decode cX10_dropAhead 18 = .ok (.goto 4, 3) := by decide +kernel
theorem dX10_dropAhead_21 : decode cX10_dropAhead 21 = .ok (.iload_n 2, 1) := by decide +kernel
theorem dX10_dropAhead_22 : decode cX10_dropAhead 22 = .ok (.istore_n 2, 1) := by decide +kernel
theorem dX10_dropAhead_23 : decode cX10_dropAhead 23 = .ok (.iinc 3 1, 3) := by decide +kernel
theorem dX10_dropAhead_26 : decode cX10_dropAhead 26 = .ok (.goto (-22), 3) := by decide +kernel
theorem dX10_dropAhead_29 : decode cX10_dropAhead 29 = .ok (.iload_n 2, 1) := by decide +kernel
theorem dX10_dropAhead_30 : decode cX10_dropAhead 30 = .ok (.ireturn, 1) := by decide +kernel
theorem dX10_soundsOf_0 : decode cX10_soundsOf 0 = .ok (.iconst 0, 1) := by decide +kernel
theorem dX10_soundsOf_1 : decode cX10_soundsOf 1 = .ok (.istore_n 3, 1) := by decide +kernel
theorem dX10_soundsOf_2 : decode cX10_soundsOf 2 = .ok (.iconst 0, 1) := by decide +kernel
theorem dX10_soundsOf_3 : decode cX10_soundsOf 3 = .ok (.istore 4, 2) := by decide +kernel
theorem dX10_soundsOf_5 : decode cX10_soundsOf 5 = .ok (.iload 4, 2) := by decide +kernel
theorem dX10_soundsOf_7 : decode cX10_soundsOf 7 = .ok (.aload_n 0, 1) := by decide +kernel
theorem dX10_soundsOf_8 : decode cX10_soundsOf 8 = .ok (.getfield 9, 3) := by decide +kernel
theorem dX10_soundsOf_11 : decode cX10_soundsOf 11 = .ok (.iconst 1, 1) := by decide +kernel
theorem dX10_soundsOf_12 : decode cX10_soundsOf 12 = .ok (.iaload, 1) := by decide +kernel
theorem dX10_soundsOf_13 : decode cX10_soundsOf 13 = .ok (.if_icmp .ge 79, 3) := by decide +kernel
theorem dX10_soundsOf_16 : decode cX10_soundsOf 16 = .ok (.aload_n 0, 1) := by decide +kernel
theorem dX10_soundsOf_17 : decode cX10_soundsOf 17 = .ok (.iload 4, 2) := by decide +kernel
theorem dX10_soundsOf_19 : decode cX10_soundsOf 19 = .ok (.iconst 0, 1) := by decide +kernel
theorem dX10_soundsOf_20 : decode cX10_soundsOf 20 = .ok (.invokevirtual 62, 3) := by decide +kernel
theorem dX10_soundsOf_23 : decode cX10_soundsOf 23 = .ok (.iload_n 1, 1) := by decide +kernel
theorem dX10_soundsOf_24 : decode cX10_soundsOf 24 = .ok (.if_icmp .ne 31, 3) := by decide +kernel
theorem dX10_soundsOf_27 : decode cX10_soundsOf 27 = .ok (.iload_n 2, 1) := by decide +kernel
theorem dX10_soundsOf_28 : decode cX10_soundsOf 28 = .ok (.iconst 4, 1) := by decide +kernel
theorem dX10_soundsOf_29 : decode cX10_soundsOf 29 = .ok (.if_icmp .eq 22, 3) := by decide +kernel
theorem dX10_soundsOf_32 : decode cX10_soundsOf 32 = .ok (.aload_n 0, 1) := by decide +kernel
theorem dX10_soundsOf_33 : decode cX10_soundsOf 33 = .ok (.iload 4, 2) := by decide +kernel
theorem dX10_soundsOf_35 : decode cX10_soundsOf 35 = .ok (.invokevirtual 134, 3) := by decide +kernel
theorem dX10_soundsOf_38 : decode cX10_soundsOf 38 = .ok (.iload_n 2, 1) := by decide +kernel
theorem dX10_soundsOf_39 : decode cX10_soundsOf 39 = .ok (.iconst 2, 1) := by decide +kernel
theorem dX10_soundsOf_40 : decode cX10_soundsOf 40 = .ok (.if_icmp .ne 7, 3) := by decide +kernel
theorem dX10_soundsOf_43 : decode cX10_soundsOf 43 = .ok (.iconst 1, 1) := by decide +kernel
theorem dX10_soundsOf_44 : decode cX10_soundsOf 44 = .ok (.goto 4, 3) := by decide +kernel
theorem dX10_soundsOf_47 : decode cX10_soundsOf 47 = .ok (.iconst 0, 1) := by decide +kernel
theorem dX10_soundsOf_48 : decode cX10_soundsOf 48 = .ok (.if_icmp .ne 7, 3) := by decide +kernel
theorem dX10_soundsOf_51 : decode cX10_soundsOf 51 = .ok (.iconst 1, 1) := by decide +kernel
theorem dX10_soundsOf_52 : decode cX10_soundsOf 52 = .ok (.goto 4, 3) := by decide +kernel
theorem dX10_soundsOf_55 : decode cX10_soundsOf 55 = .ok (.iconst 0, 1) := by decide +kernel
theorem dX10_soundsOf_56 : decode cX10_soundsOf 56 = .ok (.istore 5, 2) := by decide +kernel
theorem dX10_soundsOf_58 : decode cX10_soundsOf 58 = .ok (.iload_n 3, 1) := by decide +kernel
theorem dX10_soundsOf_59 : decode cX10_soundsOf 59 = .ok (.iload 5, 2) := by decide +kernel
theorem dX10_soundsOf_61 : decode cX10_soundsOf 61 = .ok (.ifCond .ne 7, 3) := by decide +kernel
theorem dX10_soundsOf_64 : decode cX10_soundsOf 64 = .ok (.iconst 0, 1) := by decide +kernel
theorem dX10_soundsOf_65 : decode cX10_soundsOf 65 = .ok (.goto 19, 3) := by decide +kernel
theorem dX10_soundsOf_68 : decode cX10_soundsOf 68 = .ok (.iload_n 2, 1) := by decide +kernel
theorem dX10_soundsOf_69 : decode cX10_soundsOf 69 = .ok (.iconst 4, 1) := by decide +kernel
theorem dX10_soundsOf_70 : decode cX10_soundsOf 70 = .ok (.if_icmp .ne 13, 3) := by decide +kernel
theorem dX10_soundsOf_73 : decode cX10_soundsOf 73 = .ok (.aload_n 0, 1) := by decide +kernel
theorem dX10_soundsOf_74 : decode cX10_soundsOf 74 = .ok (.iload 4, 2) := by decide +kernel
theorem dX10_soundsOf_76 : decode cX10_soundsOf 76 = .ok (.iconst 2, 1) := by decide +kernel
theorem dX10_soundsOf_77 : decode cX10_soundsOf 77 = .ok (.invokevirtual 62, 3) := by decide +kernel
theorem dX10_soundsOf_80 : decode cX10_soundsOf 80 = .ok (.goto 4, 3) := by decide +kernel
theorem dX10_soundsOf_83 : decode cX10_soundsOf 83 = .ok (.iconst 1, 1) := by decide +kernel
theorem dX10_soundsOf_84 : decode cX10_soundsOf 84 = .ok (.iadd, 1) := by decide +kernel
theorem dX10_soundsOf_85 : decode cX10_soundsOf 85 = .ok (.istore_n 3, 1) := by decide +kernel
theorem dX10_soundsOf_86 : decode cX10_soundsOf 86 = .ok (.iinc 4 1, 3) := by decide +kernel
theorem dX10_soundsOf_89 : decode cX10_soundsOf 89 = .ok (.goto (-84), 3) := by decide +kernel
theorem dX10_soundsOf_92 : decode cX10_soundsOf 92 = .ok (.iload_n 3, 1) := by decide +kernel
theorem dX10_soundsOf_93 : decode cX10_soundsOf 93 = .ok (.ireturn, 1) := by decide +kernel
theorem dX10_tinOf_0 : decode cX10_tinOf 0 = .ok (.aload_n 0, 1) := by decide +kernel
theorem dX10_tinOf_1 : decode cX10_tinOf 1 = .ok (.iload_n 1, 1) := by decide +kernel
theorem dX10_tinOf_2 : decode cX10_tinOf 2 = .ok (.invokestatic 89, 3) := by decide +kernel
theorem dX10_tinOf_5 : decode cX10_tinOf 5 = .ok (.ifCond .ne 7, 3) := by decide +kernel
theorem dX10_tinOf_8 : decode cX10_tinOf 8 = .ok (.iconst 1, 1) := by decide +kernel
theorem dX10_tinOf_9 : decode cX10_tinOf 9 = .ok (.goto 17, 3) := by decide +kernel
theorem dX10_tinOf_12 : decode cX10_tinOf 12 = .ok (.iload_n 2, 1) := by decide +kernel
theorem dX10_tinOf_13 : decode cX10_tinOf 13 = .ok (.iconst 0, 1) := by decide +kernel
theorem dX10_tinOf_14 : decode cX10_tinOf 14 = .ok (.iconst 4, 1) := by decide +kernel
theorem dX10_tinOf_15 : decode cX10_tinOf 15 = .ok (.invokestatic 58, 3) := by decide +kernel
theorem dX10_tinOf_18 : decode cX10_tinOf 18 = .ok (.ifCond .ne 7, 3) := by decide +kernel
theorem dX10_tinOf_21 : decode cX10_tinOf 21 = .ok (.iconst 2, 1) := by decide +kernel
theorem dX10_tinOf_22 : decode cX10_tinOf 22 = .ok (.goto 4, 3) := by decide +kernel
theorem dX10_tinOf_25 : decode cX10_tinOf 25 = .ok (.iconst 0, 1) := by decide +kernel
theorem dX10_tinOf_26 : decode cX10_tinOf 26 = .ok (.putfield 36, 3) := by decide +kernel
theorem dX10_tinOf_29 : decode cX10_tinOf 29 = .ok (.aload_n 0, 1) := by decide +kernel
theorem dX10_tinOf_30 : decode cX10_tinOf 30 = .ok (.getfield 36, 3) := by decide +kernel
theorem dX10_tinOf_33 : decode cX10_tinOf 33 = .ok (.ifCond .le 7, 3) := by decide +kernel
theorem dX10_tinOf_36 : decode cX10_tinOf 36 = .ok (.iconst 0, 1) := by decide +kernel
theorem dX10_tinOf_37 : decode cX10_tinOf 37 = .ok (.goto 30, 3) := by decide +kernel
theorem dX10_tinOf_40 : decode cX10_tinOf 40 = .ok (.iload_n 2, 1) := by decide +kernel
theorem dX10_tinOf_41 : decode cX10_tinOf 41 = .ok (.iconst 2, 1) := by decide +kernel
theorem dX10_tinOf_42 : decode cX10_tinOf 42 = .ok (.if_icmp .ge 19, 3) := by decide +kernel
theorem dX10_tinOf_45 : decode cX10_tinOf 45 = .ok (.aload_n 0, 1) := by decide +kernel
theorem dX10_tinOf_46 : decode cX10_tinOf 46 = .ok (.getfield 9, 3) := by decide +kernel
theorem dX10_tinOf_49 : decode cX10_tinOf 49 = .ok (.bipush 11, 2) := by decide +kernel
theorem dX10_tinOf_51 : decode cX10_tinOf 51 = .ok (.iconst 2, 1) := by decide +kernel
theorem dX10_tinOf_52 : decode cX10_tinOf 52 = .ok (.iload_n 1, 1) := by decide +kernel
theorem dX10_tinOf_53 : decode cX10_tinOf 53 = .ok (.imul, 1) := by decide +kernel
theorem dX10_tinOf_54 : decode cX10_tinOf 54 = .ok (.iadd, 1) := by decide +kernel
theorem dX10_tinOf_55 : decode cX10_tinOf 55 = .ok (.iload_n 2, 1) := by decide +kernel
theorem dX10_tinOf_56 : decode cX10_tinOf 56 = .ok (.iadd, 1) := by decide +kernel
theorem dX10_tinOf_57 : decode cX10_tinOf 57 = .ok (.iaload, 1) := by decide +kernel
theorem dX10_tinOf_58 : decode cX10_tinOf 58 = .ok (.goto 9, 3) := by decide +kernel
theorem dX10_tinOf_61 : decode cX10_tinOf 61 = .ok (.aload_n 0, 1) := by decide +kernel
theorem dX10_tinOf_62 : decode cX10_tinOf 62 = .ok (.iload_n 1, 1) := by decide +kernel
theorem dX10_tinOf_63 : decode cX10_tinOf 63 = .ok (.iload_n 2, 1) := by decide +kernel
theorem dX10_tinOf_64 : decode cX10_tinOf 64 = .ok (.invokevirtual 137, 3) := by decide +kernel
theorem dX10_tinOf_67 : decode cX10_tinOf 67 = .ok (.ireturn, 1) := by decide +kernel
theorem dX10_barAt_0 : decode cX10_barAt 0 = .ok (.iconst 0, 1) := by decide +kernel
theorem dX10_barAt_1 : decode cX10_barAt 1 = .ok (.istore_n 2, 1) := by decide +kernel
theorem dX10_barAt_2 : decode cX10_barAt 2 = .ok (.iload_n 1, 1) := by decide +kernel
theorem dX10_barAt_3 : decode cX10_barAt 3 = .ok (.aload_n 0, 1) := by decide +kernel
theorem dX10_barAt_4 : decode cX10_barAt 4 = .ok (.iload_n 2, 1) := by decide +kernel
theorem dX10_barAt_5 : decode cX10_barAt 5 = .ok (.iconst 1, 1) := by decide +kernel
theorem dX10_barAt_6 : decode cX10_barAt 6 = .ok (.iadd, 1) := by decide +kernel
theorem dX10_barAt_7 : decode cX10_barAt 7 = .ok (.invokevirtual 66, 3) := by decide +kernel
theorem dX10_barAt_10 : decode cX10_barAt 10 = .ok (.if_icmp .lt 9, 3) := by decide +kernel
theorem dX10_barAt_13 : decode cX10_barAt 13 = .ok (.iinc 2 1, 3) := by decide +kernel
theorem dX10_barAt_16 : decode cX10_barAt 16 = .ok (.goto (-14), 3) := by decide +kernel
theorem dX10_barAt_19 : decode cX10_barAt 19 = .ok (.iload_n 2, 1) := by decide +kernel
theorem dX10_barAt_20 : decode cX10_barAt 20 = .ok (.ireturn, 1) := by decide +kernel
theorem dX10_soundOf_0 : decode cX10_soundOf 0 = .ok (.aload_n 0, 1) := by decide +kernel
theorem dX10_soundOf_1 : decode cX10_soundOf 1 = .ok (.aload_n 0, 1) := by decide +kernel
theorem dX10_soundOf_2 : decode cX10_soundOf 2 = .ok (.iload_n 1, 1) := by decide +kernel
theorem dX10_soundOf_3 : decode cX10_soundOf 3 = .ok (.invokevirtual 117, 3) := by decide +kernel
theorem dX10_soundOf_6 : decode cX10_soundOf 6 = .ok (.ifCond .ne 7, 3) := by decide +kernel
theorem dX10_soundOf_9 : decode cX10_soundOf 9 = .ok (.iconst 1, 1) := by decide +kernel
theorem dX10_soundOf_10 : decode cX10_soundOf 10 = .ok (.goto 18, 3) := by decide +kernel
theorem dX10_soundOf_13 : decode cX10_soundOf 13 = .ok (.iload_n 2, 1) := by decide +kernel
theorem dX10_soundOf_14 : decode cX10_soundOf 14 = .ok (.iconst 0, 1) := by decide +kernel
theorem dX10_soundOf_15 : decode cX10_soundOf 15 = .ok (.bipush 6, 2) := by decide +kernel
theorem dX10_soundOf_17 : decode cX10_soundOf 17 = .ok (.invokestatic 58, 3) := by decide +kernel
theorem dX10_soundOf_20 : decode cX10_soundOf 20 = .ok (.ifCond .ne 7, 3) := by decide +kernel
theorem dX10_soundOf_23 : decode cX10_soundOf 23 = .ok (.iconst 2, 1) := by decide +kernel
theorem dX10_soundOf_24 : decode cX10_soundOf 24 = .ok (.goto 4, 3) := by decide +kernel
theorem dX10_soundOf_27 : decode cX10_soundOf 27 = .ok (.iconst 0, 1) := by decide +kernel
theorem dX10_soundOf_28 : decode cX10_soundOf 28 = .ok (.putfield 36, 3) := by decide +kernel
theorem dX10_soundOf_31 : decode cX10_soundOf 31 = .ok (.aload_n 0, 1) := by decide +kernel
theorem dX10_soundOf_32 : decode cX10_soundOf 32 = .ok (.getfield 36, 3) := by decide +kernel
theorem dX10_soundOf_35 : decode cX10_soundOf 35 = .ok (.ifCond .le 5, 3) := by decide +kernel
theorem dX10_soundOf_38 : decode cX10_soundOf 38 = .ok (.iconst 0, 1) := by decide +kernel
theorem dX10_soundOf_39 : decode cX10_soundOf 39 = .ok (.ireturn, 1) := by decide +kernel
theorem dX10_soundOf_40 : decode cX10_soundOf 40 = .ok (.iload_n 2, 1) := by decide +kernel
theorem dX10_soundOf_41 : decode cX10_soundOf 41 = .ok (.tableswitch 71 3 6 #[31, 49, 55, 61], 31) := by decide +kernel
theorem dX10_soundOf_72 : decode cX10_soundOf 72 = .ok (.aload_n 0, 1) := by decide +kernel
theorem dX10_soundOf_73 : decode cX10_soundOf 73 = .ok (.iload_n 1, 1) := by decide +kernel
theorem dX10_soundOf_74 : decode cX10_soundOf 74 = .ok (.invokevirtual 134, 3) := by decide +kernel
theorem dX10_soundOf_77 : decode cX10_soundOf 77 = .ok (.ifCond .eq 11, 3) := by decide +kernel
theorem dX10_soundOf_80 : decode cX10_soundOf 80 = .ok (.aload_n 0, 1) := by decide +kernel
theorem dX10_soundOf_81 : decode cX10_soundOf 81 = .ok (.iload_n 1, 1) := by decide +kernel
theorem dX10_soundOf_82 : decode cX10_soundOf 82 = .ok (.invokevirtual 140, 3) := by decide +kernel
theorem dX10_soundOf_85 : decode cX10_soundOf 85 = .ok (.goto 4, 3) := by decide +kernel
theorem dX10_soundOf_88 : decode cX10_soundOf 88 = .ok (.iconst (-1), 1) := by decide +kernel
theorem dX10_soundOf_89 : decode cX10_soundOf 89 = .ok (.ireturn, 1) := by decide +kernel
theorem dX10_soundOf_90 : decode cX10_soundOf 90 = .ok (.aload_n 0, 1) := by decide +kernel
theorem dX10_soundOf_91 : decode cX10_soundOf 91 = .ok (.iload_n 1, 1) := by decide +kernel
theorem dX10_soundOf_92 : decode cX10_soundOf 92 = .ok (.invokevirtual 143, 3) := by decide +kernel
theorem dX10_soundOf_95 : decode cX10_soundOf 95 = .ok (.ireturn, 1) := by decide +kernel
theorem dX10_soundOf_96 : decode cX10_soundOf 96 = .ok (.aload_n 0, 1) := by decide +kernel
theorem dX10_soundOf_97 : decode cX10_soundOf 97 = .ok (.iload_n 1, 1) := by decide +kernel
theorem dX10_soundOf_98 : decode cX10_soundOf 98 = .ok (.invokevirtual 70, 3) := by decide +kernel
theorem dX10_soundOf_101 : decode cX10_soundOf 101 = .ok (.ireturn, 1) := by decide +kernel
theorem dX10_soundOf_102 : decode cX10_soundOf 102 = .ok (.aload_n 0, 1) := by decide +kernel
theorem dX10_soundOf_103 : decode cX10_soundOf 103 = .ok (.aload_n 0, 1) := by decide +kernel
theorem dX10_soundOf_104 : decode cX10_soundOf 104 = .ok (.iload_n 1, 1) := by decide +kernel
theorem dX10_soundOf_105 : decode cX10_soundOf 105 = .ok (.invokevirtual 70, 3) := by decide +kernel
theorem dX10_soundOf_108 : decode cX10_soundOf 108 = .ok (.invokevirtual 146, 3) := by decide +kernel
theorem dX10_soundOf_111 : decode cX10_soundOf 111 = .ok (.ireturn, 1) := by decide +kernel
theorem dX10_soundOf_112 : decode cX10_soundOf 112 = .ok (.aload_n 0, 1) := by decide +kernel
theorem dX10_soundOf_113 : decode cX10_soundOf 113 = .ok (.iload_n 1, 1) := by decide +kernel
theorem dX10_soundOf_114 : decode cX10_soundOf 114 = .ok (.iload_n 2, 1) := by decide +kernel
theorem dX10_soundOf_115 : decode cX10_soundOf 115 = .ok (.invokevirtual 62, 3) := by decide +kernel
theorem dX10_soundOf_118 : decode cX10_soundOf 118 = .ok (.ireturn, 1) := by decide +kernel
theorem dX10_begunIn_0 : decode cX10_begunIn 0 = .ok (.iconst 0, 1) := by decide +kernel
theorem dX10_begunIn_1 : decode cX10_begunIn 1 = .ok (.istore_n 2, 1) := by decide +kernel
theorem dX10_begunIn_2 : decode cX10_begunIn 2 = .ok (.iconst 0, 1) := by decide +kernel
theorem dX10_begunIn_3 : decode cX10_begunIn 3 = .ok (.istore_n 3, 1) := by decide +kernel
theorem dX10_begunIn_4 : decode cX10_begunIn 4 = .ok (.iload_n 3, 1) := by decide +kernel
theorem dX10_begunIn_5 : decode cX10_begunIn 5 = .ok (.aload_n 0, 1) := by decide +kernel
theorem dX10_begunIn_6 : decode cX10_begunIn 6 = .ok (.getfield 9, 3) := by decide +kernel
theorem dX10_begunIn_9 : decode cX10_begunIn 9 = .ok (.iconst 1, 1) := by decide +kernel
theorem dX10_begunIn_10 : decode cX10_begunIn 10 = .ok (.iaload, 1) := by decide +kernel
theorem dX10_begunIn_11 : decode cX10_begunIn 11 = .ok (.if_icmp .ge 30, 3) := by decide +kernel
theorem dX10_begunIn_14 : decode cX10_begunIn 14 = .ok (.iload_n 2, 1) := by decide +kernel
theorem dX10_begunIn_15 : decode cX10_begunIn 15 = .ok (.aload_n 0, 1) := by decide +kernel
theorem dX10_begunIn_16 : decode cX10_begunIn 16 = .ok (.aload_n 0, 1) := by decide +kernel
theorem dX10_begunIn_17 : decode cX10_begunIn 17 = .ok (.iload_n 3, 1) := by decide +kernel
theorem dX10_begunIn_18 : decode cX10_begunIn 18 = .ok (.invokevirtual 70, 3) := by decide +kernel
theorem dX10_begunIn_21 : decode cX10_begunIn 21 = .ok (.invokevirtual 146, 3) := by decide +kernel
theorem dX10_begunIn_24 : decode cX10_begunIn 24 = .ok (.iload_n 1, 1) := by decide +kernel
theorem dX10_begunIn_25 : decode cX10_begunIn 25 = .ok (.if_icmp .ne 7, 3) := by decide +kernel
theorem dX10_begunIn_28 : decode cX10_begunIn 28 = .ok (.iconst 1, 1) := by decide +kernel
theorem dX10_begunIn_29 : decode cX10_begunIn 29 = .ok (.goto 4, 3) := by decide +kernel
theorem dX10_begunIn_32 : decode cX10_begunIn 32 = .ok (.iconst 0, 1) := by decide +kernel
theorem dX10_begunIn_33 : decode cX10_begunIn 33 = .ok (.iadd, 1) := by decide +kernel
theorem dX10_begunIn_34 : decode cX10_begunIn 34 = .ok (.istore_n 2, 1) := by decide +kernel
theorem dX10_begunIn_35 : decode cX10_begunIn 35 = .ok (.iinc 3 1, 3) := by decide +kernel
theorem dX10_begunIn_38 : decode cX10_begunIn 38 = .ok (.goto (-34), 3) := by decide +kernel
theorem dX10_begunIn_41 : decode cX10_begunIn 41 = .ok (.iload_n 2, 1) := by decide +kernel
theorem dX10_begunIn_42 : decode cX10_begunIn 42 = .ok (.ireturn, 1) := by decide +kernel
theorem dX10_barOf_0 : decode cX10_barOf 0 = .ok (.aload_n 0, 1) := by decide +kernel
theorem dX10_barOf_1 : decode cX10_barOf 1 = .ok (.aload_n 0, 1) := by decide +kernel
theorem dX10_barOf_2 : decode cX10_barOf 2 = .ok (.iload_n 1, 1) := by decide +kernel
theorem dX10_barOf_3 : decode cX10_barOf 3 = .ok (.invokevirtual 149, 3) := by decide +kernel
theorem dX10_barOf_6 : decode cX10_barOf 6 = .ok (.ifCond .ne 7, 3) := by decide +kernel
theorem dX10_barOf_9 : decode cX10_barOf 9 = .ok (.iconst 1, 1) := by decide +kernel
theorem dX10_barOf_10 : decode cX10_barOf 10 = .ok (.goto 17, 3) := by decide +kernel
theorem dX10_barOf_13 : decode cX10_barOf 13 = .ok (.iload_n 2, 1) := by decide +kernel
theorem dX10_barOf_14 : decode cX10_barOf 14 = .ok (.iconst 0, 1) := by decide +kernel
theorem dX10_barOf_15 : decode cX10_barOf 15 = .ok (.iconst 4, 1) := by decide +kernel
theorem dX10_barOf_16 : decode cX10_barOf 16 = .ok (.invokestatic 58, 3) := by decide +kernel
theorem dX10_barOf_19 : decode cX10_barOf 19 = .ok (.ifCond .ne 7, 3) := by decide +kernel
theorem dX10_barOf_22 : decode cX10_barOf 22 = .ok (.iconst 2, 1) := by decide +kernel
theorem dX10_barOf_23 : decode cX10_barOf 23 = .ok (.goto 4, 3) := by decide +kernel
theorem dX10_barOf_26 : decode cX10_barOf 26 = .ok (.iconst 0, 1) := by decide +kernel
theorem dX10_barOf_27 : decode cX10_barOf 27 = .ok (.putfield 36, 3) := by decide +kernel
theorem dX10_barOf_30 : decode cX10_barOf 30 = .ok (.aload_n 0, 1) := by decide +kernel
theorem dX10_barOf_31 : decode cX10_barOf 31 = .ok (.getfield 36, 3) := by decide +kernel
theorem dX10_barOf_34 : decode cX10_barOf 34 = .ok (.ifCond .le 5, 3) := by decide +kernel
theorem dX10_barOf_37 : decode cX10_barOf 37 = .ok (.iconst 0, 1) := by decide +kernel
theorem dX10_barOf_38 : decode cX10_barOf 38 = .ok (.ireturn, 1) := by decide +kernel
theorem dX10_barOf_39 : decode cX10_barOf 39 = .ok (.iload_n 2, 1) := by decide +kernel
theorem dX10_barOf_40 : decode cX10_barOf 40 = .ok (.tableswitch 59 0 3 #[32, 41, 47, 53], 32) := by decide +kernel
theorem dX10_barOf_72 : decode cX10_barOf 72 = .ok (.aload_n 0, 1) := by decide +kernel
theorem dX10_barOf_73 : decode cX10_barOf 73 = .ok (.getfield 9, 3) := by decide +kernel
theorem dX10_barOf_76 : decode cX10_barOf 76 = .ok (.iconst 5, 1) := by decide +kernel
theorem dX10_barOf_77 : decode cX10_barOf 77 = .ok (.iload_n 1, 1) := by decide +kernel
theorem dX10_barOf_78 : decode cX10_barOf 78 = .ok (.iadd, 1) := by decide +kernel
theorem dX10_barOf_79 : decode cX10_barOf 79 = .ok (.iaload, 1) := by decide +kernel
theorem dX10_barOf_80 : decode cX10_barOf 80 = .ok (.ireturn, 1) := by decide +kernel
theorem dX10_barOf_81 : decode cX10_barOf 81 = .ok (.aload_n 0, 1) := by decide +kernel
theorem dX10_barOf_82 : decode cX10_barOf 82 = .ok (.iload_n 1, 1) := by decide +kernel
theorem dX10_barOf_83 : decode cX10_barOf 83 = .ok (.invokevirtual 152, 3) := by decide +kernel
theorem dX10_barOf_86 : decode cX10_barOf 86 = .ok (.ireturn, 1) := by decide +kernel
theorem dX10_barOf_87 : decode cX10_barOf 87 = .ok (.aload_n 0, 1) := by decide +kernel
theorem dX10_barOf_88 : decode cX10_barOf 88 = .ok (.iload_n 1, 1) := by decide +kernel
theorem dX10_barOf_89 : decode cX10_barOf 89 = .ok (.invokevirtual 155, 3) := by decide +kernel
theorem dX10_barOf_92 : decode cX10_barOf 92 = .ok (.ireturn, 1) := by decide +kernel
theorem dX10_barOf_93 : decode cX10_barOf 93 = .ok (.aload_n 0, 1) := by decide +kernel
theorem dX10_barOf_94 : decode cX10_barOf 94 = .ok (.iload_n 1, 1) := by decide +kernel
theorem dX10_barOf_95 : decode cX10_barOf 95 = .ok (.invokevirtual 158, 3) := by decide +kernel
theorem dX10_barOf_98 : decode cX10_barOf 98 = .ok (.ireturn, 1) := by decide +kernel
theorem dX10_barOf_99 : decode cX10_barOf 99 = .ok (.aload_n 0, 1) := by decide +kernel
theorem dX10_barOf_100 : decode cX10_barOf 100 = .ok (.iload_n 1, 1) := by decide +kernel
theorem dX10_barOf_101 : decode cX10_barOf 101 = .ok (.invokevirtual 66, 3) := by decide +kernel
theorem dX10_barOf_104 : decode cX10_barOf 104 = .ok (.ireturn, 1) := by decide +kernel
theorem dX10_partAt_0 : decode cX10_partAt 0 = .ok (.iconst (-1), 1) := by decide +kernel
theorem dX10_partAt_1 : decode cX10_partAt 1 = .ok (.istore_n 3, 1) := by decide +kernel
theorem dX10_partAt_2 : decode cX10_partAt 2 = .ok (.iconst 0, 1) := by decide +kernel
theorem dX10_partAt_3 : decode cX10_partAt 3 = .ok (.istore 4, 2) := by decide +kernel
theorem dX10_partAt_5 : decode cX10_partAt 5 = .ok (.iconst 0, 1) := by decide +kernel
theorem dX10_partAt_6 : decode cX10_partAt 6 = .ok (.istore 5, 2) := by decide +kernel
theorem dX10_partAt_8 : decode cX10_partAt 8 = .ok (.iload 5, 2) := by decide +kernel
theorem dX10_partAt_10 : decode cX10_partAt 10 = .ok (.aload_n 0, 1) := by decide +kernel
theorem dX10_partAt_11 : decode cX10_partAt 11 = .ok (.getfield 9, 3) := by decide +kernel
theorem dX10_partAt_14 : decode cX10_partAt 14 = .ok (.iconst 1, 1) := by decide +kernel
theorem dX10_partAt_15 : decode cX10_partAt 15 = .ok (.iaload, 1) := by decide +kernel
theorem dX10_partAt_16 : decode cX10_partAt 16 = .ok (.if_icmp .ge 59, 3) := by decide +kernel
theorem dX10_partAt_19 : decode cX10_partAt 19 = .ok (.aload_n 0, 1) := by decide +kernel
theorem dX10_partAt_20 : decode cX10_partAt 20 = .ok (.iload 5, 2) := by decide +kernel
theorem dX10_partAt_22 : decode cX10_partAt 22 = .ok (.iload_n 1, 1) := by decide +kernel
theorem dX10_partAt_23 : decode cX10_partAt 23 = .ok (.invokevirtual 131, 3) := by decide +kernel
theorem dX10_partAt_26 : decode cX10_partAt 26 = .ok (.ifCond .le 7, 3) := by decide +kernel
theorem dX10_partAt_29 : decode cX10_partAt 29 = .ok (.iconst 1, 1) := by decide +kernel
theorem dX10_partAt_30 : decode cX10_partAt 30 = .ok (.goto 4, 3) := by decide +kernel
theorem dX10_partAt_33 : decode cX10_partAt 33 = .ok (.iconst 0, 1) := by decide +kernel
theorem dX10_partAt_34 : decode cX10_partAt 34 = .ok (.istore 6, 2) := by decide +kernel
theorem dX10_partAt_36 : decode cX10_partAt 36 = .ok (.iload 6, 2) := by decide +kernel
theorem dX10_partAt_38 : decode cX10_partAt 38 = .ok (.ifCond .eq 14, 3) := by decide +kernel
theorem dX10_partAt_41 : decode cX10_partAt 41 = .ok (.iload 4, 2) := by decide +kernel
theorem dX10_partAt_43 : decode cX10_partAt 43 = .ok (.iload_n 2, 1) := by decide +kernel
theorem dX10_partAt_44 : decode cX10_partAt 44 = .ok (.if_icmp .ne 8, 3) := by decide +kernel
theorem dX10_partAt_47 : decode cX10_partAt 47 = .ok (.iload 5, 2) := by decide +kernel
theorem dX10_partAt_49 : decode cX10_partAt 49 = .ok (.goto 4, 3) := by decide +kernel
theorem dX10_partAt_52 : decode cX10_partAt 52 = .ok (.iload_n 3, 1) := by decide +kernel
theorem dX10_partAt_53 : decode cX10_partAt 53 = .ok (.istore_n 3, 1) := by decide +kernel
theorem dX10_partAt_54 : decode cX10_partAt 54 = .ok (.iload 4, 2) := by decide +kernel
theorem dX10_partAt_56 : decode cX10_partAt 56 = .ok (.iload 6, 2) := by decide +kernel
theorem dX10_partAt_58 : decode cX10_partAt 58 = .ok (.ifCond .eq 7, 3) := by decide +kernel
theorem dX10_partAt_61 : decode cX10_partAt 61 = .ok (.iconst 1, 1) := by decide +kernel
theorem dX10_partAt_62 : decode cX10_partAt 62 = .ok (.goto 4, 3) := by decide +kernel
theorem dX10_partAt_65 : decode cX10_partAt 65 = .ok (.iconst 0, 1) := by decide +kernel
theorem dX10_partAt_66 : decode cX10_partAt 66 = .ok (.iadd, 1) := by decide +kernel
theorem dX10_partAt_67 : decode cX10_partAt 67 = .ok (.istore 4, 2) := by decide +kernel
theorem dX10_partAt_69 : decode cX10_partAt 69 = .ok (.iinc 5 1, 3) := by decide +kernel
theorem dX10_partAt_72 : decode cX10_partAt 72 = .ok (.goto (-64), 3) := by decide +kernel
theorem dX10_partAt_75 : decode cX10_partAt 75 = .ok (.iload_n 3, 1) := by decide +kernel
theorem dX10_partAt_76 : decode cX10_partAt 76 = .ok (.ireturn, 1) := by decide +kernel
theorem dX10_isTied_0 : decode cX10_isTied 0 = .ok (.aload_n 0, 1) := by decide +kernel
theorem dX10_isTied_1 : decode cX10_isTied 1 = .ok (.iload_n 1, 1) := by decide +kernel
theorem dX10_isTied_2 : decode cX10_isTied 2 = .ok (.invokevirtual 70, 3) := by decide +kernel
theorem dX10_isTied_5 : decode cX10_isTied 5 = .ok (.aload_n 0, 1) := by decide +kernel
theorem dX10_isTied_6 : decode cX10_isTied 6 = .ok (.iload_n 2, 1) := by decide +kernel
theorem dX10_isTied_7 : decode cX10_isTied 7 = .ok (.invokevirtual 66, 3) := by decide +kernel
theorem dX10_isTied_10 : decode cX10_isTied 10 = .ok (.if_icmp .ge 7, 3) := by decide +kernel
theorem dX10_isTied_13 : decode cX10_isTied 13 = .ok (.iconst 1, 1) := by decide +kernel
theorem dX10_isTied_14 : decode cX10_isTied 14 = .ok (.goto 4, 3) := by decide +kernel
theorem dX10_isTied_17 : decode cX10_isTied 17 = .ok (.iconst 0, 1) := by decide +kernel
theorem dX10_isTied_18 : decode cX10_isTied 18 = .ok (.ireturn, 1) := by decide +kernel
theorem dX10_partOf_0 : decode cX10_partOf 0 = .ok (.aload_n 0, 1) := by decide +kernel
theorem dX10_partOf_1 : decode cX10_partOf 1 = .ok (.aload_n 0, 1) := by decide +kernel
theorem dX10_partOf_2 : decode cX10_partOf 2 = .ok (.iload_n 1, 1) := by decide +kernel
theorem dX10_partOf_3 : decode cX10_partOf 3 = .ok (.invokevirtual 149, 3) := by decide +kernel
theorem dX10_partOf_6 : decode cX10_partOf 6 = .ok (.ifCond .eq 18, 3) := by decide +kernel
theorem dX10_partOf_9 : decode cX10_partOf 9 = .ok (.iload_n 2, 1) := by decide +kernel
theorem dX10_partOf_10 : decode cX10_partOf 10 = .ok (.iconst 0, 1) := by decide +kernel
theorem dX10_partOf_11 : decode cX10_partOf 11 = .ok (.aload_n 0, 1) := by decide +kernel
theorem dX10_partOf_12 : decode cX10_partOf 12 = .ok (.iload_n 1, 1) := by decide +kernel
theorem dX10_partOf_13 : decode cX10_partOf 13 = .ok (.invokevirtual 155, 3) := by decide +kernel
theorem dX10_partOf_16 : decode cX10_partOf 16 = .ok (.iconst 1, 1) := by decide +kernel
theorem dX10_partOf_17 : decode cX10_partOf 17 = .ok (.isub, 1) := by decide +kernel
theorem dX10_partOf_18 : decode cX10_partOf 18 = .ok (.invokestatic 58, 3) := by decide +kernel
theorem dX10_partOf_21 : decode cX10_partOf 21 = .ok (.ifCond .ne 7, 3) := by decide +kernel
theorem dX10_partOf_24 : decode cX10_partOf 24 = .ok (.iconst 1, 1) := by decide +kernel
theorem dX10_partOf_25 : decode cX10_partOf 25 = .ok (.goto 17, 3) := by decide +kernel
theorem dX10_partOf_28 : decode cX10_partOf 28 = .ok (.iload_n 3, 1) := by decide +kernel
theorem dX10_partOf_29 : decode cX10_partOf 29 = .ok (.iconst 0, 1) := by decide +kernel
theorem dX10_partOf_30 : decode cX10_partOf 30 = .ok (.iconst 2, 1) := by decide +kernel
theorem dX10_partOf_31 : decode cX10_partOf 31 = .ok (.invokestatic 58, 3) := by decide +kernel
theorem dX10_partOf_34 : decode cX10_partOf 34 = .ok (.ifCond .ne 7, 3) := by decide +kernel
theorem dX10_partOf_37 : decode cX10_partOf 37 = .ok (.iconst 2, 1) := by decide +kernel
theorem dX10_partOf_38 : decode cX10_partOf 38 = .ok (.goto 4, 3) := by decide +kernel
theorem dX10_partOf_41 : decode cX10_partOf 41 = .ok (.iconst 0, 1) := by decide +kernel
theorem dX10_partOf_42 : decode cX10_partOf 42 = .ok (.putfield 36, 3) := by decide +kernel
theorem dX10_partOf_45 : decode cX10_partOf 45 = .ok (.aload_n 0, 1) := by decide +kernel
theorem dX10_partOf_46 : decode cX10_partOf 46 = .ok (.getfield 36, 3) := by decide +kernel
theorem dX10_partOf_49 : decode cX10_partOf 49 = .ok (.ifCond .le 5, 3) := by decide +kernel
theorem dX10_partOf_52 : decode cX10_partOf 52 = .ok (.iconst 0, 1) := by decide +kernel
theorem dX10_partOf_53 : decode cX10_partOf 53 = .ok (.ireturn, 1) := by decide +kernel
theorem dX10_partOf_54 : decode cX10_partOf 54 = .ok (.aload_n 0, 1) := by decide +kernel
theorem dX10_partOf_55 : decode cX10_partOf 55 = .ok (.iload_n 1, 1) := by decide +kernel
theorem dX10_partOf_56 : decode cX10_partOf 56 = .ok (.iload_n 2, 1) := by decide +kernel
theorem dX10_partOf_57 : decode cX10_partOf 57 = .ok (.invokevirtual 161, 3) := by decide +kernel
theorem dX10_partOf_60 : decode cX10_partOf 60 = .ok (.istore 4, 2) := by decide +kernel
theorem dX10_partOf_62 : decode cX10_partOf 62 = .ok (.iload_n 3, 1) := by decide +kernel
theorem dX10_partOf_63 : decode cX10_partOf 63 = .ok (.ifCond .ne 8, 3) := by decide +kernel
theorem dX10_partOf_66 : decode cX10_partOf 66 = .ok (.iload 4, 2) := by decide +kernel
theorem dX10_partOf_68 : decode cX10_partOf 68 = .ok (.goto 33, 3) := by decide +kernel
theorem dX10_partOf_71 : decode cX10_partOf 71 = .ok (.iload_n 3, 1) := by decide +kernel
theorem dX10_partOf_72 : decode cX10_partOf 72 = .ok (.iconst 1, 1) := by decide +kernel
theorem dX10_partOf_73 : decode cX10_partOf 73 = .ok (.if_icmp .ne 13, 3) := by decide +kernel
theorem dX10_partOf_76 : decode cX10_partOf 76 = .ok (.aload_n 0, 1) := by decide +kernel
theorem dX10_partOf_77 : decode cX10_partOf 77 = .ok (.iload 4, 2) := by decide +kernel
theorem dX10_partOf_79 : decode cX10_partOf 79 = .ok (.iload_n 1, 1) := by decide +kernel
theorem dX10_partOf_80 : decode cX10_partOf 80 = .ok (.invokevirtual 131, 3) := by decide +kernel
theorem dX10_partOf_83 : decode cX10_partOf 83 = .ok (.goto 18, 3) := by decide +kernel
theorem dX10_partOf_86 : decode cX10_partOf 86 = .ok (.aload_n 0, 1) := by decide +kernel
theorem dX10_partOf_87 : decode cX10_partOf 87 = .ok (.iload 4, 2) := by decide +kernel
theorem dX10_partOf_89 : decode cX10_partOf 89 = .ok (.iload_n 1, 1) := by decide +kernel
theorem dX10_partOf_90 : decode cX10_partOf 90 = .ok (.invokevirtual 164, 3) := by decide +kernel
theorem dX10_partOf_93 : decode cX10_partOf 93 = .ok (.ifCond .eq 7, 3) := by decide +kernel
theorem dX10_partOf_96 : decode cX10_partOf 96 = .ok (.iconst 1, 1) := by decide +kernel
theorem dX10_partOf_97 : decode cX10_partOf 97 = .ok (.goto 4, 3) := by decide +kernel
theorem dX10_partOf_100 : decode cX10_partOf 100 = .ok (.iconst 0, 1) := by decide +kernel
theorem dX10_partOf_101 : decode cX10_partOf 101 = .ok (.ireturn, 1) := by decide +kernel
theorem dX10_at_0 : decode cX10_at 0 = .ok (.aload_n 0, 1) := by decide +kernel
theorem dX10_at_1 : decode cX10_at 1 = .ok (.iload_n 1, 1) := by decide +kernel
theorem dX10_at_2 : decode cX10_at 2 = .ok (.invokevirtual 168, 3) := by decide +kernel
theorem dX10_at_5 : decode cX10_at 5 = .ok (.istore_n 2, 1) := by decide +kernel
theorem dX10_at_6 : decode cX10_at 6 = .ok (.aload_n 0, 1) := by decide +kernel
theorem dX10_at_7 : decode cX10_at 7 = .ok (.iload_n 2, 1) := by decide +kernel
theorem dX10_at_8 : decode cX10_at 8 = .ok (.ifCond .ge 7, 3) := by decide +kernel
theorem dX10_at_11 : decode cX10_at 11 = .ok (.iconst 1, 1) := by decide +kernel
theorem dX10_at_12 : decode cX10_at 12 = .ok (.goto 4, 3) := by decide +kernel
theorem dX10_at_15 : decode cX10_at 15 = .ok (.iconst 0, 1) := by decide +kernel
theorem dX10_at_16 : decode cX10_at 16 = .ok (.putfield 36, 3) := by decide +kernel
theorem dX10_at_19 : decode cX10_at 19 = .ok (.aload_n 0, 1) := by decide +kernel
theorem dX10_at_20 : decode cX10_at 20 = .ok (.getfield 36, 3) := by decide +kernel
theorem dX10_at_23 : decode cX10_at 23 = .ok (.ifCond .le 7, 3) := by decide +kernel
theorem dX10_at_26 : decode cX10_at 26 = .ok (.iconst 0, 1) := by decide +kernel
theorem dX10_at_27 : decode cX10_at 27 = .ok (.goto 4, 3) := by decide +kernel
theorem dX10_at_30 : decode cX10_at 30 = .ok (.iload_n 2, 1) := by decide +kernel
theorem dX10_at_31 : decode cX10_at 31 = .ok (.ireturn, 1) := by decide +kernel
theorem dX10_isFault_0 : decode cX10_isFault 0 = .ok (.iload_n 1, 1) := by decide +kernel
theorem dX10_isFault_1 : decode cX10_isFault 1 = .ok (.iconst 3, 1) := by decide +kernel
theorem dX10_isFault_2 : decode cX10_isFault 2 = .ok (.if_icmp .ne 31, 3) := by decide +kernel
theorem dX10_isFault_5 : decode cX10_isFault 5 = .ok (.aload_n 0, 1) := by decide +kernel
theorem dX10_isFault_6 : decode cX10_isFault 6 = .ok (.aload_n 0, 1) := by decide +kernel
theorem dX10_isFault_7 : decode cX10_isFault 7 = .ok (.iload_n 2, 1) := by decide +kernel
theorem dX10_isFault_8 : decode cX10_isFault 8 = .ok (.invokevirtual 66, 3) := by decide +kernel
theorem dX10_isFault_11 : decode cX10_isFault 11 = .ok (.invokevirtual 168, 3) := by decide +kernel
theorem dX10_isFault_14 : decode cX10_isFault 14 = .ok (.istore_n 3, 1) := by decide +kernel
theorem dX10_isFault_15 : decode cX10_isFault 15 = .ok (.iload_n 3, 1) := by decide +kernel
theorem dX10_isFault_16 : decode cX10_isFault 16 = .ok (.ifCond .lt 15, 3) := by decide +kernel
theorem dX10_isFault_19 : decode cX10_isFault 19 = .ok (.aload_n 0, 1) := by decide +kernel
theorem dX10_isFault_20 : decode cX10_isFault 20 = .ok (.iload_n 3, 1) := by decide +kernel
theorem dX10_isFault_21 : decode cX10_isFault 21 = .ok (.invokevirtual 134, 3) := by decide +kernel
theorem dX10_isFault_24 : decode cX10_isFault 24 = .ok (.ifCond .ne 7, 3) := by decide +kernel
theorem dX10_isFault_27 : decode cX10_isFault 27 = .ok (.iconst 1, 1) := by decide +kernel
theorem dX10_isFault_28 : decode cX10_isFault 28 = .ok (.goto 4, 3) := by decide +kernel
theorem dX10_isFault_31 : decode cX10_isFault 31 = .ok (.iconst 0, 1) := by decide +kernel
theorem dX10_isFault_32 : decode cX10_isFault 32 = .ok (.ireturn, 1) := by decide +kernel
theorem dX10_isFault_33 : decode cX10_isFault 33 = .ok (.iload_n 1, 1) := by decide +kernel
theorem dX10_isFault_34 : decode cX10_isFault 34 = .ok (.iconst 4, 1) := by decide +kernel
theorem dX10_isFault_35 : decode cX10_isFault 35 = .ok (.if_icmp .ne 30, 3) := by decide +kernel
theorem dX10_isFault_38 : decode cX10_isFault 38 = .ok (.aload_n 0, 1) := by decide +kernel
theorem dX10_isFault_39 : decode cX10_isFault 39 = .ok (.iload_n 2, 1) := by decide +kernel
theorem dX10_isFault_40 : decode cX10_isFault 40 = .ok (.invokevirtual 143, 3) := by decide +kernel
theorem dX10_isFault_43 : decode cX10_isFault 43 = .ok (.aload_n 0, 1) := by decide +kernel
theorem dX10_isFault_44 : decode cX10_isFault 44 = .ok (.iload_n 2, 1) := by decide +kernel
theorem dX10_isFault_45 : decode cX10_isFault 45 = .ok (.invokevirtual 134, 3) := by decide +kernel
theorem dX10_isFault_48 : decode cX10_isFault 48 = .ok (.ifCond .eq 7, 3) := by decide +kernel
theorem dX10_isFault_51 : decode cX10_isFault 51 = .ok (.iconst 2, 1) := by decide +kernel
theorem dX10_isFault_52 : decode cX10_isFault 52 = .ok (.goto 4, 3) := by decide +kernel
theorem dX10_isFault_55 : decode cX10_isFault 55 = .ok (.iconst 1, 1) := by decide +kernel
theorem dX10_isFault_56 : decode cX10_isFault 56 = .ok (.if_icmp .le 7, 3) := by decide +kernel
theorem dX10_isFault_59 : decode cX10_isFault 59 = .ok (.iconst 1, 1) := by decide +kernel
theorem dX10_isFault_60 : decode cX10_isFault 60 = .ok (.goto 4, 3) := by decide +kernel
theorem dX10_isFault_63 : decode cX10_isFault 63 = .ok (.iconst 0, 1) := by decide +kernel
theorem dX10_isFault_64 : decode cX10_isFault 64 = .ok (.ireturn, 1) := by decide +kernel
theorem dX10_isFault_65 : decode cX10_isFault 65 = .ok (.aload_n 0, 1) := by decide +kernel
theorem dX10_isFault_66 : decode cX10_isFault 66 = .ok (.iload_n 2, 1) := by decide +kernel
theorem dX10_isFault_67 : decode cX10_isFault 67 = .ok (.invokevirtual 171, 3) := by decide +kernel
theorem dX10_isFault_70 : decode cX10_isFault 70 = .ok (.istore_n 3, 1) := by decide +kernel
theorem dX10_isFault_71 : decode cX10_isFault 71 = .ok (.aload_n 0, 1) := by decide +kernel
theorem dX10_isFault_72 : decode cX10_isFault 72 = .ok (.iload_n 2, 1) := by decide +kernel
theorem dX10_isFault_73 : decode cX10_isFault 73 = .ok (.invokevirtual 134, 3) := by decide +kernel
theorem dX10_isFault_76 : decode cX10_isFault 76 = .ok (.ifCond .eq 7, 3) := by decide +kernel
theorem dX10_isFault_79 : decode cX10_isFault 79 = .ok (.iload_n 3, 1) := by decide +kernel
theorem dX10_isFault_80 : decode cX10_isFault 80 = .ok (.ifCond .ge 5, 3) := by decide +kernel
theorem dX10_isFault_83 : decode cX10_isFault 83 = .ok (.iconst 0, 1) := by decide +kernel
theorem dX10_isFault_84 : decode cX10_isFault 84 = .ok (.ireturn, 1) := by decide +kernel
theorem dX10_isFault_85 : decode cX10_isFault 85 = .ok (.iload_n 1, 1) := by decide +kernel
theorem dX10_isFault_86 : decode cX10_isFault 86 = .ok (.iconst 1, 1) := by decide +kernel
theorem dX10_isFault_87 : decode cX10_isFault 87 = .ok (.if_icmp .ne 32, 3) := by decide +kernel
theorem dX10_isFault_90 : decode cX10_isFault 90 = .ok (.aload_n 0, 1) := by decide +kernel
theorem dX10_isFault_91 : decode cX10_isFault 91 = .ok (.iload_n 2, 1) := by decide +kernel
theorem dX10_isFault_92 : decode cX10_isFault 92 = .ok (.invokevirtual 140, 3) := by decide +kernel
theorem dX10_isFault_95 : decode cX10_isFault 95 = .ok (.aload_n 0, 1) := by decide +kernel
theorem dX10_isFault_96 : decode cX10_isFault 96 = .ok (.iload_n 3, 1) := by decide +kernel
theorem dX10_isFault_97 : decode cX10_isFault 97 = .ok (.invokevirtual 140, 3) := by decide +kernel
theorem dX10_isFault_100 : decode cX10_isFault 100 = .ok (.isub, 1) := by decide +kernel
theorem dX10_isFault_101 : decode cX10_isFault 101 = .ok (.invokestatic 174, 3) := by decide +kernel
theorem dX10_isFault_104 : decode cX10_isFault 104 = .ok (.aload_n 0, 1) := by decide +kernel
theorem dX10_isFault_105 : decode cX10_isFault 105 = .ok (.getfield 9, 3) := by decide +kernel
theorem dX10_isFault_108 : decode cX10_isFault 108 = .ok (.iconst 2, 1) := by decide +kernel
theorem dX10_isFault_109 : decode cX10_isFault 109 = .ok (.iaload, 1) := by decide +kernel
theorem dX10_isFault_110 : decode cX10_isFault 110 = .ok (.if_icmp .le 7, 3) := by decide +kernel
theorem dX10_isFault_113 : decode cX10_isFault 113 = .ok (.iconst 1, 1) := by decide +kernel
theorem dX10_isFault_114 : decode cX10_isFault 114 = .ok (.goto 4, 3) := by decide +kernel
theorem dX10_isFault_117 : decode cX10_isFault 117 = .ok (.iconst 0, 1) := by decide +kernel
theorem dX10_isFault_118 : decode cX10_isFault 118 = .ok (.ireturn, 1) := by decide +kernel
theorem dX10_isFault_119 : decode cX10_isFault 119 = .ok (.aload_n 0, 1) := by decide +kernel
theorem dX10_isFault_120 : decode cX10_isFault 120 = .ok (.iload_n 3, 1) := by decide +kernel
theorem dX10_isFault_121 : decode cX10_isFault 121 = .ok (.invokevirtual 171, 3) := by decide +kernel
theorem dX10_isFault_124 : decode cX10_isFault 124 = .ok (.istore 4, 2) := by decide +kernel
theorem dX10_isFault_126 : decode cX10_isFault 126 = .ok (.iload 4, 2) := by decide +kernel
theorem dX10_isFault_128 : decode cX10_isFault 128 = .ok (.ifCond .lt 34, 3) := by decide +kernel
theorem dX10_isFault_131 : decode cX10_isFault 131 = .ok (.aload_n 0, 1) := by decide +kernel
theorem dX10_isFault_132 : decode cX10_isFault 132 = .ok (.iload_n 2, 1) := by decide +kernel
theorem dX10_isFault_133 : decode cX10_isFault 133 = .ok (.invokevirtual 140, 3) := by decide +kernel
theorem dX10_isFault_136 : decode cX10_isFault 136 = .ok (.aload_n 0, 1) := by decide +kernel
theorem dX10_isFault_137 : decode cX10_isFault 137 = .ok (.iload_n 3, 1) := by decide +kernel
theorem dX10_isFault_138 : decode cX10_isFault 138 = .ok (.invokevirtual 140, 3) := by decide +kernel
theorem dX10_isFault_141 : decode cX10_isFault 141 = .ok (.if_icmp .ne 21, 3) := by decide +kernel
theorem dX10_isFault_144 : decode cX10_isFault 144 = .ok (.aload_n 0, 1) := by decide +kernel
theorem dX10_isFault_145 : decode cX10_isFault 145 = .ok (.iload_n 2, 1) := by decide +kernel
theorem dX10_isFault_146 : decode cX10_isFault 146 = .ok (.invokevirtual 140, 3) := by decide +kernel
theorem dX10_isFault_149 : decode cX10_isFault 149 = .ok (.aload_n 0, 1) := by decide +kernel
theorem dX10_isFault_150 : decode cX10_isFault 150 = .ok (.iload 4, 2) := by decide +kernel
theorem dX10_isFault_152 : decode cX10_isFault 152 = .ok (.invokevirtual 140, 3) := by decide +kernel
theorem dX10_isFault_155 : decode cX10_isFault 155 = .ok (.if_icmp .ne 7, 3) := by decide +kernel
theorem dX10_isFault_158 : decode cX10_isFault 158 = .ok (.iconst 1, 1) := by decide +kernel
theorem dX10_isFault_159 : decode cX10_isFault 159 = .ok (.goto 4, 3) := by decide +kernel
theorem dX10_isFault_162 : decode cX10_isFault 162 = .ok (.iconst 0, 1) := by decide +kernel
theorem dX10_isFault_163 : decode cX10_isFault 163 = .ok (.ireturn, 1) := by decide +kernel
theorem dX10_faultMany_0 : decode cX10_faultMany 0 = .ok (.iconst 0, 1) := by decide +kernel
theorem dX10_faultMany_1 : decode cX10_faultMany 1 = .ok (.istore_n 2, 1) := by decide +kernel
theorem dX10_faultMany_2 : decode cX10_faultMany 2 = .ok (.iconst 0, 1) := by decide +kernel
theorem dX10_faultMany_3 : decode cX10_faultMany 3 = .ok (.istore_n 3, 1) := by decide +kernel
theorem dX10_faultMany_4 : decode cX10_faultMany 4 = .ok (.iload_n 3, 1) := by decide +kernel
theorem dX10_faultMany_5 : decode cX10_faultMany 5 = .ok (.iload_n 1, 1) := by decide +kernel
theorem dX10_faultMany_6 : decode cX10_faultMany 6 = .ok (.iconst 3, 1) := by decide +kernel
theorem dX10_faultMany_7 : decode cX10_faultMany 7 = .ok (.if_icmp .ne 12, 3) := by decide +kernel
theorem dX10_faultMany_10 : decode cX10_faultMany 10 = .ok (.aload_n 0, 1) := by decide +kernel
theorem dX10_faultMany_11 : decode cX10_faultMany 11 = .ok (.getfield 9, 3) := by decide +kernel
theorem dX10_faultMany_14 : decode cX10_faultMany 14 = .ok (.iconst 0, 1) := by decide +kernel
theorem dX10_faultMany_15 : decode cX10_faultMany 15 = .ok (.iaload, 1) := by decide +kernel
theorem dX10_faultMany_16 : decode cX10_faultMany 16 = .ok (.goto 9, 3) := by decide +kernel
theorem dX10_faultMany_19 : decode cX10_faultMany 19 = .ok (.aload_n 0, 1) := by decide +kernel
theorem dX10_faultMany_20 : decode cX10_faultMany 20 = .ok (.getfield 9, 3) := by decide +kernel
theorem dX10_faultMany_23 : decode cX10_faultMany 23 = .ok (.iconst 1, 1) := by decide +kernel
theorem dX10_faultMany_24 : decode cX10_faultMany 24 = .ok (.iaload, 1) := by decide +kernel
theorem dX10_faultMany_25 : decode cX10_faultMany 25 = .ok (.if_icmp .ge 26, 3) := by decide +kernel
theorem dX10_faultMany_28 : decode cX10_faultMany 28 = .ok (.iload_n 2, 1) := by decide +kernel
theorem dX10_faultMany_29 : decode cX10_faultMany 29 = .ok (.aload_n 0, 1) := by decide +kernel
theorem dX10_faultMany_30 : decode cX10_faultMany 30 = .ok (.iload_n 1, 1) := by decide +kernel
theorem dX10_faultMany_31 : decode cX10_faultMany 31 = .ok (.iload_n 3, 1) := by decide +kernel
theorem dX10_faultMany_32 : decode cX10_faultMany 32 = .ok (.invokevirtual 177, 3) := by decide +kernel
theorem dX10_faultMany_35 : decode cX10_faultMany 35 = .ok (.ifCond .eq 7, 3) := by decide +kernel
theorem dX10_faultMany_38 : decode cX10_faultMany 38 = .ok (.iconst 1, 1) := by decide +kernel
theorem dX10_faultMany_39 : decode cX10_faultMany 39 = .ok (.goto 4, 3) := by decide +kernel
theorem dX10_faultMany_42 : decode cX10_faultMany 42 = .ok (.iconst 0, 1) := by decide +kernel
theorem dX10_faultMany_43 : decode cX10_faultMany 43 = .ok (.iadd, 1) := by decide +kernel
theorem dX10_faultMany_44 : decode cX10_faultMany 44 = .ok (.istore_n 2, 1) := by decide +kernel
theorem dX10_faultMany_45 : decode cX10_faultMany 45 = .ok (.iinc 3 1, 3) := by decide +kernel
theorem dX10_faultMany_48 : decode cX10_faultMany 48 = .ok (.goto (-44), 3) := by decide +kernel
theorem dX10_faultMany_51 : decode cX10_faultMany 51 = .ok (.iload_n 2, 1) := by decide +kernel
theorem dX10_faultMany_52 : decode cX10_faultMany 52 = .ok (.ireturn, 1) := by decide +kernel
theorem dX10_allFaults_0 : decode cX10_allFaults 0 = .ok (.aload_n 0, 1) := by decide +kernel
theorem dX10_allFaults_1 : decode cX10_allFaults 1 = .ok (.iconst 1, 1) := by decide +kernel
theorem dX10_allFaults_2 : decode cX10_allFaults 2 = .ok (.invokevirtual 180, 3) := by decide +kernel
theorem dX10_allFaults_5 : decode cX10_allFaults 5 = .ok (.aload_n 0, 1) := by decide +kernel
theorem dX10_allFaults_6 : decode cX10_allFaults 6 = .ok (.iconst 2, 1) := by decide +kernel
theorem dX10_allFaults_7 : decode cX10_allFaults 7 = .ok (.invokevirtual 180, 3) := by decide +kernel
theorem dX10_allFaults_10 : decode cX10_allFaults 10 = .ok (.iadd, 1) := by decide +kernel
theorem dX10_allFaults_11 : decode cX10_allFaults 11 = .ok (.aload_n 0, 1) := by decide +kernel
theorem dX10_allFaults_12 : decode cX10_allFaults 12 = .ok (.iconst 3, 1) := by decide +kernel
theorem dX10_allFaults_13 : decode cX10_allFaults 13 = .ok (.invokevirtual 180, 3) := by decide +kernel
theorem dX10_allFaults_16 : decode cX10_allFaults 16 = .ok (.iadd, 1) := by decide +kernel
theorem dX10_allFaults_17 : decode cX10_allFaults 17 = .ok (.aload_n 0, 1) := by decide +kernel
theorem dX10_allFaults_18 : decode cX10_allFaults 18 = .ok (.iconst 4, 1) := by decide +kernel
theorem dX10_allFaults_19 : decode cX10_allFaults 19 = .ok (.invokevirtual 180, 3) := by decide +kernel
theorem dX10_allFaults_22 : decode cX10_allFaults 22 = .ok (.iadd, 1) := by decide +kernel
theorem dX10_allFaults_23 : decode cX10_allFaults 23 = .ok (.ireturn, 1) := by decide +kernel
theorem dX10_faults_0 : decode cX10_faults 0 = .ok (.aload_n 0, 1) := by decide +kernel
theorem dX10_faults_1 : decode cX10_faults 1 = .ok (.iload_n 1, 1) := by decide +kernel
theorem dX10_faults_2 : decode cX10_faults 2 = .ok (.iconst 1, 1) := by decide +kernel
theorem dX10_faults_3 : decode cX10_faults 3 = .ok (.iconst 4, 1) := by decide +kernel
theorem dX10_faults_4 : decode cX10_faults 4 = .ok (.invokestatic 58, 3) := by decide +kernel
theorem dX10_faults_7 : decode cX10_faults 7 = .ok (.ifCond .eq 7, 3) := by decide +kernel
theorem dX10_faults_10 : decode cX10_faults 10 = .ok (.iconst 0, 1) := by decide +kernel
theorem dX10_faults_11 : decode cX10_faults 11 = .ok (.goto 4, 3) := by decide +kernel
theorem dX10_faults_14 : decode cX10_faults 14 = .ok (.iconst 1, 1) := by decide +kernel
theorem dX10_faults_15 : decode cX10_faults 15 = .ok (.putfield 36, 3) := by decide +kernel
theorem dX10_faults_18 : decode cX10_faults 18 = .ok (.aload_n 0, 1) := by decide +kernel
theorem dX10_faults_19 : decode cX10_faults 19 = .ok (.getfield 36, 3) := by decide +kernel
theorem dX10_faults_22 : decode cX10_faults 22 = .ok (.ifCond .le 7, 3) := by decide +kernel
theorem dX10_faults_25 : decode cX10_faults 25 = .ok (.iconst 0, 1) := by decide +kernel
theorem dX10_faults_26 : decode cX10_faults 26 = .ok (.goto 8, 3) := by decide +kernel
theorem dX10_faults_29 : decode cX10_faults 29 = .ok (.aload_n 0, 1) := by decide +kernel
theorem dX10_faults_30 : decode cX10_faults 30 = .ok (.iload_n 1, 1) := by decide +kernel
theorem dX10_faults_31 : decode cX10_faults 31 = .ok (.invokevirtual 180, 3) := by decide +kernel
theorem dX10_faults_34 : decode cX10_faults 34 = .ok (.ireturn, 1) := by decide +kernel
theorem dX10_firstFault_0 : decode cX10_firstFault 0 = .ok (.iload_n 1, 1) := by decide +kernel
theorem dX10_firstFault_1 : decode cX10_firstFault 1 = .ok (.iconst 1, 1) := by decide +kernel
theorem dX10_firstFault_2 : decode cX10_firstFault 2 = .ok (.iconst 4, 1) := by decide +kernel
theorem dX10_firstFault_3 : decode cX10_firstFault 3 = .ok (.invokestatic 58, 3) := by decide +kernel
theorem dX10_firstFault_6 : decode cX10_firstFault 6 = .ok (.ifCond .ne 9, 3) := by decide +kernel
theorem dX10_firstFault_9 : decode cX10_firstFault 9 = .ok (.aload_n 0, 1) := by decide +kernel
theorem dX10_firstFault_10 : decode cX10_firstFault 10 = .ok (.iconst 1, 1) := by decide +kernel
theorem dX10_firstFault_11 : decode cX10_firstFault 11 = .ok (.invokevirtual 73, 3) := by decide +kernel
theorem dX10_firstFault_14 : decode cX10_firstFault 14 = .ok (.ireturn, 1) := by decide +kernel
theorem dX10_firstFault_15 : decode cX10_firstFault 15 = .ok (.iconst 0, 1) := by decide +kernel
theorem dX10_firstFault_16 : decode cX10_firstFault 16 = .ok (.istore_n 2, 1) := by decide +kernel
theorem dX10_firstFault_17 : decode cX10_firstFault 17 = .ok (.iload_n 2, 1) := by decide +kernel
theorem dX10_firstFault_18 : decode cX10_firstFault 18 = .ok (.iload_n 1, 1) := by decide +kernel
theorem dX10_firstFault_19 : decode cX10_firstFault 19 = .ok (.iconst 3, 1) := by decide +kernel
theorem dX10_firstFault_20 : decode cX10_firstFault 20 = .ok (.if_icmp .ne 12, 3) := by decide +kernel
theorem dX10_firstFault_23 : decode cX10_firstFault 23 = .ok (.aload_n 0, 1) := by decide +kernel
theorem dX10_firstFault_24 : decode cX10_firstFault 24 = .ok (.getfield 9, 3) := by decide +kernel
theorem dX10_firstFault_27 : decode cX10_firstFault 27 = .ok (.iconst 0, 1) := by decide +kernel
theorem dX10_firstFault_28 : decode cX10_firstFault 28 = .ok (.iaload, 1) := by decide +kernel
theorem dX10_firstFault_29 : decode cX10_firstFault 29 = .ok (.goto 9, 3) := by decide +kernel
theorem dX10_firstFault_32 : decode cX10_firstFault 32 = .ok (.aload_n 0, 1) := by decide +kernel
theorem dX10_firstFault_33 : decode cX10_firstFault 33 = .ok (.getfield 9, 3) := by decide +kernel
theorem dX10_firstFault_36 : decode cX10_firstFault 36 = .ok (.iconst 1, 1) := by decide +kernel
theorem dX10_firstFault_37 : decode cX10_firstFault 37 = .ok (.iaload, 1) := by decide +kernel
theorem dX10_firstFault_38 : decode cX10_firstFault 38 = .ok (.if_icmp .ge 25, 3) := by decide +kernel
theorem dX10_firstFault_41 : decode cX10_firstFault 41 = .ok (.aload_n 0, 1) := by decide +kernel
theorem dX10_firstFault_42 : decode cX10_firstFault 42 = .ok (.iload_n 1, 1) := by decide +kernel
theorem dX10_firstFault_43 : decode cX10_firstFault 43 = .ok (.iload_n 2, 1) := by decide +kernel
theorem dX10_firstFault_44 : decode cX10_firstFault 44 = .ok (.invokevirtual 177, 3) := by decide +kernel
theorem dX10_firstFault_47 : decode cX10_firstFault 47 = .ok (.ifCond .eq 10, 3) := by decide +kernel
theorem dX10_firstFault_50 : decode cX10_firstFault 50 = .ok (.aload_n 0, 1) := by decide +kernel
theorem dX10_firstFault_51 : decode cX10_firstFault 51 = .ok (.iconst 0, 1) := by decide +kernel
theorem dX10_firstFault_52 : decode cX10_firstFault 52 = .ok (.putfield 36, 3) := by decide +kernel
theorem dX10_firstFault_55 : decode cX10_firstFault 55 = .ok (.iload_n 2, 1) := by decide +kernel
theorem dX10_firstFault_56 : decode cX10_firstFault 56 = .ok (.ireturn, 1) := by decide +kernel
theorem dX10_firstFault_57 : decode cX10_firstFault 57 = .ok (.iinc 2 1, 3) := by decide +kernel
theorem dX10_firstFault_60 : decode cX10_firstFault 60 = .ok (.goto (-43), 3) := by decide +kernel
theorem dX10_firstFault_63 : decode cX10_firstFault 63 = .ok (.aload_n 0, 1) := by decide +kernel
theorem dX10_firstFault_64 : decode cX10_firstFault 64 = .ok (.iconst 2, 1) := by decide +kernel
theorem dX10_firstFault_65 : decode cX10_firstFault 65 = .ok (.invokevirtual 73, 3) := by decide +kernel
theorem dX10_firstFault_68 : decode cX10_firstFault 68 = .ok (.ireturn, 1) := by decide +kernel
theorem dX10_isClean_0 : decode cX10_isClean 0 = .ok (.aload_n 0, 1) := by decide +kernel
theorem dX10_isClean_1 : decode cX10_isClean 1 = .ok (.iconst 0, 1) := by decide +kernel
theorem dX10_isClean_2 : decode cX10_isClean 2 = .ok (.putfield 36, 3) := by decide +kernel
theorem dX10_isClean_5 : decode cX10_isClean 5 = .ok (.aload_n 0, 1) := by decide +kernel
theorem dX10_isClean_6 : decode cX10_isClean 6 = .ok (.invokevirtual 183, 3) := by decide +kernel
theorem dX10_isClean_9 : decode cX10_isClean 9 = .ok (.ifCond .ne 7, 3) := by decide +kernel
theorem dX10_isClean_12 : decode cX10_isClean 12 = .ok (.iconst 1, 1) := by decide +kernel
theorem dX10_isClean_13 : decode cX10_isClean 13 = .ok (.goto 4, 3) := by decide +kernel
theorem dX10_isClean_16 : decode cX10_isClean 16 = .ok (.iconst 0, 1) := by decide +kernel
theorem dX10_isClean_17 : decode cX10_isClean 17 = .ok (.ireturn, 1) := by decide +kernel
theorem dX10_faultsWith_0 : decode cX10_faultsWith 0 = .ok (.bipush 19, 2) := by decide +kernel
theorem dX10_faultsWith_2 : decode cX10_faultsWith 2 = .ok (.iconst 3, 1) := by decide +kernel
theorem dX10_faultsWith_3 : decode cX10_faultsWith 3 = .ok (.iload_n 1, 1) := by decide +kernel
theorem dX10_faultsWith_4 : decode cX10_faultsWith 4 = .ok (.imul, 1) := by decide +kernel
theorem dX10_faultsWith_5 : decode cX10_faultsWith 5 = .ok (.iadd, 1) := by decide +kernel
theorem dX10_faultsWith_6 : decode cX10_faultsWith 6 = .ok (.iconst 1, 1) := by decide +kernel
theorem dX10_faultsWith_7 : decode cX10_faultsWith 7 = .ok (.iadd, 1) := by decide +kernel
theorem dX10_faultsWith_8 : decode cX10_faultsWith 8 = .ok (.istore_n 3, 1) := by decide +kernel
theorem dX10_faultsWith_9 : decode cX10_faultsWith 9 = .ok (.aload_n 0, 1) := by decide +kernel
theorem dX10_faultsWith_10 : decode cX10_faultsWith 10 = .ok (.getfield 9, 3) := by decide +kernel
theorem dX10_faultsWith_13 : decode cX10_faultsWith 13 = .ok (.iload_n 3, 1) := by decide +kernel
theorem dX10_faultsWith_14 : decode cX10_faultsWith 14 = .ok (.iaload, 1) := by decide +kernel
theorem dX10_faultsWith_15 : decode cX10_faultsWith 15 = .ok (.istore 4, 2) := by decide +kernel
theorem dX10_faultsWith_17 : decode cX10_faultsWith 17 = .ok (.aload_n 0, 1) := by decide +kernel
theorem dX10_faultsWith_18 : decode cX10_faultsWith 18 = .ok (.getfield 9, 3) := by decide +kernel
theorem dX10_faultsWith_21 : decode cX10_faultsWith 21 = .ok (.iload_n 3, 1) := by decide +kernel
theorem dX10_faultsWith_22 : decode cX10_faultsWith 22 = .ok (.iload_n 2, 1) := by decide +kernel
theorem dX10_faultsWith_23 : decode cX10_faultsWith 23 = .ok (.iastore, 1) := by decide +kernel
theorem dX10_faultsWith_24 : decode cX10_faultsWith 24 = .ok (.aload_n 0, 1) := by decide +kernel
theorem dX10_faultsWith_25 : decode cX10_faultsWith 25 = .ok (.invokevirtual 183, 3) := by decide +kernel
theorem dX10_faultsWith_28 : decode cX10_faultsWith 28 = .ok (.istore 5, 2) := by decide +kernel
theorem dX10_faultsWith_30 : decode cX10_faultsWith 30 = .ok (.aload_n 0, 1) := by decide +kernel
theorem dX10_faultsWith_31 : decode cX10_faultsWith 31 = .ok (.getfield 9, 3) := by decide +kernel
theorem dX10_faultsWith_34 : decode cX10_faultsWith 34 = .ok (.iload_n 3, 1) := by decide +kernel
theorem dX10_faultsWith_35 : decode cX10_faultsWith 35 = .ok (.iload 4, 2) := by decide +kernel
theorem dX10_faultsWith_37 : decode cX10_faultsWith 37 = .ok (.iastore, 1) := by decide +kernel
theorem dX10_faultsWith_38 : decode cX10_faultsWith 38 = .ok (.iload 5, 2) := by decide +kernel
theorem dX10_faultsWith_40 : decode cX10_faultsWith 40 = .ok (.ireturn, 1) := by decide +kernel
theorem dX10_wouldFault_0 : decode cX10_wouldFault 0 = .ok (.aload_n 0, 1) := by decide +kernel
theorem dX10_wouldFault_1 : decode cX10_wouldFault 1 = .ok (.aload_n 0, 1) := by decide +kernel
theorem dX10_wouldFault_2 : decode cX10_wouldFault 2 = .ok (.iload_n 1, 1) := by decide +kernel
theorem dX10_wouldFault_3 : decode cX10_wouldFault 3 = .ok (.invokevirtual 117, 3) := by decide +kernel
theorem dX10_wouldFault_6 : decode cX10_wouldFault 6 = .ok (.ifCond .ne 7, 3) := by decide +kernel
theorem dX10_wouldFault_9 : decode cX10_wouldFault 9 = .ok (.iconst 1, 1) := by decide +kernel
theorem dX10_wouldFault_10 : decode cX10_wouldFault 10 = .ok (.goto 30, 3) := by decide +kernel
theorem dX10_wouldFault_13 : decode cX10_wouldFault 13 = .ok (.iload_n 2, 1) := by decide +kernel
theorem dX10_wouldFault_14 : decode cX10_wouldFault 14 = .ok (.iconst 0, 1) := by decide +kernel
theorem dX10_wouldFault_15 : decode cX10_wouldFault 15 = .ok (.bipush 9, 2) := by decide +kernel
theorem dX10_wouldFault_17 : decode cX10_wouldFault 17 = .ok (.invokestatic 58, 3) := by decide +kernel
theorem dX10_wouldFault_20 : decode cX10_wouldFault 20 = .ok (.ifCond .ne 7, 3) := by decide +kernel
theorem dX10_wouldFault_23 : decode cX10_wouldFault 23 = .ok (.iconst 2, 1) := by decide +kernel
theorem dX10_wouldFault_24 : decode cX10_wouldFault 24 = .ok (.goto 16, 3) := by decide +kernel
theorem dX10_wouldFault_27 : decode cX10_wouldFault 27 = .ok (.aload_n 0, 1) := by decide +kernel
theorem dX10_wouldFault_28 : decode cX10_wouldFault 28 = .ok (.iload_n 1, 1) := by decide +kernel
theorem dX10_wouldFault_29 : decode cX10_wouldFault 29 = .ok (.invokevirtual 134, 3) := by decide +kernel
theorem dX10_wouldFault_32 : decode cX10_wouldFault 32 = .ok (.ifCond .ne 7, 3) := by decide +kernel
theorem dX10_wouldFault_35 : decode cX10_wouldFault 35 = .ok (.iconst 3, 1) := by decide +kernel
theorem dX10_wouldFault_36 : decode cX10_wouldFault 36 = .ok (.goto 4, 3) := by decide +kernel
theorem dX10_wouldFault_39 : decode cX10_wouldFault 39 = .ok (.iconst 0, 1) := by decide +kernel
theorem dX10_wouldFault_40 : decode cX10_wouldFault 40 = .ok (.putfield 36, 3) := by decide +kernel
theorem dX10_wouldFault_43 : decode cX10_wouldFault 43 = .ok (.aload_n 0, 1) := by decide +kernel
theorem dX10_wouldFault_44 : decode cX10_wouldFault 44 = .ok (.getfield 36, 3) := by decide +kernel
theorem dX10_wouldFault_47 : decode cX10_wouldFault 47 = .ok (.ifCond .le 7, 3) := by decide +kernel
theorem dX10_wouldFault_50 : decode cX10_wouldFault 50 = .ok (.iconst 0, 1) := by decide +kernel
theorem dX10_wouldFault_51 : decode cX10_wouldFault 51 = .ok (.goto 9, 3) := by decide +kernel
theorem dX10_wouldFault_54 : decode cX10_wouldFault 54 = .ok (.aload_n 0, 1) := by decide +kernel
theorem dX10_wouldFault_55 : decode cX10_wouldFault 55 = .ok (.iload_n 1, 1) := by decide +kernel
theorem dX10_wouldFault_56 : decode cX10_wouldFault 56 = .ok (.iload_n 2, 1) := by decide +kernel
theorem dX10_wouldFault_57 : decode cX10_wouldFault 57 = .ok (.invokevirtual 186, 3) := by decide +kernel
theorem dX10_wouldFault_60 : decode cX10_wouldFault 60 = .ok (.ireturn, 1) := by decide +kernel
theorem dX10_bestHeight_0 : decode cX10_bestHeight 0 = .ok (.aload_n 0, 1) := by decide +kernel
theorem dX10_bestHeight_1 : decode cX10_bestHeight 1 = .ok (.aload_n 0, 1) := by decide +kernel
theorem dX10_bestHeight_2 : decode cX10_bestHeight 2 = .ok (.iload_n 1, 1) := by decide +kernel
theorem dX10_bestHeight_3 : decode cX10_bestHeight 3 = .ok (.invokevirtual 117, 3) := by decide +kernel
theorem dX10_bestHeight_6 : decode cX10_bestHeight 6 = .ok (.ifCond .ne 7, 3) := by decide +kernel
theorem dX10_bestHeight_9 : decode cX10_bestHeight 9 = .ok (.iconst 1, 1) := by decide +kernel
theorem dX10_bestHeight_10 : decode cX10_bestHeight 10 = .ok (.goto 16, 3) := by decide +kernel
theorem dX10_bestHeight_13 : decode cX10_bestHeight 13 = .ok (.aload_n 0, 1) := by decide +kernel
theorem dX10_bestHeight_14 : decode cX10_bestHeight 14 = .ok (.iload_n 1, 1) := by decide +kernel
theorem dX10_bestHeight_15 : decode cX10_bestHeight 15 = .ok (.invokevirtual 134, 3) := by decide +kernel
theorem dX10_bestHeight_18 : decode cX10_bestHeight 18 = .ok (.ifCond .ne 7, 3) := by decide +kernel
theorem dX10_bestHeight_21 : decode cX10_bestHeight 21 = .ok (.iconst 2, 1) := by decide +kernel
theorem dX10_bestHeight_22 : decode cX10_bestHeight 22 = .ok (.goto 4, 3) := by decide +kernel
theorem dX10_bestHeight_25 : decode cX10_bestHeight 25 = .ok (.iconst 0, 1) := by decide +kernel
theorem dX10_bestHeight_26 : decode cX10_bestHeight 26 = .ok (.putfield 36, 3) := by decide +kernel
theorem dX10_bestHeight_29 : decode cX10_bestHeight 29 = .ok (.iconst 0, 1) := by decide +kernel
theorem dX10_bestHeight_30 : decode cX10_bestHeight 30 = .ok (.istore_n 2, 1) := by decide +kernel
theorem dX10_bestHeight_31 : decode cX10_bestHeight 31 = .ok (.iconst 1, 1) := by decide +kernel
theorem dX10_bestHeight_32 : decode cX10_bestHeight 32 = .ok (.istore_n 3, 1) := by decide +kernel
theorem dX10_bestHeight_33 : decode cX10_bestHeight 33 = .ok (.iload_n 3, 1) := by decide +kernel
theorem dX10_bestHeight_34 : decode cX10_bestHeight 34 = .ok (.bipush 9, 2) := by decide +kernel
theorem dX10_bestHeight_36 : decode cX10_bestHeight 36 = .ok (.if_icmp .gt 37, 3) := by decide +kernel
theorem dX10_bestHeight_39 : decode cX10_bestHeight 39 = .ok (.aload_n 0, 1) := by decide +kernel
theorem dX10_bestHeight_40 : decode cX10_bestHeight 40 = .ok (.getfield 36, 3) := by decide +kernel
theorem dX10_bestHeight_43 : decode cX10_bestHeight 43 = .ok (.ifCond .ne 30, 3) := by decide +kernel
theorem dX10_bestHeight_46 : decode cX10_bestHeight 46 = .ok (.aload_n 0, 1) := by decide +kernel
theorem dX10_bestHeight_47 : decode cX10_bestHeight 47 = .ok (.iload_n 1, 1) := by decide +kernel
theorem dX10_bestHeight_48 : decode cX10_bestHeight 48 = .ok (.iload_n 3, 1) := by decide +kernel
theorem dX10_bestHeight_49 : decode cX10_bestHeight 49 = .ok (.invokevirtual 186, 3) := by decide +kernel
theorem dX10_bestHeight_52 : decode cX10_bestHeight 52 = .ok (.aload_n 0, 1) := by decide +kernel
theorem dX10_bestHeight_53 : decode cX10_bestHeight 53 = .ok (.iload_n 1, 1) := by decide +kernel
theorem dX10_bestHeight_54 : decode cX10_bestHeight 54 = .ok (.iload_n 2, 1) := by decide +kernel
theorem dX10_bestHeight_55 : decode cX10_bestHeight 55 = .ok (.invokevirtual 186, 3) := by decide +kernel
theorem dX10_bestHeight_58 : decode cX10_bestHeight 58 = .ok (.if_icmp .ge 7, 3) := by decide +kernel
theorem dX10_bestHeight_61 : decode cX10_bestHeight 61 = .ok (.iload_n 3, 1) := by decide +kernel
theorem dX10_bestHeight_62 : decode cX10_bestHeight 62 = .ok (.goto 4, 3) := by decide +kernel
theorem dX10_bestHeight_65 : decode cX10_bestHeight 65 = .ok (.iload_n 2, 1) := by decide +kernel
theorem dX10_bestHeight_66 : decode cX10_bestHeight 66 = .ok (.istore_n 2, 1) := by decide +kernel
theorem dX10_bestHeight_67 : decode cX10_bestHeight 67 = .ok (.iinc 3 1, 3) := by decide +kernel
theorem dX10_bestHeight_70 : decode cX10_bestHeight 70 = .ok (.goto (-37), 3) := by decide +kernel
theorem dX10_bestHeight_73 : decode cX10_bestHeight 73 = .ok (.iload_n 2, 1) := by decide +kernel
theorem dX10_bestHeight_74 : decode cX10_bestHeight 74 = .ok (.ireturn, 1) := by decide +kernel
theorem dX10_walk_0 : decode cX10_walk 0 = .ok (.aload_n 0, 1) := by decide +kernel
theorem dX10_walk_1 : decode cX10_walk 1 = .ok (.iconst 0, 1) := by decide +kernel
theorem dX10_walk_2 : decode cX10_walk 2 = .ok (.putfield 36, 3) := by decide +kernel
theorem dX10_walk_5 : decode cX10_walk 5 = .ok (.iconst 0, 1) := by decide +kernel
theorem dX10_walk_6 : decode cX10_walk 6 = .ok (.istore_n 2, 1) := by decide +kernel
theorem dX10_walk_7 : decode cX10_walk 7 = .ok (.iconst 0, 1) := by decide +kernel
theorem dX10_walk_8 : decode cX10_walk 8 = .ok (.istore_n 3, 1) := by decide +kernel
theorem dX10_walk_9 : decode cX10_walk 9 = .ok (.iload_n 3, 1) := by decide +kernel
theorem dX10_walk_10 : decode cX10_walk 10 = .ok (.aload_n 0, 1) := by decide +kernel
theorem dX10_walk_11 : decode cX10_walk 11 = .ok (.getfield 9, 3) := by decide +kernel
theorem dX10_walk_14 : decode cX10_walk 14 = .ok (.iconst 1, 1) := by decide +kernel
theorem dX10_walk_15 : decode cX10_walk 15 = .ok (.iaload, 1) := by decide +kernel
theorem dX10_walk_16 : decode cX10_walk 16 = .ok (.if_icmp .ge 55, 3) := by decide +kernel
theorem dX10_walk_19 : decode cX10_walk 19 = .ok (.aload_n 0, 1) := by decide +kernel
theorem dX10_walk_20 : decode cX10_walk 20 = .ok (.iload_n 3, 1) := by decide +kernel
theorem dX10_walk_21 : decode cX10_walk 21 = .ok (.invokevirtual 134, 3) := by decide +kernel
theorem dX10_walk_24 : decode cX10_walk 24 = .ok (.ifCond .eq 11, 3) := by decide +kernel
theorem dX10_walk_27 : decode cX10_walk 27 = .ok (.aload_n 0, 1) := by decide +kernel
theorem dX10_walk_28 : decode cX10_walk 28 = .ok (.iload_n 3, 1) := by decide +kernel
theorem dX10_walk_29 : decode cX10_walk 29 = .ok (.invokevirtual 171, 3) := by decide +kernel
theorem dX10_walk_32 : decode cX10_walk 32 = .ok (.goto 4, 3) := by decide +kernel
theorem dX10_walk_35 : decode cX10_walk 35 = .ok (.iconst (-1), 1) := by decide +kernel
theorem dX10_walk_36 : decode cX10_walk 36 = .ok (.istore 4, 2) := by decide +kernel
theorem dX10_walk_38 : decode cX10_walk 38 = .ok (.iload_n 2, 1) := by decide +kernel
theorem dX10_walk_39 : decode cX10_walk 39 = .ok (.iload 4, 2) := by decide +kernel
theorem dX10_walk_41 : decode cX10_walk 41 = .ok (.ifCond .ge 7, 3) := by decide +kernel
theorem dX10_walk_44 : decode cX10_walk 44 = .ok (.iconst 0, 1) := by decide +kernel
theorem dX10_walk_45 : decode cX10_walk 45 = .ok (.goto 18, 3) := by decide +kernel
theorem dX10_walk_48 : decode cX10_walk 48 = .ok (.aload_n 0, 1) := by decide +kernel
theorem dX10_walk_49 : decode cX10_walk 49 = .ok (.iload_n 3, 1) := by decide +kernel
theorem dX10_walk_50 : decode cX10_walk 50 = .ok (.invokevirtual 140, 3) := by decide +kernel
theorem dX10_walk_53 : decode cX10_walk 53 = .ok (.aload_n 0, 1) := by decide +kernel
theorem dX10_walk_54 : decode cX10_walk 54 = .ok (.iload 4, 2) := by decide +kernel
theorem dX10_walk_56 : decode cX10_walk 56 = .ok (.invokevirtual 140, 3) := by decide +kernel
theorem dX10_walk_59 : decode cX10_walk 59 = .ok (.isub, 1) := by decide +kernel
theorem dX10_walk_60 : decode cX10_walk 60 = .ok (.invokestatic 174, 3) := by decide +kernel
theorem dX10_walk_63 : decode cX10_walk 63 = .ok (.iadd, 1) := by decide +kernel
theorem dX10_walk_64 : decode cX10_walk 64 = .ok (.istore_n 2, 1) := by decide +kernel
theorem dX10_walk_65 : decode cX10_walk 65 = .ok (.iinc 3 1, 3) := by decide +kernel
theorem dX10_walk_68 : decode cX10_walk 68 = .ok (.goto (-59), 3) := by decide +kernel
theorem dX10_walk_71 : decode cX10_walk 71 = .ok (.iload_n 2, 1) := by decide +kernel
theorem dX10_walk_72 : decode cX10_walk 72 = .ok (.ireturn, 1) := by decide +kernel
theorem dX10_goes_0 : decode cX10_goes 0 = .ok (.aload_n 0, 1) := by decide +kernel
theorem dX10_goes_1 : decode cX10_goes 1 = .ok (.iconst 0, 1) := by decide +kernel
theorem dX10_goes_2 : decode cX10_goes 2 = .ok (.putfield 36, 3) := by decide +kernel
theorem dX10_goes_5 : decode cX10_goes 5 = .ok (.iconst 0, 1) := by decide +kernel
theorem dX10_goes_6 : decode cX10_goes 6 = .ok (.istore_n 2, 1) := by decide +kernel
theorem dX10_goes_7 : decode cX10_goes 7 = .ok (.iconst 0, 1) := by decide +kernel
theorem dX10_goes_8 : decode cX10_goes 8 = .ok (.istore_n 3, 1) := by decide +kernel
theorem dX10_goes_9 : decode cX10_goes 9 = .ok (.iload_n 3, 1) := by decide +kernel
theorem dX10_goes_10 : decode cX10_goes 10 = .ok (.aload_n 0, 1) := by decide +kernel
theorem dX10_goes_11 : decode cX10_goes 11 = .ok (.getfield 9, 3) := by decide +kernel
theorem dX10_goes_14 : decode cX10_goes 14 = .ok (.iconst 1, 1) := by decide +kernel
theorem dX10_goes_15 : decode cX10_goes 15 = .ok (.iaload, 1) := by decide +kernel
theorem dX10_goes_16 : decode cX10_goes 16 = .ok (.if_icmp .ge 77, 3) := by decide +kernel
theorem dX10_goes_19 : decode cX10_goes 19 = .ok (.aload_n 0, 1) := by decide +kernel
theorem dX10_goes_20 : decode cX10_goes 20 = .ok (.iload_n 3, 1) := by decide +kernel
theorem dX10_goes_21 : decode cX10_goes 21 = .ok (.invokevirtual 134, 3) := by decide +kernel
theorem dX10_goes_24 : decode cX10_goes 24 = .ok (.ifCond .eq 11, 3) := by decide +kernel
theorem dX10_goes_27 : decode cX10_goes 27 = .ok (.aload_n 0, 1) := by decide +kernel
theorem dX10_goes_28 : decode cX10_goes 28 = .ok (.iload_n 3, 1) := by decide +kernel
theorem dX10_goes_29 : decode cX10_goes 29 = .ok (.invokevirtual 171, 3) := by decide +kernel
theorem dX10_goes_32 : decode cX10_goes 32 = .ok (.goto 4, 3) := by decide +kernel
theorem dX10_goes_35 : decode cX10_goes 35 = .ok (.iconst (-1), 1) := by decide +kernel
theorem dX10_goes_36 : decode cX10_goes 36 = .ok (.istore 4, 2) := by decide +kernel
theorem dX10_goes_38 : decode cX10_goes 38 = .ok (.iload 4, 2) := by decide +kernel
theorem dX10_goes_40 : decode cX10_goes 40 = .ok (.ifCond .ge 7, 3) := by decide +kernel
theorem dX10_goes_43 : decode cX10_goes 43 = .ok (.iconst 0, 1) := by decide +kernel
theorem dX10_goes_44 : decode cX10_goes 44 = .ok (.goto 15, 3) := by decide +kernel
theorem dX10_goes_47 : decode cX10_goes 47 = .ok (.aload_n 0, 1) := by decide +kernel
theorem dX10_goes_48 : decode cX10_goes 48 = .ok (.iload_n 3, 1) := by decide +kernel
theorem dX10_goes_49 : decode cX10_goes 49 = .ok (.invokevirtual 140, 3) := by decide +kernel
theorem dX10_goes_52 : decode cX10_goes 52 = .ok (.aload_n 0, 1) := by decide +kernel
theorem dX10_goes_53 : decode cX10_goes 53 = .ok (.iload 4, 2) := by decide +kernel
theorem dX10_goes_55 : decode cX10_goes 55 = .ok (.invokevirtual 140, 3) := by decide +kernel
theorem dX10_goes_58 : decode cX10_goes 58 = .ok (.isub, 1) := by decide +kernel
theorem dX10_goes_59 : decode cX10_goes 59 = .ok (.istore 5, 2) := by decide +kernel
theorem dX10_goes_61 : decode cX10_goes 61 = .ok (.iload_n 2, 1) := by decide +kernel
theorem dX10_goes_62 : decode cX10_goes 62 = .ok (.iload_n 1, 1) := by decide +kernel
theorem dX10_goes_63 : decode cX10_goes 63 = .ok (.ifCond .eq 8, 3) := by decide +kernel
theorem dX10_goes_66 : decode cX10_goes 66 = .ok (.iload 5, 2) := by decide +kernel
theorem dX10_goes_68 : decode cX10_goes 68 = .ok (.ifCond .gt 12, 3) := by decide +kernel
theorem dX10_goes_71 : decode cX10_goes 71 = .ok (.iload_n 1, 1) := by decide +kernel
theorem dX10_goes_72 : decode cX10_goes 72 = .ok (.ifCond .ne 12, 3) := by decide +kernel
theorem dX10_goes_75 : decode cX10_goes 75 = .ok (.iload 5, 2) := by decide +kernel
theorem dX10_goes_77 : decode cX10_goes 77 = .ok (.ifCond .ge 7, 3) := by decide +kernel
theorem dX10_goes_80 : decode cX10_goes 80 = .ok (.iconst 1, 1) := by decide +kernel
theorem dX10_goes_81 : decode cX10_goes 81 = .ok (.goto 4, 3) := by decide +kernel
theorem dX10_goes_84 : decode cX10_goes 84 = .ok (.iconst 0, 1) := by decide +kernel
theorem dX10_goes_85 : decode cX10_goes 85 = .ok (.iadd, 1) := by decide +kernel
theorem dX10_goes_86 : decode cX10_goes 86 = .ok (.istore_n 2, 1) := by decide +kernel
theorem dX10_goes_87 : decode cX10_goes 87 = .ok (.iinc 3 1, 3) := by decide +kernel
theorem dX10_goes_90 : decode cX10_goes 90 = .ok (.goto (-81), 3) := by decide +kernel
theorem dX10_goes_93 : decode cX10_goes 93 = .ok (.iload_n 2, 1) := by decide +kernel
theorem dX10_goes_94 : decode cX10_goes 94 = .ok (.ireturn, 1) := by decide +kernel
theorem dX10_drops_0 : decode cX10_drops 0 = .ok (.iconst 0, 1) := by decide +kernel
theorem dX10_drops_1 : decode cX10_drops 1 = .ok (.istore_n 1, 1) := by decide +kernel
theorem dX10_drops_2 : decode cX10_drops 2 = .ok (.iconst 0, 1) := by decide +kernel
theorem dX10_drops_3 : decode cX10_drops 3 = .ok (.istore_n 2, 1) := by decide +kernel
theorem dX10_drops_4 : decode cX10_drops 4 = .ok (.iload_n 2, 1) := by decide +kernel
theorem dX10_drops_5 : decode cX10_drops 5 = .ok (.aload_n 0, 1) := by decide +kernel
theorem dX10_drops_6 : decode cX10_drops 6 = .ok (.getfield 9, 3) := by decide +kernel
theorem dX10_drops_9 : decode cX10_drops 9 = .ok (.iconst 1, 1) := by decide +kernel
theorem dX10_drops_10 : decode cX10_drops 10 = .ok (.iaload, 1) := by decide +kernel
theorem dX10_drops_11 : decode cX10_drops 11 = .ok (.if_icmp .ge 25, 3) := by decide +kernel
theorem dX10_drops_14 : decode cX10_drops 14 = .ok (.iload_n 1, 1) := by decide +kernel
theorem dX10_drops_15 : decode cX10_drops 15 = .ok (.aload_n 0, 1) := by decide +kernel
theorem dX10_drops_16 : decode cX10_drops 16 = .ok (.iload_n 2, 1) := by decide +kernel
theorem dX10_drops_17 : decode cX10_drops 17 = .ok (.invokevirtual 134, 3) := by decide +kernel
theorem dX10_drops_20 : decode cX10_drops 20 = .ok (.ifCond .eq 7, 3) := by decide +kernel
theorem dX10_drops_23 : decode cX10_drops 23 = .ok (.iconst 1, 1) := by decide +kernel
theorem dX10_drops_24 : decode cX10_drops 24 = .ok (.goto 4, 3) := by decide +kernel
theorem dX10_drops_27 : decode cX10_drops 27 = .ok (.iconst 0, 1) := by decide +kernel
theorem dX10_drops_28 : decode cX10_drops 28 = .ok (.iadd, 1) := by decide +kernel
theorem dX10_drops_29 : decode cX10_drops 29 = .ok (.istore_n 1, 1) := by decide +kernel
theorem dX10_drops_30 : decode cX10_drops 30 = .ok (.iinc 2 1, 3) := by decide +kernel
theorem dX10_drops_33 : decode cX10_drops 33 = .ok (.goto (-29), 3) := by decide +kernel
theorem dX10_drops_36 : decode cX10_drops 36 = .ok (.iload_n 1, 1) := by decide +kernel
theorem dX10_drops_37 : decode cX10_drops 37 = .ok (.ireturn, 1) := by decide +kernel
theorem dX10_span_0 : decode cX10_span 0 = .ok (.aload_n 0, 1) := by decide +kernel
theorem dX10_span_1 : decode cX10_span 1 = .ok (.iconst 0, 1) := by decide +kernel
theorem dX10_span_2 : decode cX10_span 2 = .ok (.putfield 36, 3) := by decide +kernel
theorem dX10_span_5 : decode cX10_span 5 = .ok (.bipush 12, 2) := by decide +kernel
theorem dX10_span_7 : decode cX10_span 7 = .ok (.istore_n 1, 1) := by decide +kernel
theorem dX10_span_8 : decode cX10_span 8 = .ok (.iconst 0, 1) := by decide +kernel
theorem dX10_span_9 : decode cX10_span 9 = .ok (.istore_n 2, 1) := by decide +kernel
theorem dX10_span_10 : decode cX10_span 10 = .ok (.iconst 0, 1) := by decide +kernel
theorem dX10_span_11 : decode cX10_span 11 = .ok (.istore_n 3, 1) := by decide +kernel
theorem dX10_span_12 : decode cX10_span 12 = .ok (.iload_n 3, 1) := by decide +kernel
theorem dX10_span_13 : decode cX10_span 13 = .ok (.aload_n 0, 1) := by decide +kernel
theorem dX10_span_14 : decode cX10_span 14 = .ok (.getfield 9, 3) := by decide +kernel
theorem dX10_span_17 : decode cX10_span 17 = .ok (.iconst 1, 1) := by decide +kernel
theorem dX10_span_18 : decode cX10_span 18 = .ok (.iaload, 1) := by decide +kernel
theorem dX10_span_19 : decode cX10_span 19 = .ok (.if_icmp .ge 53, 3) := by decide +kernel
theorem dX10_span_22 : decode cX10_span 22 = .ok (.aload_n 0, 1) := by decide +kernel
theorem dX10_span_23 : decode cX10_span 23 = .ok (.iload_n 3, 1) := by decide +kernel
theorem dX10_span_24 : decode cX10_span 24 = .ok (.invokevirtual 134, 3) := by decide +kernel
theorem dX10_span_27 : decode cX10_span 27 = .ok (.ifCond .eq 15, 3) := by decide +kernel
theorem dX10_span_30 : decode cX10_span 30 = .ok (.iload_n 1, 1) := by decide +kernel
theorem dX10_span_31 : decode cX10_span 31 = .ok (.aload_n 0, 1) := by decide +kernel
theorem dX10_span_32 : decode cX10_span 32 = .ok (.iload_n 3, 1) := by decide +kernel
theorem dX10_span_33 : decode cX10_span 33 = .ok (.invokevirtual 140, 3) := by decide +kernel
theorem dX10_span_36 : decode cX10_span 36 = .ok (.invokestatic 128, 3) := by decide +kernel
theorem dX10_span_39 : decode cX10_span 39 = .ok (.goto 4, 3) := by decide +kernel
theorem dX10_span_42 : decode cX10_span 42 = .ok (.iload_n 1, 1) := by decide +kernel
theorem dX10_span_43 : decode cX10_span 43 = .ok (.istore_n 1, 1) := by decide +kernel
theorem dX10_span_44 : decode cX10_span 44 = .ok (.aload_n 0, 1) := by decide +kernel
theorem dX10_span_45 : decode cX10_span 45 = .ok (.iload_n 3, 1) := by decide +kernel
theorem dX10_span_46 : decode cX10_span 46 = .ok (.invokevirtual 134, 3) := by decide +kernel
theorem dX10_span_49 : decode cX10_span 49 = .ok (.ifCond .eq 15, 3) := by decide +kernel
theorem dX10_span_52 : decode cX10_span 52 = .ok (.iload_n 2, 1) := by decide +kernel
theorem dX10_span_53 : decode cX10_span 53 = .ok (.aload_n 0, 1) := by decide +kernel
theorem dX10_span_54 : decode cX10_span 54 = .ok (.iload_n 3, 1) := by decide +kernel
theorem dX10_span_55 : decode cX10_span 55 = .ok (.invokevirtual 140, 3) := by decide +kernel
theorem dX10_span_58 : decode cX10_span 58 = .ok (.invokestatic 123, 3) := by decide +kernel
theorem dX10_span_61 : decode cX10_span 61 = .ok (.goto 4, 3) := by decide +kernel
theorem dX10_span_64 : decode cX10_span 64 = .ok (.iload_n 2, 1) := by decide +kernel
theorem dX10_span_65 : decode cX10_span 65 = .ok (.istore_n 2, 1) := by decide +kernel
theorem dX10_span_66 : decode cX10_span 66 = .ok (.iinc 3 1, 3) := by decide +kernel
theorem dX10_span_69 : decode cX10_span 69 = .ok (.goto (-57), 3) := by decide +kernel
theorem dX10_span_72 : decode cX10_span 72 = .ok (.aload_n 0, 1) := by decide +kernel
theorem dX10_span_73 : decode cX10_span 73 = .ok (.invokevirtual 189, 3) := by decide +kernel
theorem dX10_span_76 : decode cX10_span 76 = .ok (.ifCond .ne 7, 3) := by decide +kernel
theorem dX10_span_79 : decode cX10_span 79 = .ok (.iconst 0, 1) := by decide +kernel
theorem dX10_span_80 : decode cX10_span 80 = .ok (.goto 6, 3) := by decide +kernel
theorem dX10_span_83 : decode cX10_span 83 = .ok (.iload_n 2, 1) := by decide +kernel
theorem dX10_span_84 : decode cX10_span 84 = .ok (.iload_n 1, 1) := by decide +kernel
theorem dX10_span_85 : decode cX10_span 85 = .ok (.isub, 1) := by decide +kernel
theorem dX10_span_86 : decode cX10_span 86 = .ok (.ireturn, 1) := by decide +kernel
theorem dX10_withPitch_0 : decode cX10_withPitch 0 = .ok (.aload_n 0, 1) := by decide +kernel
theorem dX10_withPitch_1 : decode cX10_withPitch 1 = .ok (.iload_n 1, 1) := by decide +kernel
theorem dX10_withPitch_2 : decode cX10_withPitch 2 = .ok (.iconst 0, 1) := by decide +kernel
theorem dX10_withPitch_3 : decode cX10_withPitch 3 = .ok (.bipush 11, 2) := by decide +kernel
theorem dX10_withPitch_5 : decode cX10_withPitch 5 = .ok (.invokestatic 58, 3) := by decide +kernel
theorem dX10_withPitch_8 : decode cX10_withPitch 8 = .ok (.ifCond .eq 7, 3) := by decide +kernel
theorem dX10_withPitch_11 : decode cX10_withPitch 11 = .ok (.iconst 0, 1) := by decide +kernel
theorem dX10_withPitch_12 : decode cX10_withPitch 12 = .ok (.goto 4, 3) := by decide +kernel
theorem dX10_withPitch_15 : decode cX10_withPitch 15 = .ok (.iconst 1, 1) := by decide +kernel
theorem dX10_withPitch_16 : decode cX10_withPitch 16 = .ok (.putfield 36, 3) := by decide +kernel
theorem dX10_withPitch_19 : decode cX10_withPitch 19 = .ok (.iconst 0, 1) := by decide +kernel
theorem dX10_withPitch_20 : decode cX10_withPitch 20 = .ok (.istore_n 2, 1) := by decide +kernel
theorem dX10_withPitch_21 : decode cX10_withPitch 21 = .ok (.iconst 0, 1) := by decide +kernel
theorem dX10_withPitch_22 : decode cX10_withPitch 22 = .ok (.istore_n 3, 1) := by decide +kernel
theorem dX10_withPitch_23 : decode cX10_withPitch 23 = .ok (.iload_n 3, 1) := by decide +kernel
theorem dX10_withPitch_24 : decode cX10_withPitch 24 = .ok (.aload_n 0, 1) := by decide +kernel
theorem dX10_withPitch_25 : decode cX10_withPitch 25 = .ok (.getfield 9, 3) := by decide +kernel
theorem dX10_withPitch_28 : decode cX10_withPitch 28 = .ok (.iconst 1, 1) := by decide +kernel
theorem dX10_withPitch_29 : decode cX10_withPitch 29 = .ok (.iaload, 1) := by decide +kernel
theorem dX10_withPitch_30 : decode cX10_withPitch 30 = .ok (.if_icmp .ge 41, 3) := by decide +kernel
theorem dX10_withPitch_33 : decode cX10_withPitch 33 = .ok (.aload_n 0, 1) := by decide +kernel
theorem dX10_withPitch_34 : decode cX10_withPitch 34 = .ok (.getfield 36, 3) := by decide +kernel
theorem dX10_withPitch_37 : decode cX10_withPitch 37 = .ok (.ifCond .ne 34, 3) := by decide +kernel
theorem dX10_withPitch_40 : decode cX10_withPitch 40 = .ok (.iload_n 2, 1) := by decide +kernel
theorem dX10_withPitch_41 : decode cX10_withPitch 41 = .ok (.aload_n 0, 1) := by decide +kernel
theorem dX10_withPitch_42 : decode cX10_withPitch 42 = .ok (.iload_n 3, 1) := by decide +kernel
theorem dX10_withPitch_43 : decode cX10_withPitch 43 = .ok (.invokevirtual 134, 3) := by decide +kernel
theorem dX10_withPitch_46 : decode cX10_withPitch 46 = .ok (.ifCond .eq 16, 3) := by decide +kernel
theorem dX10_withPitch_49 : decode cX10_withPitch 49 = .ok (.aload_n 0, 1) := by decide +kernel
theorem dX10_withPitch_50 : decode cX10_withPitch 50 = .ok (.iload_n 3, 1) := by decide +kernel
theorem dX10_withPitch_51 : decode cX10_withPitch 51 = .ok (.invokevirtual 140, 3) := by decide +kernel
theorem dX10_withPitch_54 : decode cX10_withPitch 54 = .ok (.iload_n 1, 1) := by decide +kernel
theorem dX10_withPitch_55 : decode cX10_withPitch 55 = .ok (.if_icmp .ne 7, 3) := by decide +kernel
theorem dX10_withPitch_58 : decode cX10_withPitch 58 = .ok (.iconst 1, 1) := by decide +kernel
theorem dX10_withPitch_59 : decode cX10_withPitch 59 = .ok (.goto 4, 3) := by decide +kernel
theorem dX10_withPitch_62 : decode cX10_withPitch 62 = .ok (.iconst 0, 1) := by decide +kernel
theorem dX10_withPitch_63 : decode cX10_withPitch 63 = .ok (.iadd, 1) := by decide +kernel
theorem dX10_withPitch_64 : decode cX10_withPitch 64 = .ok (.istore_n 2, 1) := by decide +kernel
theorem dX10_withPitch_65 : decode cX10_withPitch 65 = .ok (.iinc 3 1, 3) := by decide +kernel
theorem dX10_withPitch_68 : decode cX10_withPitch 68 = .ok (.goto (-45), 3) := by decide +kernel
theorem dX10_withPitch_71 : decode cX10_withPitch 71 = .ok (.iload_n 2, 1) := by decide +kernel
theorem dX10_withPitch_72 : decode cX10_withPitch 72 = .ok (.ireturn, 1) := by decide +kernel
theorem dX10_ahead_0 : decode cX10_ahead 0 = .ok (.iload_n 3, 1) := by decide +kernel
theorem dX10_ahead_1 : decode cX10_ahead 1 = .ok (.ifCond .eq 52, 3) := by decide +kernel
theorem dX10_ahead_4 : decode cX10_ahead 4 = .ok (.aload_n 0, 1) := by decide +kernel
theorem dX10_ahead_5 : decode cX10_ahead 5 = .ok (.iload_n 1, 1) := by decide +kernel
theorem dX10_ahead_6 : decode cX10_ahead 6 = .ok (.iconst 4, 1) := by decide +kernel
theorem dX10_ahead_7 : decode cX10_ahead 7 = .ok (.invokevirtual 137, 3) := by decide +kernel
theorem dX10_ahead_10 : decode cX10_ahead 10 = .ok (.aload_n 0, 1) := by decide +kernel
theorem dX10_ahead_11 : decode cX10_ahead 11 = .ok (.iload_n 2, 1) := by decide +kernel
theorem dX10_ahead_12 : decode cX10_ahead 12 = .ok (.iconst 4, 1) := by decide +kernel
theorem dX10_ahead_13 : decode cX10_ahead 13 = .ok (.invokevirtual 137, 3) := by decide +kernel
theorem dX10_ahead_16 : decode cX10_ahead 16 = .ok (.isub, 1) := by decide +kernel
theorem dX10_ahead_17 : decode cX10_ahead 17 = .ok (.istore 4, 2) := by decide +kernel
theorem dX10_ahead_19 : decode cX10_ahead 19 = .ok (.iload 4, 2) := by decide +kernel
theorem dX10_ahead_21 : decode cX10_ahead 21 = .ok (.ifCond .eq 8, 3) := by decide +kernel
theorem dX10_ahead_24 : decode cX10_ahead 24 = .ok (.iload 4, 2) := by decide +kernel
theorem dX10_ahead_26 : decode cX10_ahead 26 = .ok (.goto 26, 3) := by decide +kernel
theorem dX10_ahead_29 : decode cX10_ahead 29 = .ok (.aload_n 0, 1) := by decide +kernel
theorem dX10_ahead_30 : decode cX10_ahead 30 = .ok (.getfield 9, 3) := by decide +kernel
theorem dX10_ahead_33 : decode cX10_ahead 33 = .ok (.bipush 11, 2) := by decide +kernel
theorem dX10_ahead_35 : decode cX10_ahead 35 = .ok (.iconst 2, 1) := by decide +kernel
theorem dX10_ahead_36 : decode cX10_ahead 36 = .ok (.iload_n 1, 1) := by decide +kernel
theorem dX10_ahead_37 : decode cX10_ahead 37 = .ok (.imul, 1) := by decide +kernel
theorem dX10_ahead_38 : decode cX10_ahead 38 = .ok (.iadd, 1) := by decide +kernel
theorem dX10_ahead_39 : decode cX10_ahead 39 = .ok (.iaload, 1) := by decide +kernel
theorem dX10_ahead_40 : decode cX10_ahead 40 = .ok (.aload_n 0, 1) := by decide +kernel
theorem dX10_ahead_41 : decode cX10_ahead 41 = .ok (.getfield 9, 3) := by decide +kernel
theorem dX10_ahead_44 : decode cX10_ahead 44 = .ok (.bipush 11, 2) := by decide +kernel
theorem dX10_ahead_46 : decode cX10_ahead 46 = .ok (.iconst 2, 1) := by decide +kernel
theorem dX10_ahead_47 : decode cX10_ahead 47 = .ok (.iload_n 2, 1) := by decide +kernel
theorem dX10_ahead_48 : decode cX10_ahead 48 = .ok (.imul, 1) := by decide +kernel
theorem dX10_ahead_49 : decode cX10_ahead 49 = .ok (.iadd, 1) := by decide +kernel
theorem dX10_ahead_50 : decode cX10_ahead 50 = .ok (.iaload, 1) := by decide +kernel
theorem dX10_ahead_51 : decode cX10_ahead 51 = .ok (.isub, 1) := by decide +kernel
theorem dX10_ahead_52 : decode cX10_ahead 52 = .ok (.ireturn, 1) := by decide +kernel
theorem dX10_ahead_53 : decode cX10_ahead 53 = .ok (.aload_n 0, 1) := by decide +kernel
theorem dX10_ahead_54 : decode cX10_ahead 54 = .ok (.iload_n 1, 1) := by decide +kernel
theorem dX10_ahead_55 : decode cX10_ahead 55 = .ok (.invokevirtual 140, 3) := by decide +kernel
theorem dX10_ahead_58 : decode cX10_ahead 58 = .ok (.aload_n 0, 1) := by decide +kernel
theorem dX10_ahead_59 : decode cX10_ahead 59 = .ok (.iload_n 2, 1) := by decide +kernel
theorem dX10_ahead_60 : decode cX10_ahead 60 = .ok (.invokevirtual 140, 3) := by decide +kernel
theorem dX10_ahead_63 : decode cX10_ahead 63 = .ok (.isub, 1) := by decide +kernel
theorem dX10_ahead_64 : decode cX10_ahead 64 = .ok (.istore 4, 2) := by decide +kernel
theorem dX10_ahead_66 : decode cX10_ahead 66 = .ok (.iload 4, 2) := by decide +kernel
theorem dX10_ahead_68 : decode cX10_ahead 68 = .ok (.ifCond .eq 8, 3) := by decide +kernel
theorem dX10_ahead_71 : decode cX10_ahead 71 = .ok (.iload 4, 2) := by decide +kernel
theorem dX10_ahead_73 : decode cX10_ahead 73 = .ok (.goto 16, 3) := by decide +kernel
theorem dX10_ahead_76 : decode cX10_ahead 76 = .ok (.aload_n 0, 1) := by decide +kernel
theorem dX10_ahead_77 : decode cX10_ahead 77 = .ok (.iload_n 1, 1) := by decide +kernel
theorem dX10_ahead_78 : decode cX10_ahead 78 = .ok (.iconst 2, 1) := by decide +kernel
theorem dX10_ahead_79 : decode cX10_ahead 79 = .ok (.invokevirtual 62, 3) := by decide +kernel
theorem dX10_ahead_82 : decode cX10_ahead 82 = .ok (.aload_n 0, 1) := by decide +kernel
theorem dX10_ahead_83 : decode cX10_ahead 83 = .ok (.iload_n 2, 1) := by decide +kernel
theorem dX10_ahead_84 : decode cX10_ahead 84 = .ok (.iconst 2, 1) := by decide +kernel
theorem dX10_ahead_85 : decode cX10_ahead 85 = .ok (.invokevirtual 62, 3) := by decide +kernel
theorem dX10_ahead_88 : decode cX10_ahead 88 = .ok (.isub, 1) := by decide +kernel
theorem dX10_ahead_89 : decode cX10_ahead 89 = .ok (.ireturn, 1) := by decide +kernel
theorem dX10_placed_0 : decode cX10_placed 0 = .ok (.iconst 0, 1) := by decide +kernel
theorem dX10_placed_1 : decode cX10_placed 1 = .ok (.istore 4, 2) := by decide +kernel
theorem dX10_placed_3 : decode cX10_placed 3 = .ok (.iconst 0, 1) := by decide +kernel
theorem dX10_placed_4 : decode cX10_placed 4 = .ok (.istore 5, 2) := by decide +kernel
theorem dX10_placed_6 : decode cX10_placed 6 = .ok (.iload 5, 2) := by decide +kernel
theorem dX10_placed_8 : decode cX10_placed 8 = .ok (.iload_n 2, 1) := by decide +kernel
theorem dX10_placed_9 : decode cX10_placed 9 = .ok (.if_icmp .ge 131, 3) := by decide +kernel
theorem dX10_placed_12 : decode cX10_placed 12 = .ok (.iconst 0, 1) := by decide +kernel
theorem dX10_placed_13 : decode cX10_placed 13 = .ok (.istore 6, 2) := by decide +kernel
theorem dX10_placed_15 : decode cX10_placed 15 = .ok (.iconst 0, 1) := by decide +kernel
theorem dX10_placed_16 : decode cX10_placed 16 = .ok (.istore 7, 2) := by decide +kernel
theorem dX10_placed_18 : decode cX10_placed 18 = .ok (.iload 7, 2) := by decide +kernel
theorem dX10_placed_20 : decode cX10_placed 20 = .ok (.iload_n 2, 1) := by decide +kernel
theorem dX10_placed_21 : decode cX10_placed 21 = .ok (.if_icmp .ge 85, 3) := by decide +kernel
theorem dX10_placed_24 : decode cX10_placed 24 = .ok (.iload_n 3, 1) := by decide +kernel
theorem dX10_placed_25 : decode cX10_placed 25 = .ok (.ifCond .ne 21, 3) := by decide +kernel
theorem dX10_placed_28 : decode cX10_placed 28 = .ok (.aload_n 0, 1) := by decide +kernel
theorem dX10_placed_29 : decode cX10_placed 29 = .ok (.iload 5, 2) := by decide +kernel
theorem dX10_placed_31 : decode cX10_placed 31 = .ok (.invokevirtual 134, 3) := by decide +kernel
theorem dX10_placed_34 : decode cX10_placed 34 = .ok (.ifCond .eq 16, 3) := by decide +kernel
theorem dX10_placed_37 : decode cX10_placed 37 = .ok (.aload_n 0, 1) := by decide +kernel
theorem dX10_placed_38 : decode cX10_placed 38 = .ok (.iload 7, 2) := by decide +kernel
theorem dX10_placed_40 : decode cX10_placed 40 = .ok (.invokevirtual 134, 3) := by decide +kernel
theorem dX10_placed_43 : decode cX10_placed 43 = .ok (.ifCond .eq 7, 3) := by decide +kernel
theorem dX10_placed_46 : decode cX10_placed 46 = .ok (.iconst 1, 1) := by decide +kernel
theorem dX10_placed_47 : decode cX10_placed 47 = .ok (.goto 4, 3) := by decide +kernel
theorem dX10_placed_50 : decode cX10_placed 50 = .ok (.iconst 0, 1) := by decide +kernel
theorem dX10_placed_51 : decode cX10_placed 51 = .ok (.istore 8, 2) := by decide +kernel
theorem dX10_placed_53 : decode cX10_placed 53 = .ok (.iload 8, 2) := by decide +kernel
theorem dX10_placed_55 : decode cX10_placed 55 = .ok (.ifCond .eq 15, 3) := by decide +kernel
theorem dX10_placed_58 : decode cX10_placed 58 = .ok (.aload_n 0, 1) := by decide +kernel
theorem dX10_placed_59 : decode cX10_placed 59 = .ok (.iload 7, 2) := by decide +kernel
theorem dX10_placed_61 : decode cX10_placed 61 = .ok (.iload 5, 2) := by decide +kernel
theorem dX10_placed_63 : decode cX10_placed 63 = .ok (.iload_n 3, 1) := by decide +kernel
theorem dX10_placed_64 : decode cX10_placed 64 = .ok (.invokevirtual 192, 3) := by decide +kernel
theorem dX10_placed_67 : decode cX10_placed 67 = .ok (.goto 4, 3) := by decide +kernel
theorem dX10_placed_70 : decode cX10_placed 70 = .ok (.iconst (-1), 1) := by decide +kernel
theorem dX10_placed_71 : decode cX10_placed 71 = .ok (.istore 9, 2) := by decide +kernel
theorem dX10_placed_73 : decode cX10_placed 73 = .ok (.iload 6, 2) := by decide +kernel
theorem dX10_placed_75 : decode cX10_placed 75 = .ok (.iload 9, 2) := by decide +kernel
theorem dX10_placed_77 : decode cX10_placed 77 = .ok (.ifCond .gt 15, 3) := by decide +kernel
theorem dX10_placed_80 : decode cX10_placed 80 = .ok (.iload 9, 2) := by decide +kernel
theorem dX10_placed_82 : decode cX10_placed 82 = .ok (.ifCond .ne 14, 3) := by decide +kernel
theorem dX10_placed_85 : decode cX10_placed 85 = .ok (.iload 7, 2) := by decide +kernel
theorem dX10_placed_87 : decode cX10_placed 87 = .ok (.iload 5, 2) := by decide +kernel
theorem dX10_placed_89 : decode cX10_placed 89 = .ok (.if_icmp .ge 7, 3) := by decide +kernel
theorem dX10_placed_92 : decode cX10_placed 92 = .ok (.iconst 1, 1) := by decide +kernel
theorem dX10_placed_93 : decode cX10_placed 93 = .ok (.goto 4, 3) := by decide +kernel
theorem dX10_placed_96 : decode cX10_placed 96 = .ok (.iconst 0, 1) := by decide +kernel
theorem dX10_placed_97 : decode cX10_placed 97 = .ok (.iadd, 1) := by decide +kernel
theorem dX10_placed_98 : decode cX10_placed 98 = .ok (.istore 6, 2) := by decide +kernel
theorem dX10_placed_100 : decode cX10_placed 100 = .ok (.iinc 7 1, 3) := by decide +kernel
theorem dX10_placed_103 : decode cX10_placed 103 = .ok (.goto (-85), 3) := by decide +kernel
theorem dX10_placed_106 : decode cX10_placed 106 = .ok (.iload 6, 2) := by decide +kernel
theorem dX10_placed_108 : decode cX10_placed 108 = .ok (.iload_n 1, 1) := by decide +kernel
theorem dX10_placed_109 : decode cX10_placed 109 = .ok (.if_icmp .ne 21, 3) := by decide +kernel
theorem dX10_placed_112 : decode cX10_placed 112 = .ok (.iload_n 3, 1) := by decide +kernel
theorem dX10_placed_113 : decode cX10_placed 113 = .ok (.ifCond .ne 12, 3) := by decide +kernel
theorem dX10_placed_116 : decode cX10_placed 116 = .ok (.aload_n 0, 1) := by decide +kernel
theorem dX10_placed_117 : decode cX10_placed 117 = .ok (.iload 5, 2) := by decide +kernel
theorem dX10_placed_119 : decode cX10_placed 119 = .ok (.invokevirtual 134, 3) := by decide +kernel
theorem dX10_placed_122 : decode cX10_placed 122 = .ok (.ifCond .eq 8, 3) := by decide +kernel
theorem dX10_placed_125 : decode cX10_placed 125 = .ok (.iload 5, 2) := by decide +kernel
theorem dX10_placed_127 : decode cX10_placed 127 = .ok (.goto 5, 3) := by decide +kernel
theorem dX10_placed_130 : decode cX10_placed 130 = .ok (.iload 4, 2) := by decide +kernel
theorem dX10_placed_132 : decode cX10_placed 132 = .ok (.istore 4, 2) := by decide +kernel
theorem dX10_placed_134 : decode cX10_placed 134 = .ok (.iinc 5 1, 3) := by decide +kernel
theorem dX10_placed_137 : decode cX10_placed 137 = .ok (.goto (-131), 3) := by decide +kernel
theorem dX10_placed_140 : decode cX10_placed 140 = .ok (.iload 4, 2) := by decide +kernel
theorem dX10_placed_142 : decode cX10_placed 142 = .ok (.ireturn, 1) := by decide +kernel
theorem dX10_loudest_0 : decode cX10_loudest 0 = .ok (.aload_n 0, 1) := by decide +kernel
theorem dX10_loudest_1 : decode cX10_loudest 1 = .ok (.iload_n 1, 1) := by decide +kernel
theorem dX10_loudest_2 : decode cX10_loudest 2 = .ok (.invokestatic 89, 3) := by decide +kernel
theorem dX10_loudest_5 : decode cX10_loudest 5 = .ok (.ifCond .eq 7, 3) := by decide +kernel
theorem dX10_loudest_8 : decode cX10_loudest 8 = .ok (.iconst 0, 1) := by decide +kernel
theorem dX10_loudest_9 : decode cX10_loudest 9 = .ok (.goto 4, 3) := by decide +kernel
theorem dX10_loudest_12 : decode cX10_loudest 12 = .ok (.iconst 1, 1) := by decide +kernel
theorem dX10_loudest_13 : decode cX10_loudest 13 = .ok (.putfield 36, 3) := by decide +kernel
theorem dX10_loudest_16 : decode cX10_loudest 16 = .ok (.aload_n 0, 1) := by decide +kernel
theorem dX10_loudest_17 : decode cX10_loudest 17 = .ok (.getfield 36, 3) := by decide +kernel
theorem dX10_loudest_20 : decode cX10_loudest 20 = .ok (.ifCond .le 7, 3) := by decide +kernel
theorem dX10_loudest_23 : decode cX10_loudest 23 = .ok (.iconst 0, 1) := by decide +kernel
theorem dX10_loudest_24 : decode cX10_loudest 24 = .ok (.goto 10, 3) := by decide +kernel
theorem dX10_loudest_27 : decode cX10_loudest 27 = .ok (.aload_n 0, 1) := by decide +kernel
theorem dX10_loudest_28 : decode cX10_loudest 28 = .ok (.iload_n 1, 1) := by decide +kernel
theorem dX10_loudest_29 : decode cX10_loudest 29 = .ok (.iconst 4, 1) := by decide +kernel
theorem dX10_loudest_30 : decode cX10_loudest 30 = .ok (.iconst 1, 1) := by decide +kernel
theorem dX10_loudest_31 : decode cX10_loudest 31 = .ok (.invokevirtual 195, 3) := by decide +kernel
theorem dX10_loudest_34 : decode cX10_loudest 34 = .ok (.ireturn, 1) := by decide +kernel
theorem dX10_highest_0 : decode cX10_highest 0 = .ok (.aload_n 0, 1) := by decide +kernel
theorem dX10_highest_1 : decode cX10_highest 1 = .ok (.iload_n 1, 1) := by decide +kernel
theorem dX10_highest_2 : decode cX10_highest 2 = .ok (.iconst 0, 1) := by decide +kernel
theorem dX10_highest_3 : decode cX10_highest 3 = .ok (.aload_n 0, 1) := by decide +kernel
theorem dX10_highest_4 : decode cX10_highest 4 = .ok (.invokevirtual 189, 3) := by decide +kernel
theorem dX10_highest_7 : decode cX10_highest 7 = .ok (.iconst 1, 1) := by decide +kernel
theorem dX10_highest_8 : decode cX10_highest 8 = .ok (.isub, 1) := by decide +kernel
theorem dX10_highest_9 : decode cX10_highest 9 = .ok (.invokestatic 58, 3) := by decide +kernel
theorem dX10_highest_12 : decode cX10_highest 12 = .ok (.ifCond .eq 7, 3) := by decide +kernel
theorem dX10_highest_15 : decode cX10_highest 15 = .ok (.iconst 0, 1) := by decide +kernel
theorem dX10_highest_16 : decode cX10_highest 16 = .ok (.goto 4, 3) := by decide +kernel
theorem dX10_highest_19 : decode cX10_highest 19 = .ok (.iconst 1, 1) := by decide +kernel
theorem dX10_highest_20 : decode cX10_highest 20 = .ok (.putfield 36, 3) := by decide +kernel
theorem dX10_highest_23 : decode cX10_highest 23 = .ok (.aload_n 0, 1) := by decide +kernel
theorem dX10_highest_24 : decode cX10_highest 24 = .ok (.getfield 36, 3) := by decide +kernel
theorem dX10_highest_27 : decode cX10_highest 27 = .ok (.ifCond .le 7, 3) := by decide +kernel
theorem dX10_highest_30 : decode cX10_highest 30 = .ok (.iconst 0, 1) := by decide +kernel
theorem dX10_highest_31 : decode cX10_highest 31 = .ok (.goto 15, 3) := by decide +kernel
theorem dX10_highest_34 : decode cX10_highest 34 = .ok (.aload_n 0, 1) := by decide +kernel
theorem dX10_highest_35 : decode cX10_highest 35 = .ok (.iload_n 1, 1) := by decide +kernel
theorem dX10_highest_36 : decode cX10_highest 36 = .ok (.aload_n 0, 1) := by decide +kernel
theorem dX10_highest_37 : decode cX10_highest 37 = .ok (.getfield 9, 3) := by decide +kernel
theorem dX10_highest_40 : decode cX10_highest 40 = .ok (.iconst 1, 1) := by decide +kernel
theorem dX10_highest_41 : decode cX10_highest 41 = .ok (.iaload, 1) := by decide +kernel
theorem dX10_highest_42 : decode cX10_highest 42 = .ok (.iconst 0, 1) := by decide +kernel
theorem dX10_highest_43 : decode cX10_highest 43 = .ok (.invokevirtual 195, 3) := by decide +kernel
theorem dX10_highest_46 : decode cX10_highest 46 = .ok (.ireturn, 1) := by decide +kernel
theorem dX10_says_0 : decode cX10_says 0 = .ok (.aload_n 0, 1) := by decide +kernel
theorem dX10_says_1 : decode cX10_says 1 = .ok (.getfield 22, 3) := by decide +kernel
theorem dX10_says_4 : decode cX10_says 4 = .ok (.aload_n 0, 1) := by decide +kernel
theorem dX10_says_5 : decode cX10_says 5 = .ok (.getfield 198, 3) := by decide +kernel
theorem dX10_says_8 : decode cX10_says 8 = .ok (.iload_n 1, 1) := by decide +kernel
theorem dX10_says_9 : decode cX10_says 9 = .ok (.castore, 1) := by decide +kernel
theorem dX10_says_10 : decode cX10_says 10 = .ok (.aload_n 0, 1) := by decide +kernel
theorem dX10_says_11 : decode cX10_says 11 = .ok (.dup, 1) := by decide +kernel
theorem dX10_says_12 : decode cX10_says 12 = .ok (.getfield 198, 3) := by decide +kernel
theorem dX10_says_15 : decode cX10_says 15 = .ok (.iconst 1, 1) := by decide +kernel
theorem dX10_says_16 : decode cX10_says 16 = .ok (.iadd, 1) := by decide +kernel
theorem dX10_says_17 : decode cX10_says 17 = .ok (.putfield 198, 3) := by decide +kernel
theorem dX10_says_20 : decode cX10_says 20 = .ok (.return_, 1) := by decide +kernel
theorem dX10_saysNumber_0 : decode cX10_saysNumber 0 = .ok (.iload_n 1, 1) := by decide +kernel
theorem dX10_saysNumber_1 : decode cX10_saysNumber 1 = .ok (.bipush 9, 2) := by decide +kernel
theorem dX10_saysNumber_3 : decode cX10_saysNumber 3 = .ok (.if_icmp .le 11, 3) := by decide +kernel
theorem dX10_saysNumber_6 : decode cX10_saysNumber 6 = .ok (.aload_n 0, 1) := by decide +kernel
theorem dX10_saysNumber_7 : decode cX10_saysNumber 7 = .ok (.iload_n 1, 1) := by decide +kernel
theorem dX10_saysNumber_8 : decode cX10_saysNumber 8 = .ok (.bipush 10, 2) := by decide +kernel
theorem dX10_saysNumber_10 : decode cX10_saysNumber 10 = .ok (.idiv, 1) := by decide +kernel
theorem dX10_saysNumber_11 : decode cX10_saysNumber 11 = .ok (.invokevirtual 201, 3) := by decide +kernel
theorem dX10_saysNumber_14 : decode cX10_saysNumber 14 = .ok (.aload_n 0, 1) := by decide +kernel
theorem dX10_saysNumber_15 : decode cX10_saysNumber 15 = .ok (.bipush 48, 2) := by decide +kernel
theorem dX10_saysNumber_17 : decode cX10_saysNumber 17 = .ok (.iload_n 1, 1) := by decide +kernel
theorem dX10_saysNumber_18 : decode cX10_saysNumber 18 = .ok (.bipush 10, 2) := by decide +kernel
theorem dX10_saysNumber_20 : decode cX10_saysNumber 20 = .ok (.irem, 1) := by decide +kernel
theorem dX10_saysNumber_21 : decode cX10_saysNumber 21 = .ok (.iadd, 1) := by decide +kernel
theorem dX10_saysNumber_22 : decode cX10_saysNumber 22 = .ok (.i2c, 1) := by decide +kernel
theorem dX10_saysNumber_23 : decode cX10_saysNumber 23 = .ok (.invokevirtual 205, 3) := by decide +kernel
theorem dX10_saysNumber_26 : decode cX10_saysNumber 26 = .ok (.return_, 1) := by decide +kernel
theorem dX10_line_0 : decode cX10_line 0 = .ok (.aload_n 0, 1) := by decide +kernel
theorem dX10_line_1 : decode cX10_line 1 = .ok (.aload_n 0, 1) := by decide +kernel
theorem dX10_line_2 : decode cX10_line 2 = .ok (.iload_n 1, 1) := by decide +kernel
theorem dX10_line_3 : decode cX10_line 3 = .ok (.invokevirtual 149, 3) := by decide +kernel
theorem dX10_line_6 : decode cX10_line 6 = .ok (.ifCond .eq 7, 3) := by decide +kernel
theorem dX10_line_9 : decode cX10_line 9 = .ok (.iconst 0, 1) := by decide +kernel
theorem dX10_line_10 : decode cX10_line 10 = .ok (.goto 4, 3) := by decide +kernel
theorem dX10_line_13 : decode cX10_line 13 = .ok (.iconst 1, 1) := by decide +kernel
theorem dX10_line_14 : decode cX10_line 14 = .ok (.putfield 36, 3) := by decide +kernel
theorem dX10_line_17 : decode cX10_line 17 = .ok (.aload_n 0, 1) := by decide +kernel
theorem dX10_line_18 : decode cX10_line 18 = .ok (.getfield 36, 3) := by decide +kernel
theorem dX10_line_21 : decode cX10_line 21 = .ok (.ifCond .le 5, 3) := by decide +kernel
theorem dX10_line_24 : decode cX10_line 24 = .ok (.iconst 0, 1) := by decide +kernel
theorem dX10_line_25 : decode cX10_line 25 = .ok (.ireturn, 1) := by decide +kernel
theorem dX10_line_26 : decode cX10_line 26 = .ok (.aload_n 0, 1) := by decide +kernel
theorem dX10_line_27 : decode cX10_line 27 = .ok (.iconst 0, 1) := by decide +kernel
theorem dX10_line_28 : decode cX10_line 28 = .ok (.putfield 198, 3) := by decide +kernel
theorem dX10_line_31 : decode cX10_line 31 = .ok (.iconst 0, 1) := by decide +kernel
theorem dX10_line_32 : decode cX10_line 32 = .ok (.istore_n 2, 1) := by decide +kernel
theorem dX10_line_33 : decode cX10_line 33 = .ok (.iload_n 2, 1) := by decide +kernel
theorem dX10_line_34 : decode cX10_line 34 = .ok (.aload_n 0, 1) := by decide +kernel
theorem dX10_line_35 : decode cX10_line 35 = .ok (.getfield 9, 3) := by decide +kernel
theorem dX10_line_38 : decode cX10_line 38 = .ok (.iconst 1, 1) := by decide +kernel
theorem dX10_line_39 : decode cX10_line 39 = .ok (.iaload, 1) := by decide +kernel
theorem dX10_line_40 : decode cX10_line 40 = .ok (.if_icmp .ge 75, 3) := by decide +kernel
theorem dX10_line_43 : decode cX10_line 43 = .ok (.aload_n 0, 1) := by decide +kernel
theorem dX10_line_44 : decode cX10_line 44 = .ok (.iload_n 2, 1) := by decide +kernel
theorem dX10_line_45 : decode cX10_line 45 = .ok (.iload_n 1, 1) := by decide +kernel
theorem dX10_line_46 : decode cX10_line 46 = .ok (.invokevirtual 131, 3) := by decide +kernel
theorem dX10_line_49 : decode cX10_line 49 = .ok (.ifCond .le 60, 3) := by decide +kernel
theorem dX10_line_52 : decode cX10_line 52 = .ok (.aload_n 0, 1) := by decide +kernel
theorem dX10_line_53 : decode cX10_line 53 = .ok (.iload_n 2, 1) := by decide +kernel
theorem dX10_line_54 : decode cX10_line 54 = .ok (.iload_n 1, 1) := by decide +kernel
theorem dX10_line_55 : decode cX10_line 55 = .ok (.invokevirtual 164, 3) := by decide +kernel
theorem dX10_line_58 : decode cX10_line 58 = .ok (.ifCond .eq 9, 3) := by decide +kernel
theorem dX10_line_61 : decode cX10_line 61 = .ok (.aload_n 0, 1) := by decide +kernel
theorem dX10_line_62 : decode cX10_line 62 = .ok (.bipush 126, 2) := by decide +kernel
theorem dX10_line_64 : decode cX10_line 64 = .ok (.invokevirtual 205, 3) := by decide +kernel
theorem dX10_line_67 : decode cX10_line 67 = .ok (.aload_n 0, 1) := by decide +kernel
theorem dX10_line_68 : decode cX10_line 68 = .ok (.aload_n 0, 1) := by decide +kernel
theorem dX10_line_69 : decode cX10_line 69 = .ok (.iload_n 2, 1) := by decide +kernel
theorem dX10_line_70 : decode cX10_line 70 = .ok (.invokevirtual 134, 3) := by decide +kernel
theorem dX10_line_73 : decode cX10_line 73 = .ok (.ifCond .eq 15, 3) := by decide +kernel
theorem dX10_line_76 : decode cX10_line 76 = .ok (.bipush 97, 2) := by decide +kernel
theorem dX10_line_78 : decode cX10_line 78 = .ok (.aload_n 0, 1) := by decide +kernel
theorem dX10_line_79 : decode cX10_line 79 = .ok (.iload_n 2, 1) := by decide +kernel
theorem dX10_line_80 : decode cX10_line 80 = .ok (.invokevirtual 140, 3) := by decide +kernel
theorem dX10_line_83 : decode cX10_line 83 = .ok (.iadd, 1) := by decide +kernel
theorem dX10_line_84 : decode cX10_line 84 = .ok (.i2c, 1) := by decide +kernel
theorem dX10_line_85 : decode cX10_line 85 = .ok (.goto 5, 3) := by decide +kernel
theorem dX10_line_88 : decode cX10_line 88 = .ok (.bipush 46, 2) := by decide +kernel
theorem dX10_line_90 : decode cX10_line 90 = .ok (.invokevirtual 205, 3) := by decide +kernel
theorem dX10_line_93 : decode cX10_line 93 = .ok (.aload_n 0, 1) := by decide +kernel
theorem dX10_line_94 : decode cX10_line 94 = .ok (.aload_n 0, 1) := by decide +kernel
theorem dX10_line_95 : decode cX10_line 95 = .ok (.iload_n 2, 1) := by decide +kernel
theorem dX10_line_96 : decode cX10_line 96 = .ok (.iload_n 1, 1) := by decide +kernel
theorem dX10_line_97 : decode cX10_line 97 = .ok (.invokevirtual 131, 3) := by decide +kernel
theorem dX10_line_100 : decode cX10_line 100 = .ok (.invokevirtual 201, 3) := by decide +kernel
theorem dX10_line_103 : decode cX10_line 103 = .ok (.aload_n 0, 1) := by decide +kernel
theorem dX10_line_104 : decode cX10_line 104 = .ok (.bipush 32, 2) := by decide +kernel
theorem dX10_line_106 : decode cX10_line 106 = .ok (.invokevirtual 205, 3) := by decide +kernel
theorem dX10_line_109 : decode cX10_line 109 = .ok (.iinc 2 1, 3) := by decide +kernel
theorem dX10_line_112 : decode cX10_line 112 = .ok (.goto (-79), 3) := by decide +kernel
theorem dX10_line_115 : decode cX10_line 115 = .ok (.aload_n 0, 1) := by decide +kernel
theorem dX10_line_116 : decode cX10_line 116 = .ok (.bipush 95, 2) := by decide +kernel
theorem dX10_line_118 : decode cX10_line 118 = .ok (.invokevirtual 205, 3) := by decide +kernel
theorem dX10_line_121 : decode cX10_line 121 = .ok (.aload_n 0, 1) := by decide +kernel
theorem dX10_line_122 : decode cX10_line 122 = .ok (.aload_n 0, 1) := by decide +kernel
theorem dX10_line_123 : decode cX10_line 123 = .ok (.getfield 9, 3) := by decide +kernel
theorem dX10_line_126 : decode cX10_line 126 = .ok (.iconst 5, 1) := by decide +kernel
theorem dX10_line_127 : decode cX10_line 127 = .ok (.iload_n 1, 1) := by decide +kernel
theorem dX10_line_128 : decode cX10_line 128 = .ok (.iadd, 1) := by decide +kernel
theorem dX10_line_129 : decode cX10_line 129 = .ok (.iaload, 1) := by decide +kernel
theorem dX10_line_130 : decode cX10_line 130 = .ok (.aload_n 0, 1) := by decide +kernel
theorem dX10_line_131 : decode cX10_line 131 = .ok (.iload_n 1, 1) := by decide +kernel
theorem dX10_line_132 : decode cX10_line 132 = .ok (.invokevirtual 152, 3) := by decide +kernel
theorem dX10_line_135 : decode cX10_line 135 = .ok (.isub, 1) := by decide +kernel
theorem dX10_line_136 : decode cX10_line 136 = .ok (.invokevirtual 201, 3) := by decide +kernel
theorem dX10_line_139 : decode cX10_line 139 = .ok (.aload_n 0, 1) := by decide +kernel
theorem dX10_line_140 : decode cX10_line 140 = .ok (.getfield 198, 3) := by decide +kernel
theorem dX10_line_143 : decode cX10_line 143 = .ok (.ireturn, 1) := by decide +kernel
theorem dX10_tinLine_0 : decode cX10_tinLine 0 = .ok (.aload_n 0, 1) := by decide +kernel
theorem dX10_tinLine_1 : decode cX10_tinLine 1 = .ok (.iload_n 1, 1) := by decide +kernel
theorem dX10_tinLine_2 : decode cX10_tinLine 2 = .ok (.invokestatic 89, 3) := by decide +kernel
theorem dX10_tinLine_5 : decode cX10_tinLine 5 = .ok (.ifCond .eq 7, 3) := by decide +kernel
theorem dX10_tinLine_8 : decode cX10_tinLine 8 = .ok (.iconst 0, 1) := by decide +kernel
theorem dX10_tinLine_9 : decode cX10_tinLine 9 = .ok (.goto 4, 3) := by decide +kernel
theorem dX10_tinLine_12 : decode cX10_tinLine 12 = .ok (.iconst 1, 1) := by decide +kernel
theorem dX10_tinLine_13 : decode cX10_tinLine 13 = .ok (.putfield 36, 3) := by decide +kernel
theorem dX10_tinLine_16 : decode cX10_tinLine 16 = .ok (.aload_n 0, 1) := by decide +kernel
theorem dX10_tinLine_17 : decode cX10_tinLine 17 = .ok (.getfield 36, 3) := by decide +kernel
theorem dX10_tinLine_20 : decode cX10_tinLine 20 = .ok (.ifCond .le 5, 3) := by decide +kernel
theorem dX10_tinLine_23 : decode cX10_tinLine 23 = .ok (.iconst 0, 1) := by decide +kernel
theorem dX10_tinLine_24 : decode cX10_tinLine 24 = .ok (.ireturn, 1) := by decide +kernel
theorem dX10_tinLine_25 : decode cX10_tinLine 25 = .ok (.aload_n 0, 1) := by decide +kernel
theorem dX10_tinLine_26 : decode cX10_tinLine 26 = .ok (.iconst 0, 1) := by decide +kernel
theorem dX10_tinLine_27 : decode cX10_tinLine 27 = .ok (.putfield 198, 3) := by decide +kernel
theorem dX10_tinLine_30 : decode cX10_tinLine 30 = .ok (.aload_n 0, 1) := by decide +kernel
theorem dX10_tinLine_31 : decode cX10_tinLine 31 = .ok (.aload_n 0, 1) := by decide +kernel
theorem dX10_tinLine_32 : decode cX10_tinLine 32 = .ok (.getfield 9, 3) := by decide +kernel
theorem dX10_tinLine_35 : decode cX10_tinLine 35 = .ok (.bipush 11, 2) := by decide +kernel
theorem dX10_tinLine_37 : decode cX10_tinLine 37 = .ok (.iconst 2, 1) := by decide +kernel
theorem dX10_tinLine_38 : decode cX10_tinLine 38 = .ok (.iload_n 1, 1) := by decide +kernel
theorem dX10_tinLine_39 : decode cX10_tinLine 39 = .ok (.imul, 1) := by decide +kernel
theorem dX10_tinLine_40 : decode cX10_tinLine 40 = .ok (.iadd, 1) := by decide +kernel
theorem dX10_tinLine_41 : decode cX10_tinLine 41 = .ok (.iaload, 1) := by decide +kernel
theorem dX10_tinLine_42 : decode cX10_tinLine 42 = .ok (.invokevirtual 201, 3) := by decide +kernel
theorem dX10_tinLine_45 : decode cX10_tinLine 45 = .ok (.aload_n 0, 1) := by decide +kernel
theorem dX10_tinLine_46 : decode cX10_tinLine 46 = .ok (.bipush 47, 2) := by decide +kernel
theorem dX10_tinLine_48 : decode cX10_tinLine 48 = .ok (.invokevirtual 205, 3) := by decide +kernel
theorem dX10_tinLine_51 : decode cX10_tinLine 51 = .ok (.aload_n 0, 1) := by decide +kernel
theorem dX10_tinLine_52 : decode cX10_tinLine 52 = .ok (.aload_n 0, 1) := by decide +kernel
theorem dX10_tinLine_53 : decode cX10_tinLine 53 = .ok (.getfield 9, 3) := by decide +kernel
theorem dX10_tinLine_56 : decode cX10_tinLine 56 = .ok (.bipush 11, 2) := by decide +kernel
theorem dX10_tinLine_58 : decode cX10_tinLine 58 = .ok (.iconst 2, 1) := by decide +kernel
theorem dX10_tinLine_59 : decode cX10_tinLine 59 = .ok (.iload_n 1, 1) := by decide +kernel
theorem dX10_tinLine_60 : decode cX10_tinLine 60 = .ok (.imul, 1) := by decide +kernel
theorem dX10_tinLine_61 : decode cX10_tinLine 61 = .ok (.iadd, 1) := by decide +kernel
theorem dX10_tinLine_62 : decode cX10_tinLine 62 = .ok (.iconst 1, 1) := by decide +kernel
theorem dX10_tinLine_63 : decode cX10_tinLine 63 = .ok (.iadd, 1) := by decide +kernel
theorem dX10_tinLine_64 : decode cX10_tinLine 64 = .ok (.iaload, 1) := by decide +kernel
theorem dX10_tinLine_65 : decode cX10_tinLine 65 = .ok (.invokevirtual 201, 3) := by decide +kernel
theorem dX10_tinLine_68 : decode cX10_tinLine 68 = .ok (.aload_n 0, 1) := by decide +kernel
theorem dX10_tinLine_69 : decode cX10_tinLine 69 = .ok (.getfield 198, 3) := by decide +kernel
theorem dX10_tinLine_72 : decode cX10_tinLine 72 = .ok (.ireturn, 1) := by decide +kernel
theorem dX10_character_0 : decode cX10_character 0 = .ok (.aload_n 0, 1) := by decide +kernel
theorem dX10_character_1 : decode cX10_character 1 = .ok (.iload_n 1, 1) := by decide +kernel
theorem dX10_character_2 : decode cX10_character 2 = .ok (.iconst 0, 1) := by decide +kernel
theorem dX10_character_3 : decode cX10_character 3 = .ok (.aload_n 0, 1) := by decide +kernel
theorem dX10_character_4 : decode cX10_character 4 = .ok (.getfield 198, 3) := by decide +kernel
theorem dX10_character_7 : decode cX10_character 7 = .ok (.iconst 1, 1) := by decide +kernel
theorem dX10_character_8 : decode cX10_character 8 = .ok (.isub, 1) := by decide +kernel
theorem dX10_character_9 : decode cX10_character 9 = .ok (.invokestatic 58, 3) := by decide +kernel
theorem dX10_character_12 : decode cX10_character 12 = .ok (.ifCond .eq 7, 3) := by decide +kernel
theorem dX10_character_15 : decode cX10_character 15 = .ok (.iconst 0, 1) := by decide +kernel
theorem dX10_character_16 : decode cX10_character 16 = .ok (.goto 4, 3) := by decide +kernel
theorem dX10_character_19 : decode cX10_character 19 = .ok (.iconst 1, 1) := by decide +kernel
theorem dX10_character_20 : decode cX10_character 20 = .ok (.putfield 36, 3) := by decide +kernel
theorem dX10_character_23 : decode cX10_character 23 = .ok (.aload_n 0, 1) := by decide +kernel
theorem dX10_character_24 : decode cX10_character 24 = .ok (.getfield 36, 3) := by decide +kernel
theorem dX10_character_27 : decode cX10_character 27 = .ok (.ifCond .le 8, 3) := by decide +kernel
theorem dX10_character_30 : decode cX10_character 30 = .ok (.bipush 32, 2) := by decide +kernel
theorem dX10_character_32 : decode cX10_character 32 = .ok (.goto 9, 3) := by decide +kernel
theorem dX10_character_35 : decode cX10_character 35 = .ok (.aload_n 0, 1) := by decide +kernel
theorem dX10_character_36 : decode cX10_character 36 = .ok (.getfield 22, 3) := by decide +kernel
theorem dX10_character_39 : decode cX10_character 39 = .ok (.iload_n 1, 1) := by decide +kernel
theorem dX10_character_40 : decode cX10_character 40 = .ok (.caload, 1) := by decide +kernel
theorem dX10_character_41 : decode cX10_character 41 = .ok (.ireturn, 1) := by decide +kernel
theorem dX10_append_0 : decode cX10_append 0 = .ok (.aload_n 0, 1) := by decide +kernel
theorem dX10_append_1 : decode cX10_append 1 = .ok (.aload_n 0, 1) := by decide +kernel
theorem dX10_append_2 : decode cX10_append 2 = .ok (.getfield 209, 3) := by decide +kernel
theorem dX10_append_5 : decode cX10_append 5 = .ok (.bipush 60, 2) := by decide +kernel
theorem dX10_append_7 : decode cX10_append 7 = .ok (.if_icmp .ne 7, 3) := by decide +kernel
theorem dX10_append_10 : decode cX10_append 10 = .ok (.iconst 1, 1) := by decide +kernel
theorem dX10_append_11 : decode cX10_append 11 = .ok (.goto 4, 3) := by decide +kernel
theorem dX10_append_14 : decode cX10_append 14 = .ok (.iconst 0, 1) := by decide +kernel
theorem dX10_append_15 : decode cX10_append 15 = .ok (.putfield 36, 3) := by decide +kernel
theorem dX10_append_18 : decode cX10_append 18 = .ok (.aload_n 0, 1) := by decide +kernel
theorem dX10_append_19 : decode cX10_append 19 = .ok (.getfield 36, 3) := by decide +kernel
theorem dX10_append_22 : decode cX10_append 22 = .ok (.ifCond .le 5, 3) := by decide +kernel
theorem dX10_append_25 : decode cX10_append 25 = .ok (.iconst 0, 1) := by decide +kernel
theorem dX10_append_26 : decode cX10_append 26 = .ok (.ireturn, 1) := by decide +kernel
theorem dX10_append_27 : decode cX10_append 27 = .ok (.aload_n 0, 1) := by decide +kernel
theorem dX10_append_28 : decode cX10_append 28 = .ok (.getfield 26, 3) := by decide +kernel
theorem dX10_append_31 : decode cX10_append 31 = .ok (.aload_n 0, 1) := by decide +kernel
theorem dX10_append_32 : decode cX10_append 32 = .ok (.getfield 209, 3) := by decide +kernel
theorem dX10_append_35 : decode cX10_append 35 = .ok (.iload_n 1, 1) := by decide +kernel
theorem dX10_append_36 : decode cX10_append 36 = .ok (.castore, 1) := by decide +kernel
theorem dX10_append_37 : decode cX10_append 37 = .ok (.aload_n 0, 1) := by decide +kernel
theorem dX10_append_38 : decode cX10_append 38 = .ok (.dup, 1) := by decide +kernel
theorem dX10_append_39 : decode cX10_append 39 = .ok (.getfield 209, 3) := by decide +kernel
theorem dX10_append_42 : decode cX10_append 42 = .ok (.iconst 1, 1) := by decide +kernel
theorem dX10_append_43 : decode cX10_append 43 = .ok (.iadd, 1) := by decide +kernel
theorem dX10_append_44 : decode cX10_append 44 = .ok (.putfield 209, 3) := by decide +kernel
theorem dX10_append_47 : decode cX10_append 47 = .ok (.aload_n 0, 1) := by decide +kernel
theorem dX10_append_48 : decode cX10_append 48 = .ok (.getfield 209, 3) := by decide +kernel
theorem dX10_append_51 : decode cX10_append 51 = .ok (.ireturn, 1) := by decide +kernel
theorem dX10_isHere_0 : decode cX10_isHere 0 = .ok (.aload_n 0, 1) := by decide +kernel
theorem dX10_isHere_1 : decode cX10_isHere 1 = .ok (.getfield 212, 3) := by decide +kernel
theorem dX10_isHere_4 : decode cX10_isHere 4 = .ok (.ifCond .ne 35, 3) := by decide +kernel
theorem dX10_isHere_7 : decode cX10_isHere 7 = .ok (.aload_n 0, 1) := by decide +kernel
theorem dX10_isHere_8 : decode cX10_isHere 8 = .ok (.getfield 215, 3) := by decide +kernel
theorem dX10_isHere_11 : decode cX10_isHere 11 = .ok (.aload_n 0, 1) := by decide +kernel
theorem dX10_isHere_12 : decode cX10_isHere 12 = .ok (.getfield 209, 3) := by decide +kernel
theorem dX10_isHere_15 : decode cX10_isHere 15 = .ok (.if_icmp .ge 24, 3) := by decide +kernel
theorem dX10_isHere_18 : decode cX10_isHere 18 = .ok (.aload_n 0, 1) := by decide +kernel
theorem dX10_isHere_19 : decode cX10_isHere 19 = .ok (.getfield 26, 3) := by decide +kernel
theorem dX10_isHere_22 : decode cX10_isHere 22 = .ok (.aload_n 0, 1) := by decide +kernel
theorem dX10_isHere_23 : decode cX10_isHere 23 = .ok (.getfield 215, 3) := by decide +kernel
theorem dX10_isHere_26 : decode cX10_isHere 26 = .ok (.caload, 1) := by decide +kernel
theorem dX10_isHere_27 : decode cX10_isHere 27 = .ok (.iload_n 1, 1) := by decide +kernel
theorem dX10_isHere_28 : decode cX10_isHere 28 = .ok (.iload_n 2, 1) := by decide +kernel
theorem dX10_isHere_29 : decode cX10_isHere 29 = .ok (.invokestatic 58, 3) := by decide +kernel
theorem dX10_isHere_32 : decode cX10_isHere 32 = .ok (.ifCond .eq 7, 3) := by decide +kernel
theorem dX10_isHere_35 : decode cX10_isHere 35 = .ok (.iconst 1, 1) := by decide +kernel
theorem dX10_isHere_36 : decode cX10_isHere 36 = .ok (.goto 4, 3) := by decide +kernel
theorem dX10_isHere_39 : decode cX10_isHere 39 = .ok (.iconst 0, 1) := by decide +kernel
theorem dX10_isHere_40 : decode cX10_isHere 40 = .ok (.ireturn, 1) := by decide +kernel
theorem dX10_sign_0 : decode cX10_sign 0 = .ok (.aload_n 0, 1) := by decide +kernel
theorem dX10_sign_1 : decode cX10_sign 1 = .ok (.aload_n 0, 1) := by decide +kernel
theorem dX10_sign_2 : decode cX10_sign 2 = .ok (.getfield 212, 3) := by decide +kernel
theorem dX10_sign_5 : decode cX10_sign 5 = .ok (.ifCond .ne 12, 3) := by decide +kernel
theorem dX10_sign_8 : decode cX10_sign 8 = .ok (.aload_n 0, 1) := by decide +kernel
theorem dX10_sign_9 : decode cX10_sign 9 = .ok (.iload_n 1, 1) := by decide +kernel
theorem dX10_sign_10 : decode cX10_sign 10 = .ok (.iload_n 2, 1) := by decide +kernel
theorem dX10_sign_11 : decode cX10_sign 11 = .ok (.invokevirtual 218, 3) := by decide +kernel
theorem dX10_sign_14 : decode cX10_sign 14 = .ok (.ifCond .ne 7, 3) := by decide +kernel
theorem dX10_sign_17 : decode cX10_sign 17 = .ok (.iconst 1, 1) := by decide +kernel
theorem dX10_sign_18 : decode cX10_sign 18 = .ok (.goto 4, 3) := by decide +kernel
theorem dX10_sign_21 : decode cX10_sign 21 = .ok (.iconst 0, 1) := by decide +kernel
theorem dX10_sign_22 : decode cX10_sign 22 = .ok (.putfield 212, 3) := by decide +kernel
theorem dX10_sign_25 : decode cX10_sign 25 = .ok (.aload_n 0, 1) := by decide +kernel
theorem dX10_sign_26 : decode cX10_sign 26 = .ok (.getfield 212, 3) := by decide +kernel
theorem dX10_sign_29 : decode cX10_sign 29 = .ok (.ifCond .eq 5, 3) := by decide +kernel
theorem dX10_sign_32 : decode cX10_sign 32 = .ok (.iconst 0, 1) := by decide +kernel
theorem dX10_sign_33 : decode cX10_sign 33 = .ok (.ireturn, 1) := by decide +kernel
theorem dX10_sign_34 : decode cX10_sign 34 = .ok (.aload_n 0, 1) := by decide +kernel
theorem dX10_sign_35 : decode cX10_sign 35 = .ok (.dup, 1) := by decide +kernel
theorem dX10_sign_36 : decode cX10_sign 36 = .ok (.getfield 215, 3) := by decide +kernel
theorem dX10_sign_39 : decode cX10_sign 39 = .ok (.iconst 1, 1) := by decide +kernel
theorem dX10_sign_40 : decode cX10_sign 40 = .ok (.iadd, 1) := by decide +kernel
theorem dX10_sign_41 : decode cX10_sign 41 = .ok (.putfield 215, 3) := by decide +kernel
theorem dX10_sign_44 : decode cX10_sign 44 = .ok (.aload_n 0, 1) := by decide +kernel
theorem dX10_sign_45 : decode cX10_sign 45 = .ok (.getfield 26, 3) := by decide +kernel
theorem dX10_sign_48 : decode cX10_sign 48 = .ok (.aload_n 0, 1) := by decide +kernel
theorem dX10_sign_49 : decode cX10_sign 49 = .ok (.getfield 215, 3) := by decide +kernel
theorem dX10_sign_52 : decode cX10_sign 52 = .ok (.iconst 1, 1) := by decide +kernel
theorem dX10_sign_53 : decode cX10_sign 53 = .ok (.isub, 1) := by decide +kernel
theorem dX10_sign_54 : decode cX10_sign 54 = .ok (.caload, 1) := by decide +kernel
theorem dX10_sign_55 : decode cX10_sign 55 = .ok (.iload_n 1, 1) := by decide +kernel
theorem dX10_sign_56 : decode cX10_sign 56 = .ok (.isub, 1) := by decide +kernel
theorem dX10_sign_57 : decode cX10_sign 57 = .ok (.ireturn, 1) := by decide +kernel
theorem dX10_skip_0 : decode cX10_skip 0 = .ok (.iconst 0, 1) := by decide +kernel
theorem dX10_skip_1 : decode cX10_skip 1 = .ok (.istore_n 2, 1) := by decide +kernel
theorem dX10_skip_2 : decode cX10_skip 2 = .ok (.iload_n 2, 1) := by decide +kernel
theorem dX10_skip_3 : decode cX10_skip 3 = .ok (.aload_n 1, 1) := by decide +kernel
theorem dX10_skip_4 : decode cX10_skip 4 = .ok (.invokevirtual 222, 3) := by decide +kernel
theorem dX10_skip_7 : decode cX10_skip 7 = .ok (.if_icmp .ge 31, 3) := by decide +kernel
theorem dX10_skip_10 : decode cX10_skip 10 = .ok (.aload_n 0, 1) := by decide +kernel
theorem dX10_skip_11 : decode cX10_skip 11 = .ok (.getfield 212, 3) := by decide +kernel
theorem dX10_skip_14 : decode cX10_skip 14 = .ok (.ifCond .ne 24, 3) := by decide +kernel
theorem dX10_skip_17 : decode cX10_skip 17 = .ok (.aload_n 0, 1) := by decide +kernel
theorem dX10_skip_18 : decode cX10_skip 18 = .ok (.aload_n 1, 1) := by decide +kernel
theorem dX10_skip_19 : decode cX10_skip 19 = .ok (.iload_n 2, 1) := by decide +kernel
theorem dX10_skip_20 : decode cX10_skip 20 = .ok (.invokevirtual 226, 3) := by decide +kernel
theorem dX10_skip_23 : decode cX10_skip 23 = .ok (.aload_n 1, 1) := by decide +kernel
theorem dX10_skip_24 : decode cX10_skip 24 = .ok (.iload_n 2, 1) := by decide +kernel
theorem dX10_skip_25 : decode cX10_skip 25 = .ok (.invokevirtual 226, 3) := by decide +kernel
theorem dX10_skip_28 : decode cX10_skip 28 = .ok (.invokevirtual 230, 3) := by decide +kernel
theorem dX10_skip_31 : decode cX10_skip 31 = .ok (.istore_n 3, 1) := by decide +kernel
theorem dX10_skip_32 : decode cX10_skip 32 = .ok (.iinc 2 1, 3) := by decide +kernel
theorem dX10_skip_35 : decode cX10_skip 35 = .ok (.goto (-33), 3) := by decide +kernel
theorem dX10_skip_38 : decode cX10_skip 38 = .ok (.return_, 1) := by decide +kernel
theorem dX10_number_0 : decode cX10_number 0 = .ok (.aload_n 0, 1) := by decide +kernel
theorem dX10_number_1 : decode cX10_number 1 = .ok (.ldc 234, 2) := by decide +kernel
theorem dX10_number_3 : decode cX10_number 3 = .ok (.invokevirtual 236, 3) := by decide +kernel
theorem dX10_number_6 : decode cX10_number 6 = .ok (.aload_n 0, 1) := by decide +kernel
theorem dX10_number_7 : decode cX10_number 7 = .ok (.bipush 48, 2) := by decide +kernel
theorem dX10_number_9 : decode cX10_number 9 = .ok (.bipush 57, 2) := by decide +kernel
theorem dX10_number_11 : decode cX10_number 11 = .ok (.invokevirtual 230, 3) := by decide +kernel
theorem dX10_number_14 : decode cX10_number 14 = .ok (.istore_n 2, 1) := by decide +kernel
theorem dX10_number_15 : decode cX10_number 15 = .ok (.iload_n 1, 1) := by decide +kernel
theorem dX10_number_16 : decode cX10_number 16 = .ok (.ifCond .eq 30, 3) := by decide +kernel
theorem dX10_number_19 : decode cX10_number 19 = .ok (.aload_n 0, 1) := by decide +kernel
theorem dX10_number_20 : decode cX10_number 20 = .ok (.bipush 48, 2) := by decide +kernel
theorem dX10_number_22 : decode cX10_number 22 = .ok (.bipush 57, 2) := by decide +kernel
theorem dX10_number_24 : decode cX10_number 24 = .ok (.invokevirtual 218, 3) := by decide +kernel
theorem dX10_number_27 : decode cX10_number 27 = .ok (.ifCond .eq 19, 3) := by decide +kernel
theorem dX10_number_30 : decode cX10_number 30 = .ok (.bipush 10, 2) := by decide +kernel
theorem dX10_number_32 : decode cX10_number 32 = .ok (.iload_n 2, 1) := by decide +kernel
theorem dX10_number_33 : decode cX10_number 33 = .ok (.imul, 1) := by decide +kernel
theorem dX10_number_34 : decode cX10_number 34 = .ok (.aload_n 0, 1) := by decide +kernel
theorem dX10_number_35 : decode cX10_number 35 = .ok (.bipush 48, 2) := by decide +kernel
theorem dX10_number_37 : decode cX10_number 37 = .ok (.bipush 57, 2) := by decide +kernel
theorem dX10_number_39 : decode cX10_number 39 = .ok (.invokevirtual 230, 3) := by decide +kernel
theorem dX10_number_42 : decode cX10_number 42 = .ok (.iadd, 1) := by decide +kernel
theorem dX10_number_43 : decode cX10_number 43 = .ok (.goto 4, 3) := by decide +kernel
theorem dX10_number_46 : decode cX10_number 46 = .ok (.iload_n 2, 1) := by decide +kernel
theorem dX10_number_47 : decode cX10_number 47 = .ok (.ireturn, 1) := by decide +kernel
theorem dX10_behind_0 : decode cX10_behind 0 = .ok (.aload_n 0, 1) := by decide +kernel
theorem dX10_behind_1 : decode cX10_behind 1 = .ok (.getfield 215, 3) := by decide +kernel
theorem dX10_behind_4 : decode cX10_behind 4 = .ok (.iload_n 1, 1) := by decide +kernel
theorem dX10_behind_5 : decode cX10_behind 5 = .ok (.iadd, 1) := by decide +kernel
theorem dX10_behind_6 : decode cX10_behind 6 = .ok (.aload_n 0, 1) := by decide +kernel
theorem dX10_behind_7 : decode cX10_behind 7 = .ok (.getfield 209, 3) := by decide +kernel
theorem dX10_behind_10 : decode cX10_behind 10 = .ok (.if_icmp .ge 17, 3) := by decide +kernel
theorem dX10_behind_13 : decode cX10_behind 13 = .ok (.aload_n 0, 1) := by decide +kernel
theorem dX10_behind_14 : decode cX10_behind 14 = .ok (.getfield 26, 3) := by decide +kernel
theorem dX10_behind_17 : decode cX10_behind 17 = .ok (.aload_n 0, 1) := by decide +kernel
theorem dX10_behind_18 : decode cX10_behind 18 = .ok (.getfield 215, 3) := by decide +kernel
theorem dX10_behind_21 : decode cX10_behind 21 = .ok (.iload_n 1, 1) := by decide +kernel
theorem dX10_behind_22 : decode cX10_behind 22 = .ok (.iadd, 1) := by decide +kernel
theorem dX10_behind_23 : decode cX10_behind 23 = .ok (.caload, 1) := by decide +kernel
theorem dX10_behind_24 : decode cX10_behind 24 = .ok (.goto 4, 3) := by decide +kernel
theorem dX10_behind_27 : decode cX10_behind 27 = .ok (.iconst 0, 1) := by decide +kernel
theorem dX10_behind_28 : decode cX10_behind 28 = .ok (.ireturn, 1) := by decide +kernel
theorem dX10_readOrder_0 : decode cX10_readOrder 0 = .ok (.aload_n 0, 1) := by decide +kernel
theorem dX10_readOrder_1 : decode cX10_readOrder 1 = .ok (.getfield 212, 3) := by decide +kernel
theorem dX10_readOrder_4 : decode cX10_readOrder 4 = .ok (.ifCond .eq 4, 3) := by decide +kernel
theorem dX10_readOrder_7 : decode cX10_readOrder 7 = .ok (.return_, 1) := by decide +kernel
theorem dX10_readOrder_8 : decode cX10_readOrder 8 = .ok (.iconst 4, 1) := by decide +kernel
theorem dX10_readOrder_9 : decode cX10_readOrder 9 = .ok (.aload_n 0, 1) := by decide +kernel
theorem dX10_readOrder_10 : decode cX10_readOrder 10 = .ok (.getfield 240, 3) := by decide +kernel
theorem dX10_readOrder_13 : decode cX10_readOrder 13 = .ok (.imul, 1) := by decide +kernel
theorem dX10_readOrder_14 : decode cX10_readOrder 14 = .ok (.istore_n 1, 1) := by decide +kernel
theorem dX10_readOrder_15 : decode cX10_readOrder 15 = .ok (.aload_n 0, 1) := by decide +kernel
theorem dX10_readOrder_16 : decode cX10_readOrder 16 = .ok (.dup, 1) := by decide +kernel
theorem dX10_readOrder_17 : decode cX10_readOrder 17 = .ok (.getfield 240, 3) := by decide +kernel
theorem dX10_readOrder_20 : decode cX10_readOrder 20 = .ok (.iconst 1, 1) := by decide +kernel
theorem dX10_readOrder_21 : decode cX10_readOrder 21 = .ok (.iadd, 1) := by decide +kernel
theorem dX10_readOrder_22 : decode cX10_readOrder 22 = .ok (.putfield 240, 3) := by decide +kernel
theorem dX10_readOrder_25 : decode cX10_readOrder 25 = .ok (.aload_n 0, 1) := by decide +kernel
theorem dX10_readOrder_26 : decode cX10_readOrder 26 = .ok (.iconst 0, 1) := by decide +kernel
theorem dX10_readOrder_27 : decode cX10_readOrder 27 = .ok (.invokevirtual 243, 3) := by decide +kernel
theorem dX10_readOrder_30 : decode cX10_readOrder 30 = .ok (.istore_n 2, 1) := by decide +kernel
theorem dX10_readOrder_31 : decode cX10_readOrder 31 = .ok (.iload_n 2, 1) := by decide +kernel
theorem dX10_readOrder_32 : decode cX10_readOrder 32 = .ok (.bipush 108, 2) := by decide +kernel
theorem dX10_readOrder_34 : decode cX10_readOrder 34 = .ok (.if_icmp .ne 13, 3) := by decide +kernel
theorem dX10_readOrder_37 : decode cX10_readOrder 37 = .ok (.aload_n 0, 1) := by decide +kernel
theorem dX10_readOrder_38 : decode cX10_readOrder 38 = .ok (.iconst 1, 1) := by decide +kernel
theorem dX10_readOrder_39 : decode cX10_readOrder 39 = .ok (.invokevirtual 243, 3) := by decide +kernel
theorem dX10_readOrder_42 : decode cX10_readOrder 42 = .ok (.bipush 101, 2) := by decide +kernel
theorem dX10_readOrder_44 : decode cX10_readOrder 44 = .ok (.if_icmp .ne 7, 3) := by decide +kernel
theorem dX10_readOrder_47 : decode cX10_readOrder 47 = .ok (.iload_n 2, 1) := by decide +kernel
theorem dX10_readOrder_48 : decode cX10_readOrder 48 = .ok (.goto 20, 3) := by decide +kernel
theorem dX10_readOrder_51 : decode cX10_readOrder 51 = .ok (.aload_n 0, 1) := by decide +kernel
theorem dX10_readOrder_52 : decode cX10_readOrder 52 = .ok (.iconst 2, 1) := by decide +kernel
theorem dX10_readOrder_53 : decode cX10_readOrder 53 = .ok (.invokevirtual 243, 3) := by decide +kernel
theorem dX10_readOrder_56 : decode cX10_readOrder 56 = .ok (.bipush 109, 2) := by decide +kernel
theorem dX10_readOrder_58 : decode cX10_readOrder 58 = .ok (.if_icmp .ne 8, 3) := by decide +kernel
theorem dX10_readOrder_61 : decode cX10_readOrder 61 = .ok (.bipush 109, 2) := by decide +kernel
theorem dX10_readOrder_63 : decode cX10_readOrder 63 = .ok (.goto 5, 3) := by decide +kernel
theorem dX10_readOrder_66 : decode cX10_readOrder 66 = .ok (.bipush 76, 2) := by decide +kernel
theorem dX10_readOrder_68 : decode cX10_readOrder 68 = .ok (.istore_n 3, 1) := by decide +kernel
theorem dX10_readOrder_69 : decode cX10_readOrder 69 = .ok (.aload_n 0, 1) := by decide +kernel
theorem dX10_readOrder_70 : decode cX10_readOrder 70 = .ok (.getfield 33, 3) := by decide +kernel
theorem dX10_readOrder_73 : decode cX10_readOrder 73 = .ok (.iload_n 1, 1) := by decide +kernel
theorem dX10_readOrder_74 : decode cX10_readOrder 74 = .ok (.iload_n 3, 1) := by decide +kernel
theorem dX10_readOrder_75 : decode cX10_readOrder 75 = .ok (.iastore, 1) := by decide +kernel
theorem dX10_readOrder_76 : decode cX10_readOrder 76 = .ok (.aload_n 0, 1) := by decide +kernel
theorem dX10_readOrder_77 : decode cX10_readOrder 77 = .ok (.iload_n 3, 1) := by decide +kernel
theorem dX10_readOrder_78 : decode cX10_readOrder 78 = .ok (.bipush 98, 2) := by decide +kernel
theorem dX10_readOrder_80 : decode cX10_readOrder 80 = .ok (.if_icmp .ne 8, 3) := by decide +kernel
theorem dX10_readOrder_83 : decode cX10_readOrder 83 = .ok (.ldc 246, 2) := by decide +kernel
theorem dX10_readOrder_85 : decode cX10_readOrder 85 = .ok (.goto 80, 3) := by decide +kernel
theorem dX10_readOrder_88 : decode cX10_readOrder 88 = .ok (.iload_n 3, 1) := by decide +kernel
theorem dX10_readOrder_89 : decode cX10_readOrder 89 = .ok (.bipush 107, 2) := by decide +kernel
theorem dX10_readOrder_91 : decode cX10_readOrder 91 = .ok (.if_icmp .ne 8, 3) := by decide +kernel
theorem dX10_readOrder_94 : decode cX10_readOrder 94 = .ok (.ldc 248, 2) := by decide +kernel
theorem dX10_readOrder_96 : decode cX10_readOrder 96 = .ok (.goto 69, 3) := by decide +kernel
theorem dX10_readOrder_99 : decode cX10_readOrder 99 = .ok (.iload_n 3, 1) := by decide +kernel
theorem dX10_readOrder_100 : decode cX10_readOrder 100 = .ok (.bipush 100, 2) := by decide +kernel
theorem dX10_readOrder_102 : decode cX10_readOrder 102 = .ok (.if_icmp .ne 8, 3) := by decide +kernel
theorem dX10_readOrder_105 : decode cX10_readOrder 105 = .ok (.ldc 250, 2) := by decide +kernel
theorem dX10_readOrder_107 : decode cX10_readOrder 107 = .ok (.goto 58, 3) := by decide +kernel
theorem dX10_readOrder_110 : decode cX10_readOrder 110 = .ok (.iload_n 3, 1) := by decide +kernel
theorem dX10_readOrder_111 : decode cX10_readOrder 111 = .ok (.bipush 114, 2) := by decide +kernel
theorem dX10_readOrder_113 : decode cX10_readOrder 113 = .ok (.if_icmp .ne 8, 3) := by decide +kernel
theorem dX10_readOrder_116 : decode cX10_readOrder 116 = .ok (.ldc 252, 2) := by decide +kernel
theorem dX10_readOrder_118 : decode cX10_readOrder 118 = .ok (.goto 47, 3) := by decide +kernel
theorem dX10_readOrder_121 : decode cX10_readOrder 121 = .ok (.iload_n 3, 1) := by decide +kernel
theorem dX10_readOrder_122 : decode cX10_readOrder 122 = .ok (.bipush 116, 2) := by decide +kernel
theorem dX10_readOrder_124 : decode cX10_readOrder 124 = .ok (.if_icmp .ne 8, 3) := by decide +kernel
theorem dX10_readOrder_127 : decode cX10_readOrder 127 = .ok (.ldc 254, 2) := by decide +kernel
theorem dX10_readOrder_129 : decode cX10_readOrder 129 = .ok (.goto 36, 3) := by decide +kernel
theorem dX10_readOrder_132 : decode cX10_readOrder 132 = .ok (.iload_n 3, 1) := by decide +kernel
theorem dX10_readOrder_133 : decode cX10_readOrder 133 = .ok (.bipush 108, 2) := by decide +kernel
theorem dX10_readOrder_135 : decode cX10_readOrder 135 = .ok (.if_icmp .ne 9, 3) := by decide +kernel
theorem dX10_readOrder_138 : decode cX10_readOrder 138 = .ok (.ldc_w 256, 3) := by decide +kernel
theorem dX10_readOrder_141 : decode cX10_readOrder 141 = .ok (.goto 24, 3) := by decide +kernel
theorem dX10_readOrder_144 : decode cX10_readOrder 144 = .ok (.iload_n 2, 1) := by decide +kernel
theorem dX10_readOrder_145 : decode cX10_readOrder 145 = .ok (.bipush 108, 2) := by decide +kernel
theorem dX10_readOrder_147 : decode cX10_readOrder 147 = .ok (.if_icmp .ne 15, 3) := by decide +kernel
theorem dX10_readOrder_150 : decode cX10_readOrder 150 = .ok (.iload_n 3, 1) := by decide +kernel
theorem dX10_readOrder_151 : decode cX10_readOrder 151 = .ok (.bipush 109, 2) := by decide +kernel
theorem dX10_readOrder_153 : decode cX10_readOrder 153 = .ok (.if_icmp .ne 9, 3) := by decide +kernel
theorem dX10_readOrder_156 : decode cX10_readOrder 156 = .ok (.ldc_w 258, 3) := by decide +kernel
theorem dX10_readOrder_159 : decode cX10_readOrder 159 = .ok (.goto 6, 3) := by decide +kernel
theorem dX10_readOrder_162 : decode cX10_readOrder 162 = .ok (.ldc_w 260, 3) := by decide +kernel
theorem dX10_readOrder_165 : decode cX10_readOrder 165 = .ok (.invokevirtual 236, 3) := by decide +kernel
theorem dX10_readOrder_168 : decode cX10_readOrder 168 = .ok (.iload_n 3, 1) := by decide +kernel
theorem dX10_readOrder_169 : decode cX10_readOrder 169 = .ok (.bipush 76, 2) := by decide +kernel
theorem dX10_readOrder_171 : decode cX10_readOrder 171 = .ok (.if_icmp .eq 10, 3) := by decide +kernel
theorem dX10_readOrder_174 : decode cX10_readOrder 174 = .ok (.aload_n 0, 1) := by decide +kernel
theorem dX10_readOrder_175 : decode cX10_readOrder 175 = .ok (.getfield 212, 3) := by decide +kernel
theorem dX10_readOrder_178 : decode cX10_readOrder 178 = .ok (.ifCond .eq 4, 3) := by decide +kernel
theorem dX10_readOrder_181 : decode cX10_readOrder 181 = .ok (.return_, 1) := by decide +kernel
theorem dX10_readOrder_182 : decode cX10_readOrder 182 = .ok (.aload_n 0, 1) := by decide +kernel
theorem dX10_readOrder_183 : decode cX10_readOrder 183 = .ok (.getfield 33, 3) := by decide +kernel
theorem dX10_readOrder_186 : decode cX10_readOrder 186 = .ok (.iload_n 1, 1) := by decide +kernel
theorem dX10_readOrder_187 : decode cX10_readOrder 187 = .ok (.iconst 1, 1) := by decide +kernel
theorem dX10_readOrder_188 : decode cX10_readOrder 188 = .ok (.iadd, 1) := by decide +kernel
theorem dX10_readOrder_189 : decode cX10_readOrder 189 = .ok (.aload_n 0, 1) := by decide +kernel
theorem dX10_readOrder_190 : decode cX10_readOrder 190 = .ok (.iload_n 3, 1) := by decide +kernel
theorem dX10_readOrder_191 : decode cX10_readOrder 191 = .ok (.bipush 109, 2) := by decide +kernel
theorem dX10_readOrder_193 : decode cX10_readOrder 193 = .ok (.if_icmp .eq 9, 3) := by decide +kernel
theorem dX10_readOrder_196 : decode cX10_readOrder 196 = .ok (.iload_n 3, 1) := by decide +kernel
theorem dX10_readOrder_197 : decode cX10_readOrder 197 = .ok (.bipush 116, 2) := by decide +kernel
theorem dX10_readOrder_199 : decode cX10_readOrder 199 = .ok (.if_icmp .ne 7, 3) := by decide +kernel
theorem dX10_readOrder_202 : decode cX10_readOrder 202 = .ok (.iconst 1, 1) := by decide +kernel
theorem dX10_readOrder_203 : decode cX10_readOrder 203 = .ok (.goto 4, 3) := by decide +kernel
theorem dX10_readOrder_206 : decode cX10_readOrder 206 = .ok (.iconst 0, 1) := by decide +kernel
theorem dX10_readOrder_207 : decode cX10_readOrder 207 = .ok (.invokevirtual 262, 3) := by decide +kernel
theorem dX10_readOrder_210 : decode cX10_readOrder 210 = .ok (.iastore, 1) := by decide +kernel
theorem dX10_readOrder_211 : decode cX10_readOrder 211 = .ok (.iload_n 3, 1) := by decide +kernel
theorem dX10_readOrder_212 : decode cX10_readOrder 212 = .ok (.bipush 107, 2) := by decide +kernel
theorem dX10_readOrder_214 : decode cX10_readOrder 214 = .ok (.if_icmp .eq 21, 3) := by decide +kernel
theorem dX10_readOrder_217 : decode cX10_readOrder 217 = .ok (.iload_n 3, 1) := by decide +kernel
theorem dX10_readOrder_218 : decode cX10_readOrder 218 = .ok (.bipush 108, 2) := by decide +kernel
theorem dX10_readOrder_220 : decode cX10_readOrder 220 = .ok (.if_icmp .eq 15, 3) := by decide +kernel
theorem dX10_readOrder_223 : decode cX10_readOrder 223 = .ok (.iload_n 3, 1) := by decide +kernel
theorem dX10_readOrder_224 : decode cX10_readOrder 224 = .ok (.bipush 100, 2) := by decide +kernel
theorem dX10_readOrder_226 : decode cX10_readOrder 226 = .ok (.if_icmp .eq 9, 3) := by decide +kernel
theorem dX10_readOrder_229 : decode cX10_readOrder 229 = .ok (.iload_n 3, 1) := by decide +kernel
theorem dX10_readOrder_230 : decode cX10_readOrder 230 = .ok (.bipush 116, 2) := by decide +kernel
theorem dX10_readOrder_232 : decode cX10_readOrder 232 = .ok (.if_icmp .ne 26, 3) := by decide +kernel
theorem dX10_readOrder_235 : decode cX10_readOrder 235 = .ok (.aload_n 0, 1) := by decide +kernel
theorem dX10_readOrder_236 : decode cX10_readOrder 236 = .ok (.getfield 33, 3) := by decide +kernel
theorem dX10_readOrder_239 : decode cX10_readOrder 239 = .ok (.iload_n 1, 1) := by decide +kernel
theorem dX10_readOrder_240 : decode cX10_readOrder 240 = .ok (.iconst 2, 1) := by decide +kernel
theorem dX10_readOrder_241 : decode cX10_readOrder 241 = .ok (.iadd, 1) := by decide +kernel
theorem dX10_readOrder_242 : decode cX10_readOrder 242 = .ok (.aload_n 0, 1) := by decide +kernel
theorem dX10_readOrder_243 : decode cX10_readOrder 243 = .ok (.iload_n 3, 1) := by decide +kernel
theorem dX10_readOrder_244 : decode cX10_readOrder 244 = .ok (.bipush 107, 2) := by decide +kernel
theorem dX10_readOrder_246 : decode cX10_readOrder 246 = .ok (.if_icmp .ne 7, 3) := by decide +kernel
theorem dX10_readOrder_249 : decode cX10_readOrder 249 = .ok (.iconst 1, 1) := by decide +kernel
theorem dX10_readOrder_250 : decode cX10_readOrder 250 = .ok (.goto 4, 3) := by decide +kernel
theorem dX10_readOrder_253 : decode cX10_readOrder 253 = .ok (.iconst 0, 1) := by decide +kernel
theorem dX10_readOrder_254 : decode cX10_readOrder 254 = .ok (.invokevirtual 262, 3) := by decide +kernel
theorem dX10_readOrder_257 : decode cX10_readOrder 257 = .ok (.iastore, 1) := by decide +kernel
theorem dX10_readOrder_258 : decode cX10_readOrder 258 = .ok (.iload_n 3, 1) := by decide +kernel
theorem dX10_readOrder_259 : decode cX10_readOrder 259 = .ok (.bipush 100, 2) := by decide +kernel
theorem dX10_readOrder_261 : decode cX10_readOrder 261 = .ok (.if_icmp .ne 16, 3) := by decide +kernel
theorem dX10_readOrder_264 : decode cX10_readOrder 264 = .ok (.aload_n 0, 1) := by decide +kernel
theorem dX10_readOrder_265 : decode cX10_readOrder 265 = .ok (.getfield 33, 3) := by decide +kernel
theorem dX10_readOrder_268 : decode cX10_readOrder 268 = .ok (.iload_n 1, 1) := by decide +kernel
theorem dX10_readOrder_269 : decode cX10_readOrder 269 = .ok (.iconst 3, 1) := by decide +kernel
theorem dX10_readOrder_270 : decode cX10_readOrder 270 = .ok (.iadd, 1) := by decide +kernel
theorem dX10_readOrder_271 : decode cX10_readOrder 271 = .ok (.aload_n 0, 1) := by decide +kernel
theorem dX10_readOrder_272 : decode cX10_readOrder 272 = .ok (.iconst 0, 1) := by decide +kernel
theorem dX10_readOrder_273 : decode cX10_readOrder 273 = .ok (.invokevirtual 262, 3) := by decide +kernel
theorem dX10_readOrder_276 : decode cX10_readOrder 276 = .ok (.iastore, 1) := by decide +kernel
theorem dX10_readOrder_277 : decode cX10_readOrder 277 = .ok (.return_, 1) := by decide +kernel
theorem dX10_does_0 : decode cX10_does 0 = .ok (.aload_n 0, 1) := by decide +kernel
theorem dX10_does_1 : decode cX10_does 1 = .ok (.getfield 33, 3) := by decide +kernel
theorem dX10_does_4 : decode cX10_does 4 = .ok (.iconst 4, 1) := by decide +kernel
theorem dX10_does_5 : decode cX10_does 5 = .ok (.iload_n 1, 1) := by decide +kernel
theorem dX10_does_6 : decode cX10_does 6 = .ok (.imul, 1) := by decide +kernel
theorem dX10_does_7 : decode cX10_does 7 = .ok (.iconst 1, 1) := by decide +kernel
theorem dX10_does_8 : decode cX10_does 8 = .ok (.iadd, 1) := by decide +kernel
theorem dX10_does_9 : decode cX10_does 9 = .ok (.iaload, 1) := by decide +kernel
theorem dX10_does_10 : decode cX10_does 10 = .ok (.istore_n 2, 1) := by decide +kernel
theorem dX10_does_11 : decode cX10_does 11 = .ok (.aload_n 0, 1) := by decide +kernel
theorem dX10_does_12 : decode cX10_does 12 = .ok (.getfield 33, 3) := by decide +kernel
theorem dX10_does_15 : decode cX10_does 15 = .ok (.iconst 4, 1) := by decide +kernel
theorem dX10_does_16 : decode cX10_does 16 = .ok (.iload_n 1, 1) := by decide +kernel
theorem dX10_does_17 : decode cX10_does 17 = .ok (.imul, 1) := by decide +kernel
theorem dX10_does_18 : decode cX10_does 18 = .ok (.iconst 2, 1) := by decide +kernel
theorem dX10_does_19 : decode cX10_does 19 = .ok (.iadd, 1) := by decide +kernel
theorem dX10_does_20 : decode cX10_does 20 = .ok (.iaload, 1) := by decide +kernel
theorem dX10_does_21 : decode cX10_does 21 = .ok (.istore_n 3, 1) := by decide +kernel
theorem dX10_does_22 : decode cX10_does 22 = .ok (.aload_n 0, 1) := by decide +kernel
theorem dX10_does_23 : decode cX10_does 23 = .ok (.getfield 33, 3) := by decide +kernel
theorem dX10_does_26 : decode cX10_does 26 = .ok (.iconst 4, 1) := by decide +kernel
theorem dX10_does_27 : decode cX10_does 27 = .ok (.iload_n 1, 1) := by decide +kernel
theorem dX10_does_28 : decode cX10_does 28 = .ok (.imul, 1) := by decide +kernel
theorem dX10_does_29 : decode cX10_does 29 = .ok (.iaload, 1) := by decide +kernel
theorem dX10_does_30 : decode cX10_does 30 = .ok (.tableswitch 181 98 116 #[90, 181, 129, 181, 181, 181, 181, 181, 181, 100, 100, 171, 181, 181, 181, 181, 150, 181, 160], 90) := by decide +kernel
theorem dX10_does_120 : decode cX10_does 120 = .ok (.aload_n 0, 1) := by decide +kernel
theorem dX10_does_121 : decode cX10_does 121 = .ok (.iload_n 2, 1) := by decide +kernel
theorem dX10_does_122 : decode cX10_does 122 = .ok (.invokevirtual 83, 3) := by decide +kernel
theorem dX10_does_125 : decode cX10_does 125 = .ok (.istore 4, 2) := by decide +kernel
theorem dX10_does_127 : decode cX10_does 127 = .ok (.goto 90, 3) := by decide +kernel
theorem dX10_does_130 : decode cX10_does 130 = .ok (.aload_n 0, 1) := by decide +kernel
theorem dX10_does_131 : decode cX10_does 131 = .ok (.iload_n 2, 1) := by decide +kernel
theorem dX10_does_132 : decode cX10_does 132 = .ok (.iload_n 3, 1) := by decide +kernel
theorem dX10_does_133 : decode cX10_does 133 = .ok (.aload_n 0, 1) := by decide +kernel
theorem dX10_does_134 : decode cX10_does 134 = .ok (.getfield 33, 3) := by decide +kernel
theorem dX10_does_137 : decode cX10_does 137 = .ok (.iconst 4, 1) := by decide +kernel
theorem dX10_does_138 : decode cX10_does 138 = .ok (.iload_n 1, 1) := by decide +kernel
theorem dX10_does_139 : decode cX10_does 139 = .ok (.imul, 1) := by decide +kernel
theorem dX10_does_140 : decode cX10_does 140 = .ok (.iaload, 1) := by decide +kernel
theorem dX10_does_141 : decode cX10_does 141 = .ok (.bipush 107, 2) := by decide +kernel
theorem dX10_does_143 : decode cX10_does 143 = .ok (.if_icmp .ne 7, 3) := by decide +kernel
theorem dX10_does_146 : decode cX10_does 146 = .ok (.iconst 1, 1) := by decide +kernel
theorem dX10_does_147 : decode cX10_does 147 = .ok (.goto 4, 3) := by decide +kernel
theorem dX10_does_150 : decode cX10_does 150 = .ok (.iconst 0, 1) := by decide +kernel
theorem dX10_does_151 : decode cX10_does 151 = .ok (.invokevirtual 93, 3) := by decide +kernel
theorem dX10_does_154 : decode cX10_does 154 = .ok (.istore 4, 2) := by decide +kernel
theorem dX10_does_156 : decode cX10_does 156 = .ok (.goto 61, 3) := by decide +kernel
theorem dX10_does_159 : decode cX10_does 159 = .ok (.aload_n 0, 1) := by decide +kernel
theorem dX10_does_160 : decode cX10_does 160 = .ok (.iload_n 2, 1) := by decide +kernel
theorem dX10_does_161 : decode cX10_does 161 = .ok (.iload_n 3, 1) := by decide +kernel
theorem dX10_does_162 : decode cX10_does 162 = .ok (.aload_n 0, 1) := by decide +kernel
theorem dX10_does_163 : decode cX10_does 163 = .ok (.getfield 33, 3) := by decide +kernel
theorem dX10_does_166 : decode cX10_does 166 = .ok (.iconst 4, 1) := by decide +kernel
theorem dX10_does_167 : decode cX10_does 167 = .ok (.iload_n 1, 1) := by decide +kernel
theorem dX10_does_168 : decode cX10_does 168 = .ok (.imul, 1) := by decide +kernel
theorem dX10_does_169 : decode cX10_does 169 = .ok (.iconst 3, 1) := by decide +kernel
theorem dX10_does_170 : decode cX10_does 170 = .ok (.iadd, 1) := by decide +kernel
theorem dX10_does_171 : decode cX10_does 171 = .ok (.iaload, 1) := by decide +kernel
theorem dX10_does_172 : decode cX10_does 172 = .ok (.invokevirtual 105, 3) := by decide +kernel
theorem dX10_does_175 : decode cX10_does 175 = .ok (.istore 4, 2) := by decide +kernel
theorem dX10_does_177 : decode cX10_does 177 = .ok (.goto 40, 3) := by decide +kernel
theorem dX10_does_180 : decode cX10_does 180 = .ok (.aload_n 0, 1) := by decide +kernel
theorem dX10_does_181 : decode cX10_does 181 = .ok (.iload_n 2, 1) := by decide +kernel
theorem dX10_does_182 : decode cX10_does 182 = .ok (.invokevirtual 108, 3) := by decide +kernel
theorem dX10_does_185 : decode cX10_does 185 = .ok (.istore 4, 2) := by decide +kernel
theorem dX10_does_187 : decode cX10_does 187 = .ok (.goto 30, 3) := by decide +kernel
theorem dX10_does_190 : decode cX10_does 190 = .ok (.aload_n 0, 1) := by decide +kernel
theorem dX10_does_191 : decode cX10_does 191 = .ok (.iload_n 2, 1) := by decide +kernel
theorem dX10_does_192 : decode cX10_does 192 = .ok (.iload_n 3, 1) := by decide +kernel
theorem dX10_does_193 : decode cX10_does 193 = .ok (.invokevirtual 120, 3) := by decide +kernel
theorem dX10_does_196 : decode cX10_does 196 = .ok (.istore 4, 2) := by decide +kernel
theorem dX10_does_198 : decode cX10_does 198 = .ok (.goto 19, 3) := by decide +kernel
theorem dX10_does_201 : decode cX10_does 201 = .ok (.aload_n 0, 1) := by decide +kernel
theorem dX10_does_202 : decode cX10_does 202 = .ok (.iload_n 2, 1) := by decide +kernel
theorem dX10_does_203 : decode cX10_does 203 = .ok (.invokevirtual 114, 3) := by decide +kernel
theorem dX10_does_206 : decode cX10_does 206 = .ok (.istore 4, 2) := by decide +kernel
theorem dX10_does_208 : decode cX10_does 208 = .ok (.goto 9, 3) := by decide +kernel
theorem dX10_does_211 : decode cX10_does 211 = .ok (.aload_n 0, 1) := by decide +kernel
theorem dX10_does_212 : decode cX10_does 212 = .ok (.invokevirtual 111, 3) := by decide +kernel
theorem dX10_does_215 : decode cX10_does 215 = .ok (.istore 4, 2) := by decide +kernel
theorem dX10_does_217 : decode cX10_does 217 = .ok (.return_, 1) := by decide +kernel
theorem dX10_run_0 : decode cX10_run 0 = .ok (.aload_n 0, 1) := by decide +kernel
theorem dX10_run_1 : decode cX10_run 1 = .ok (.iconst 0, 1) := by decide +kernel
theorem dX10_run_2 : decode cX10_run 2 = .ok (.putfield 215, 3) := by decide +kernel
theorem dX10_run_5 : decode cX10_run 5 = .ok (.aload_n 0, 1) := by decide +kernel
theorem dX10_run_6 : decode cX10_run 6 = .ok (.iconst 0, 1) := by decide +kernel
theorem dX10_run_7 : decode cX10_run 7 = .ok (.putfield 212, 3) := by decide +kernel
theorem dX10_run_10 : decode cX10_run 10 = .ok (.aload_n 0, 1) := by decide +kernel
theorem dX10_run_11 : decode cX10_run 11 = .ok (.iconst 0, 1) := by decide +kernel
theorem dX10_run_12 : decode cX10_run 12 = .ok (.putfield 240, 3) := by decide +kernel
theorem dX10_run_15 : decode cX10_run 15 = .ok (.aload_n 0, 1) := by decide +kernel
theorem dX10_run_16 : decode cX10_run 16 = .ok (.invokevirtual 266, 3) := by decide +kernel
theorem dX10_run_19 : decode cX10_run 19 = .ok (.aload_n 0, 1) := by decide +kernel
theorem dX10_run_20 : decode cX10_run 20 = .ok (.bipush 59, 2) := by decide +kernel
theorem dX10_run_22 : decode cX10_run 22 = .ok (.bipush 59, 2) := by decide +kernel
theorem dX10_run_24 : decode cX10_run 24 = .ok (.invokevirtual 218, 3) := by decide +kernel
theorem dX10_run_27 : decode cX10_run 27 = .ok (.ifCond .eq 20, 3) := by decide +kernel
theorem dX10_run_30 : decode cX10_run 30 = .ok (.aload_n 0, 1) := by decide +kernel
theorem dX10_run_31 : decode cX10_run 31 = .ok (.dup, 1) := by decide +kernel
theorem dX10_run_32 : decode cX10_run 32 = .ok (.getfield 215, 3) := by decide +kernel
theorem dX10_run_35 : decode cX10_run 35 = .ok (.iconst 1, 1) := by decide +kernel
theorem dX10_run_36 : decode cX10_run 36 = .ok (.iadd, 1) := by decide +kernel
theorem dX10_run_37 : decode cX10_run 37 = .ok (.putfield 215, 3) := by decide +kernel
theorem dX10_run_40 : decode cX10_run 40 = .ok (.aload_n 0, 1) := by decide +kernel
theorem dX10_run_41 : decode cX10_run 41 = .ok (.invokevirtual 266, 3) := by decide +kernel
theorem dX10_run_44 : decode cX10_run 44 = .ok (.goto (-25), 3) := by decide +kernel
theorem dX10_run_47 : decode cX10_run 47 = .ok (.aload_n 0, 1) := by decide +kernel
theorem dX10_run_48 : decode cX10_run 48 = .ok (.aload_n 0, 1) := by decide +kernel
theorem dX10_run_49 : decode cX10_run 49 = .ok (.getfield 212, 3) := by decide +kernel
theorem dX10_run_52 : decode cX10_run 52 = .ok (.ifCond .ne 14, 3) := by decide +kernel
theorem dX10_run_55 : decode cX10_run 55 = .ok (.aload_n 0, 1) := by decide +kernel
theorem dX10_run_56 : decode cX10_run 56 = .ok (.getfield 215, 3) := by decide +kernel
theorem dX10_run_59 : decode cX10_run 59 = .ok (.aload_n 0, 1) := by decide +kernel
theorem dX10_run_60 : decode cX10_run 60 = .ok (.getfield 209, 3) := by decide +kernel
theorem dX10_run_63 : decode cX10_run 63 = .ok (.if_icmp .ge 7, 3) := by decide +kernel
theorem dX10_run_66 : decode cX10_run 66 = .ok (.iconst 1, 1) := by decide +kernel
theorem dX10_run_67 : decode cX10_run 67 = .ok (.goto 4, 3) := by decide +kernel
theorem dX10_run_70 : decode cX10_run 70 = .ok (.iconst 0, 1) := by decide +kernel
theorem dX10_run_71 : decode cX10_run 71 = .ok (.putfield 212, 3) := by decide +kernel
theorem dX10_run_74 : decode cX10_run 74 = .ok (.aload_n 0, 1) := by decide +kernel
theorem dX10_run_75 : decode cX10_run 75 = .ok (.aload_n 0, 1) := by decide +kernel
theorem dX10_run_76 : decode cX10_run 76 = .ok (.getfield 212, 3) := by decide +kernel
theorem dX10_run_79 : decode cX10_run 79 = .ok (.ifCond .eq 10, 3) := by decide +kernel
theorem dX10_run_82 : decode cX10_run 82 = .ok (.aload_n 0, 1) := by decide +kernel
theorem dX10_run_83 : decode cX10_run 83 = .ok (.getfield 215, 3) := by decide +kernel
theorem dX10_run_86 : decode cX10_run 86 = .ok (.goto 4, 3) := by decide +kernel
theorem dX10_run_89 : decode cX10_run 89 = .ok (.iconst (-1), 1) := by decide +kernel
theorem dX10_run_90 : decode cX10_run 90 = .ok (.putfield 29, 3) := by decide +kernel
theorem dX10_run_93 : decode cX10_run 93 = .ok (.aload_n 0, 1) := by decide +kernel
theorem dX10_run_94 : decode cX10_run 94 = .ok (.iconst 0, 1) := by decide +kernel
theorem dX10_run_95 : decode cX10_run 95 = .ok (.putfield 209, 3) := by decide +kernel
theorem dX10_run_98 : decode cX10_run 98 = .ok (.aload_n 0, 1) := by decide +kernel
theorem dX10_run_99 : decode cX10_run 99 = .ok (.getfield 212, 3) := by decide +kernel
theorem dX10_run_102 : decode cX10_run 102 = .ok (.ifCond .eq 9, 3) := by decide +kernel
theorem dX10_run_105 : decode cX10_run 105 = .ok (.aload_n 0, 1) := by decide +kernel
theorem dX10_run_106 : decode cX10_run 106 = .ok (.iconst 1, 1) := by decide +kernel
theorem dX10_run_107 : decode cX10_run 107 = .ok (.invokevirtual 73, 3) := by decide +kernel
theorem dX10_run_110 : decode cX10_run 110 = .ok (.ireturn, 1) := by decide +kernel
theorem dX10_run_111 : decode cX10_run 111 = .ok (.aload_n 0, 1) := by decide +kernel
theorem dX10_run_112 : decode cX10_run 112 = .ok (.invokevirtual 80, 3) := by decide +kernel
theorem dX10_run_115 : decode cX10_run 115 = .ok (.iconst 0, 1) := by decide +kernel
theorem dX10_run_116 : decode cX10_run 116 = .ok (.istore_n 1, 1) := by decide +kernel
theorem dX10_run_117 : decode cX10_run 117 = .ok (.iload_n 1, 1) := by decide +kernel
theorem dX10_run_118 : decode cX10_run 118 = .ok (.aload_n 0, 1) := by decide +kernel
theorem dX10_run_119 : decode cX10_run 119 = .ok (.getfield 240, 3) := by decide +kernel
theorem dX10_run_122 : decode cX10_run 122 = .ok (.if_icmp .ge 47, 3) := by decide +kernel
theorem dX10_run_125 : decode cX10_run 125 = .ok (.aload_n 0, 1) := by decide +kernel
theorem dX10_run_126 : decode cX10_run 126 = .ok (.iconst 0, 1) := by decide +kernel
theorem dX10_run_127 : decode cX10_run 127 = .ok (.putfield 48, 3) := by decide +kernel
theorem dX10_run_130 : decode cX10_run 130 = .ok (.aload_n 0, 1) := by decide +kernel
theorem dX10_run_131 : decode cX10_run 131 = .ok (.iload_n 1, 1) := by decide +kernel
theorem dX10_run_132 : decode cX10_run 132 = .ok (.invokevirtual 269, 3) := by decide +kernel
theorem dX10_run_135 : decode cX10_run 135 = .ok (.aload_n 0, 1) := by decide +kernel
theorem dX10_run_136 : decode cX10_run 136 = .ok (.getfield 36, 3) := by decide +kernel
theorem dX10_run_139 : decode cX10_run 139 = .ok (.ifCond .le 24, 3) := by decide +kernel
theorem dX10_run_142 : decode cX10_run 142 = .ok (.aload_n 0, 1) := by decide +kernel
theorem dX10_run_143 : decode cX10_run 143 = .ok (.aload_n 0, 1) := by decide +kernel
theorem dX10_run_144 : decode cX10_run 144 = .ok (.aload_n 0, 1) := by decide +kernel
theorem dX10_run_145 : decode cX10_run 145 = .ok (.getfield 48, 3) := by decide +kernel
theorem dX10_run_148 : decode cX10_run 148 = .ok (.ifCond .eq 7, 3) := by decide +kernel
theorem dX10_run_151 : decode cX10_run 151 = .ok (.iconst 2, 1) := by decide +kernel
theorem dX10_run_152 : decode cX10_run 152 = .ok (.goto 4, 3) := by decide +kernel
theorem dX10_run_155 : decode cX10_run 155 = .ok (.iconst 1, 1) := by decide +kernel
theorem dX10_run_156 : decode cX10_run 156 = .ok (.invokevirtual 73, 3) := by decide +kernel
theorem dX10_run_159 : decode cX10_run 159 = .ok (.invokevirtual 86, 3) := by decide +kernel
theorem dX10_run_162 : decode cX10_run 162 = .ok (.ireturn, 1) := by decide +kernel
theorem dX10_run_163 : decode cX10_run 163 = .ok (.iinc 1 1, 3) := by decide +kernel
theorem dX10_run_166 : decode cX10_run 166 = .ok (.goto (-49), 3) := by decide +kernel
theorem dX10_run_169 : decode cX10_run 169 = .ok (.aload_n 0, 1) := by decide +kernel
theorem dX10_run_170 : decode cX10_run 170 = .ok (.aload_n 0, 1) := by decide +kernel
theorem dX10_run_171 : decode cX10_run 171 = .ok (.getfield 240, 3) := by decide +kernel
theorem dX10_run_174 : decode cX10_run 174 = .ok (.invokevirtual 86, 3) := by decide +kernel
theorem dX10_run_177 : decode cX10_run 177 = .ok (.ireturn, 1) := by decide +kernel
theorem dX10_errorPosition_0 : decode cX10_errorPosition 0 = .ok (.aload_n 0, 1) := by decide +kernel
theorem dX10_errorPosition_1 : decode cX10_errorPosition 1 = .ok (.iconst 0, 1) := by decide +kernel
theorem dX10_errorPosition_2 : decode cX10_errorPosition 2 = .ok (.putfield 36, 3) := by decide +kernel
theorem dX10_errorPosition_5 : decode cX10_errorPosition 5 = .ok (.aload_n 0, 1) := by decide +kernel
theorem dX10_errorPosition_6 : decode cX10_errorPosition 6 = .ok (.getfield 29, 3) := by decide +kernel
theorem dX10_errorPosition_9 : decode cX10_errorPosition 9 = .ok (.ireturn, 1) := by decide +kernel
theorem dX10_allParts_0 : decode cX10_allParts 0 = .ok (.iconst 0, 1) := by decide +kernel
theorem dX10_allParts_1 : decode cX10_allParts 1 = .ok (.istore_n 1, 1) := by decide +kernel
theorem dX10_allParts_2 : decode cX10_allParts 2 = .ok (.iconst 0, 1) := by decide +kernel
theorem dX10_allParts_3 : decode cX10_allParts 3 = .ok (.istore_n 2, 1) := by decide +kernel
theorem dX10_allParts_4 : decode cX10_allParts 4 = .ok (.iload_n 2, 1) := by decide +kernel
theorem dX10_allParts_5 : decode cX10_allParts 5 = .ok (.aload_n 0, 1) := by decide +kernel
theorem dX10_allParts_6 : decode cX10_allParts 6 = .ok (.getfield 9, 3) := by decide +kernel
theorem dX10_allParts_9 : decode cX10_allParts 9 = .ok (.iconst 1, 1) := by decide +kernel
theorem dX10_allParts_10 : decode cX10_allParts 10 = .ok (.iaload, 1) := by decide +kernel
theorem dX10_allParts_11 : decode cX10_allParts 11 = .ok (.if_icmp .ge 17, 3) := by decide +kernel
theorem dX10_allParts_14 : decode cX10_allParts 14 = .ok (.iload_n 1, 1) := by decide +kernel
theorem dX10_allParts_15 : decode cX10_allParts 15 = .ok (.aload_n 0, 1) := by decide +kernel
theorem dX10_allParts_16 : decode cX10_allParts 16 = .ok (.iload_n 2, 1) := by decide +kernel
theorem dX10_allParts_17 : decode cX10_allParts 17 = .ok (.invokevirtual 143, 3) := by decide +kernel
theorem dX10_allParts_20 : decode cX10_allParts 20 = .ok (.iadd, 1) := by decide +kernel
theorem dX10_allParts_21 : decode cX10_allParts 21 = .ok (.istore_n 1, 1) := by decide +kernel
theorem dX10_allParts_22 : decode cX10_allParts 22 = .ok (.iinc 2 1, 3) := by decide +kernel
theorem dX10_allParts_25 : decode cX10_allParts 25 = .ok (.goto (-21), 3) := by decide +kernel
theorem dX10_allParts_28 : decode cX10_allParts 28 = .ok (.iload_n 1, 1) := by decide +kernel
theorem dX10_allParts_29 : decode cX10_allParts 29 = .ok (.ireturn, 1) := by decide +kernel
theorem dX10_account_0 : decode cX10_account 0 = .ok (.aload_n 0, 1) := by decide +kernel
theorem dX10_account_1 : decode cX10_account 1 = .ok (.iload_n 1, 1) := by decide +kernel
theorem dX10_account_2 : decode cX10_account 2 = .ok (.iconst 0, 1) := by decide +kernel
theorem dX10_account_3 : decode cX10_account 3 = .ok (.bipush 11, 2) := by decide +kernel
theorem dX10_account_5 : decode cX10_account 5 = .ok (.invokestatic 58, 3) := by decide +kernel
theorem dX10_account_8 : decode cX10_account 8 = .ok (.ifCond .eq 7, 3) := by decide +kernel
theorem dX10_account_11 : decode cX10_account 11 = .ok (.iconst 0, 1) := by decide +kernel
theorem dX10_account_12 : decode cX10_account 12 = .ok (.goto 4, 3) := by decide +kernel
theorem dX10_account_15 : decode cX10_account 15 = .ok (.iconst 1, 1) := by decide +kernel
theorem dX10_account_16 : decode cX10_account 16 = .ok (.putfield 36, 3) := by decide +kernel
theorem dX10_account_19 : decode cX10_account 19 = .ok (.aload_n 0, 1) := by decide +kernel
theorem dX10_account_20 : decode cX10_account 20 = .ok (.getfield 36, 3) := by decide +kernel
theorem dX10_account_23 : decode cX10_account 23 = .ok (.ifCond .le 5, 3) := by decide +kernel
theorem dX10_account_26 : decode cX10_account 26 = .ok (.iconst 0, 1) := by decide +kernel
theorem dX10_account_27 : decode cX10_account 27 = .ok (.ireturn, 1) := by decide +kernel
theorem dX10_account_28 : decode cX10_account 28 = .ok (.iload_n 1, 1) := by decide +kernel
theorem dX10_account_29 : decode cX10_account 29 = .ok (.tableswitch 143 0 10 #[59, 66, 77, 88, 95, 100, 112, 117, 124, 131, 138], 59) := by decide +kernel
theorem dX10_account_88 : decode cX10_account 88 = .ok (.aload_n 0, 1) := by decide +kernel
theorem dX10_account_89 : decode cX10_account 89 = .ok (.getfield 9, 3) := by decide +kernel
theorem dX10_account_92 : decode cX10_account 92 = .ok (.iconst 0, 1) := by decide +kernel
theorem dX10_account_93 : decode cX10_account 93 = .ok (.iaload, 1) := by decide +kernel
theorem dX10_account_94 : decode cX10_account 94 = .ok (.ireturn, 1) := by decide +kernel
theorem dX10_account_95 : decode cX10_account 95 = .ok (.aload_n 0, 1) := by decide +kernel
theorem dX10_account_96 : decode cX10_account 96 = .ok (.aload_n 0, 1) := by decide +kernel
theorem dX10_account_97 : decode cX10_account 97 = .ok (.getfield 9, 3) := by decide +kernel
theorem dX10_account_100 : decode cX10_account 100 = .ok (.iconst 0, 1) := by decide +kernel
theorem dX10_account_101 : decode cX10_account 101 = .ok (.iaload, 1) := by decide +kernel
theorem dX10_account_102 : decode cX10_account 102 = .ok (.invokevirtual 66, 3) := by decide +kernel
theorem dX10_account_105 : decode cX10_account 105 = .ok (.ireturn, 1) := by decide +kernel
theorem dX10_account_106 : decode cX10_account 106 = .ok (.aload_n 0, 1) := by decide +kernel
theorem dX10_account_107 : decode cX10_account 107 = .ok (.aload_n 0, 1) := by decide +kernel
theorem dX10_account_108 : decode cX10_account 108 = .ok (.getfield 9, 3) := by decide +kernel
theorem dX10_account_111 : decode cX10_account 111 = .ok (.iconst 1, 1) := by decide +kernel
theorem dX10_account_112 : decode cX10_account 112 = .ok (.iaload, 1) := by decide +kernel
theorem dX10_account_113 : decode cX10_account 113 = .ok (.invokevirtual 70, 3) := by decide +kernel
theorem dX10_account_116 : decode cX10_account 116 = .ok (.ireturn, 1) := by decide +kernel
theorem dX10_account_117 : decode cX10_account 117 = .ok (.aload_n 0, 1) := by decide +kernel
theorem dX10_account_118 : decode cX10_account 118 = .ok (.getfield 9, 3) := by decide +kernel
theorem dX10_account_121 : decode cX10_account 121 = .ok (.iconst 1, 1) := by decide +kernel
theorem dX10_account_122 : decode cX10_account 122 = .ok (.iaload, 1) := by decide +kernel
theorem dX10_account_123 : decode cX10_account 123 = .ok (.ireturn, 1) := by decide +kernel
theorem dX10_account_124 : decode cX10_account 124 = .ok (.aload_n 0, 1) := by decide +kernel
theorem dX10_account_125 : decode cX10_account 125 = .ok (.invokevirtual 189, 3) := by decide +kernel
theorem dX10_account_128 : decode cX10_account 128 = .ok (.ireturn, 1) := by decide +kernel
theorem dX10_account_129 : decode cX10_account 129 = .ok (.aload_n 0, 1) := by decide +kernel
theorem dX10_account_130 : decode cX10_account 130 = .ok (.getfield 9, 3) := by decide +kernel
theorem dX10_account_133 : decode cX10_account 133 = .ok (.iconst 1, 1) := by decide +kernel
theorem dX10_account_134 : decode cX10_account 134 = .ok (.iaload, 1) := by decide +kernel
theorem dX10_account_135 : decode cX10_account 135 = .ok (.aload_n 0, 1) := by decide +kernel
theorem dX10_account_136 : decode cX10_account 136 = .ok (.invokevirtual 189, 3) := by decide +kernel
theorem dX10_account_139 : decode cX10_account 139 = .ok (.isub, 1) := by decide +kernel
theorem dX10_account_140 : decode cX10_account 140 = .ok (.ireturn, 1) := by decide +kernel
theorem dX10_account_141 : decode cX10_account 141 = .ok (.aload_n 0, 1) := by decide +kernel
theorem dX10_account_142 : decode cX10_account 142 = .ok (.invokevirtual 272, 3) := by decide +kernel
theorem dX10_account_145 : decode cX10_account 145 = .ok (.ireturn, 1) := by decide +kernel
theorem dX10_account_146 : decode cX10_account 146 = .ok (.aload_n 0, 1) := by decide +kernel
theorem dX10_account_147 : decode cX10_account 147 = .ok (.getfield 9, 3) := by decide +kernel
theorem dX10_account_150 : decode cX10_account 150 = .ok (.iconst 2, 1) := by decide +kernel
theorem dX10_account_151 : decode cX10_account 151 = .ok (.iaload, 1) := by decide +kernel
theorem dX10_account_152 : decode cX10_account 152 = .ok (.ireturn, 1) := by decide +kernel
theorem dX10_account_153 : decode cX10_account 153 = .ok (.aload_n 0, 1) := by decide +kernel
theorem dX10_account_154 : decode cX10_account 154 = .ok (.getfield 9, 3) := by decide +kernel
theorem dX10_account_157 : decode cX10_account 157 = .ok (.iconst 3, 1) := by decide +kernel
theorem dX10_account_158 : decode cX10_account 158 = .ok (.iaload, 1) := by decide +kernel
theorem dX10_account_159 : decode cX10_account 159 = .ok (.ireturn, 1) := by decide +kernel
theorem dX10_account_160 : decode cX10_account 160 = .ok (.aload_n 0, 1) := by decide +kernel
theorem dX10_account_161 : decode cX10_account 161 = .ok (.getfield 9, 3) := by decide +kernel
theorem dX10_account_164 : decode cX10_account 164 = .ok (.iconst 4, 1) := by decide +kernel
theorem dX10_account_165 : decode cX10_account 165 = .ok (.iaload, 1) := by decide +kernel
theorem dX10_account_166 : decode cX10_account 166 = .ok (.ireturn, 1) := by decide +kernel
theorem dX10_account_167 : decode cX10_account 167 = .ok (.aload_n 0, 1) := by decide +kernel
theorem dX10_account_168 : decode cX10_account 168 = .ok (.getfield 209, 3) := by decide +kernel
theorem dX10_account_171 : decode cX10_account 171 = .ok (.ireturn, 1) := by decide +kernel
theorem dX10_account_172 : decode cX10_account 172 = .ok (.aload_n 0, 1) := by decide +kernel
theorem dX10_account_173 : decode cX10_account 173 = .ok (.getfield 45, 3) := by decide +kernel
theorem dX10_account_176 : decode cX10_account 176 = .ok (.ireturn, 1) := by decide +kernel
theorem dX10_isWell_0 : decode cX10_isWell 0 = .ok (.aload_n 0, 1) := by decide +kernel
theorem dX10_isWell_1 : decode cX10_isWell 1 = .ok (.iconst 0, 1) := by decide +kernel
theorem dX10_isWell_2 : decode cX10_isWell 2 = .ok (.putfield 36, 3) := by decide +kernel
theorem dX10_isWell_5 : decode cX10_isWell 5 = .ok (.iconst 1, 1) := by decide +kernel
theorem dX10_isWell_6 : decode cX10_isWell 6 = .ok (.ireturn, 1) := by decide +kernel
theorem dX10_meanPitch_0 : decode cX10_meanPitch 0 = .ok (.aload_n 0, 1) := by decide +kernel
theorem dX10_meanPitch_1 : decode cX10_meanPitch 1 = .ok (.invokevirtual 189, 3) := by decide +kernel
theorem dX10_meanPitch_4 : decode cX10_meanPitch 4 = .ok (.istore_n 1, 1) := by decide +kernel
theorem dX10_meanPitch_5 : decode cX10_meanPitch 5 = .ok (.aload_n 0, 1) := by decide +kernel
theorem dX10_meanPitch_6 : decode cX10_meanPitch 6 = .ok (.iload_n 1, 1) := by decide +kernel
theorem dX10_meanPitch_7 : decode cX10_meanPitch 7 = .ok (.ifCond .ne 7, 3) := by decide +kernel
theorem dX10_meanPitch_10 : decode cX10_meanPitch 10 = .ok (.iconst 1, 1) := by decide +kernel
theorem dX10_meanPitch_11 : decode cX10_meanPitch 11 = .ok (.goto 4, 3) := by decide +kernel
theorem dX10_meanPitch_14 : decode cX10_meanPitch 14 = .ok (.iconst 0, 1) := by decide +kernel
theorem dX10_meanPitch_15 : decode cX10_meanPitch 15 = .ok (.putfield 36, 3) := by decide +kernel
theorem dX10_meanPitch_18 : decode cX10_meanPitch 18 = .ok (.iconst 0, 1) := by decide +kernel
theorem dX10_meanPitch_19 : decode cX10_meanPitch 19 = .ok (.istore_n 2, 1) := by decide +kernel
theorem dX10_meanPitch_20 : decode cX10_meanPitch 20 = .ok (.iconst 0, 1) := by decide +kernel
theorem dX10_meanPitch_21 : decode cX10_meanPitch 21 = .ok (.istore_n 3, 1) := by decide +kernel
theorem dX10_meanPitch_22 : decode cX10_meanPitch 22 = .ok (.iload_n 3, 1) := by decide +kernel
theorem dX10_meanPitch_23 : decode cX10_meanPitch 23 = .ok (.aload_n 0, 1) := by decide +kernel
theorem dX10_meanPitch_24 : decode cX10_meanPitch 24 = .ok (.getfield 9, 3) := by decide +kernel
theorem dX10_meanPitch_27 : decode cX10_meanPitch 27 = .ok (.iconst 1, 1) := by decide +kernel
theorem dX10_meanPitch_28 : decode cX10_meanPitch 28 = .ok (.iaload, 1) := by decide +kernel
theorem dX10_meanPitch_29 : decode cX10_meanPitch 29 = .ok (.if_icmp .ge 29, 3) := by decide +kernel
theorem dX10_meanPitch_32 : decode cX10_meanPitch 32 = .ok (.iload_n 2, 1) := by decide +kernel
theorem dX10_meanPitch_33 : decode cX10_meanPitch 33 = .ok (.aload_n 0, 1) := by decide +kernel
theorem dX10_meanPitch_34 : decode cX10_meanPitch 34 = .ok (.iload_n 3, 1) := by decide +kernel
theorem dX10_meanPitch_35 : decode cX10_meanPitch 35 = .ok (.invokevirtual 134, 3) := by decide +kernel
theorem dX10_meanPitch_38 : decode cX10_meanPitch 38 = .ok (.ifCond .eq 11, 3) := by decide +kernel
theorem dX10_meanPitch_41 : decode cX10_meanPitch 41 = .ok (.aload_n 0, 1) := by decide +kernel
theorem dX10_meanPitch_42 : decode cX10_meanPitch 42 = .ok (.iload_n 3, 1) := by decide +kernel
theorem dX10_meanPitch_43 : decode cX10_meanPitch 43 = .ok (.invokevirtual 140, 3) := by decide +kernel
theorem dX10_meanPitch_46 : decode cX10_meanPitch 46 = .ok (.goto 4, 3) := by decide +kernel
theorem dX10_meanPitch_49 : decode cX10_meanPitch 49 = .ok (.iconst 0, 1) := by decide +kernel
theorem dX10_meanPitch_50 : decode cX10_meanPitch 50 = .ok (.iadd, 1) := by decide +kernel
theorem dX10_meanPitch_51 : decode cX10_meanPitch 51 = .ok (.istore_n 2, 1) := by decide +kernel
theorem dX10_meanPitch_52 : decode cX10_meanPitch 52 = .ok (.iinc 3 1, 3) := by decide +kernel
theorem dX10_meanPitch_55 : decode cX10_meanPitch 55 = .ok (.goto (-33), 3) := by decide +kernel
theorem dX10_meanPitch_58 : decode cX10_meanPitch 58 = .ok (.aload_n 0, 1) := by decide +kernel
theorem dX10_meanPitch_59 : decode cX10_meanPitch 59 = .ok (.getfield 36, 3) := by decide +kernel
theorem dX10_meanPitch_62 : decode cX10_meanPitch 62 = .ok (.ifCond .le 7, 3) := by decide +kernel
theorem dX10_meanPitch_65 : decode cX10_meanPitch 65 = .ok (.dconst 0, 1) := by decide +kernel
theorem dX10_meanPitch_66 : decode cX10_meanPitch 66 = .ok (.goto 8, 3) := by decide +kernel
theorem dX10_meanPitch_69 : decode cX10_meanPitch 69 = .ok (.iload_n 2, 1) := by decide +kernel
theorem dX10_meanPitch_70 : decode cX10_meanPitch 70 = .ok (.i2d, 1) := by decide +kernel
theorem dX10_meanPitch_71 : decode cX10_meanPitch 71 = .ok (.iload_n 1, 1) := by decide +kernel
theorem dX10_meanPitch_72 : decode cX10_meanPitch 72 = .ok (.i2d, 1) := by decide +kernel
theorem dX10_meanPitch_73 : decode cX10_meanPitch 73 = .ok (.ddiv, 1) := by decide +kernel
theorem dX10_meanPitch_74 : decode cX10_meanPitch 74 = .ok (.dreturn, 1) := by decide +kernel
theorem dX10_filledShare_0 : decode cX10_filledShare 0 = .ok (.aload_n 0, 1) := by decide +kernel
theorem dX10_filledShare_1 : decode cX10_filledShare 1 = .ok (.aload_n 0, 1) := by decide +kernel
theorem dX10_filledShare_2 : decode cX10_filledShare 2 = .ok (.getfield 9, 3) := by decide +kernel
theorem dX10_filledShare_5 : decode cX10_filledShare 5 = .ok (.iconst 0, 1) := by decide +kernel
theorem dX10_filledShare_6 : decode cX10_filledShare 6 = .ok (.iaload, 1) := by decide +kernel
theorem dX10_filledShare_7 : decode cX10_filledShare 7 = .ok (.invokevirtual 66, 3) := by decide +kernel
theorem dX10_filledShare_10 : decode cX10_filledShare 10 = .ok (.istore_n 1, 1) := by decide +kernel
theorem dX10_filledShare_11 : decode cX10_filledShare 11 = .ok (.aload_n 0, 1) := by decide +kernel
theorem dX10_filledShare_12 : decode cX10_filledShare 12 = .ok (.iload_n 1, 1) := by decide +kernel
theorem dX10_filledShare_13 : decode cX10_filledShare 13 = .ok (.ifCond .ne 7, 3) := by decide +kernel
theorem dX10_filledShare_16 : decode cX10_filledShare 16 = .ok (.iconst 1, 1) := by decide +kernel
theorem dX10_filledShare_17 : decode cX10_filledShare 17 = .ok (.goto 4, 3) := by decide +kernel
theorem dX10_filledShare_20 : decode cX10_filledShare 20 = .ok (.iconst 0, 1) := by decide +kernel
theorem dX10_filledShare_21 : decode cX10_filledShare 21 = .ok (.putfield 36, 3) := by decide +kernel
theorem dX10_filledShare_24 : decode cX10_filledShare 24 = .ok (.aload_n 0, 1) := by decide +kernel
theorem dX10_filledShare_25 : decode cX10_filledShare 25 = .ok (.getfield 36, 3) := by decide +kernel
theorem dX10_filledShare_28 : decode cX10_filledShare 28 = .ok (.ifCond .le 7, 3) := by decide +kernel
theorem dX10_filledShare_31 : decode cX10_filledShare 31 = .ok (.fconst 0, 1) := by decide +kernel
theorem dX10_filledShare_32 : decode cX10_filledShare 32 = .ok (.goto 17, 3) := by decide +kernel
theorem dX10_filledShare_35 : decode cX10_filledShare 35 = .ok (.aload_n 0, 1) := by decide +kernel
theorem dX10_filledShare_36 : decode cX10_filledShare 36 = .ok (.aload_n 0, 1) := by decide +kernel
theorem dX10_filledShare_37 : decode cX10_filledShare 37 = .ok (.getfield 9, 3) := by decide +kernel
theorem dX10_filledShare_40 : decode cX10_filledShare 40 = .ok (.iconst 1, 1) := by decide +kernel
theorem dX10_filledShare_41 : decode cX10_filledShare 41 = .ok (.iaload, 1) := by decide +kernel
theorem dX10_filledShare_42 : decode cX10_filledShare 42 = .ok (.invokevirtual 70, 3) := by decide +kernel
theorem dX10_filledShare_45 : decode cX10_filledShare 45 = .ok (.i2f, 1) := by decide +kernel
theorem dX10_filledShare_46 : decode cX10_filledShare 46 = .ok (.iload_n 1, 1) := by decide +kernel
theorem dX10_filledShare_47 : decode cX10_filledShare 47 = .ok (.i2f, 1) := by decide +kernel
theorem dX10_filledShare_48 : decode cX10_filledShare 48 = .ok (.fdiv, 1) := by decide +kernel
theorem dX10_filledShare_49 : decode cX10_filledShare 49 = .ok (.freturn, 1) := by decide +kernel
theorem dX10_undo_0 : decode cX10_undo 0 = .ok (.aload_n 0, 1) := by decide +kernel
theorem dX10_undo_1 : decode cX10_undo 1 = .ok (.aload_n 0, 1) := by decide +kernel
theorem dX10_undo_2 : decode cX10_undo 2 = .ok (.getfield 45, 3) := by decide +kernel
theorem dX10_undo_5 : decode cX10_undo 5 = .ok (.ifCond .ne 7, 3) := by decide +kernel
theorem dX10_undo_8 : decode cX10_undo 8 = .ok (.iconst 1, 1) := by decide +kernel
theorem dX10_undo_9 : decode cX10_undo 9 = .ok (.goto 4, 3) := by decide +kernel
theorem dX10_undo_12 : decode cX10_undo 12 = .ok (.iconst 0, 1) := by decide +kernel
theorem dX10_undo_13 : decode cX10_undo 13 = .ok (.putfield 36, 3) := by decide +kernel
theorem dX10_undo_16 : decode cX10_undo 16 = .ok (.aload_n 0, 1) := by decide +kernel
theorem dX10_undo_17 : decode cX10_undo 17 = .ok (.getfield 36, 3) := by decide +kernel
theorem dX10_undo_20 : decode cX10_undo 20 = .ok (.ifCond .le 5, 3) := by decide +kernel
theorem dX10_undo_23 : decode cX10_undo 23 = .ok (.iconst 0, 1) := by decide +kernel
theorem dX10_undo_24 : decode cX10_undo 24 = .ok (.ireturn, 1) := by decide +kernel
theorem dX10_undo_25 : decode cX10_undo 25 = .ok (.aload_n 0, 1) := by decide +kernel
theorem dX10_undo_26 : decode cX10_undo 26 = .ok (.dup, 1) := by decide +kernel
theorem dX10_undo_27 : decode cX10_undo 27 = .ok (.getfield 45, 3) := by decide +kernel
theorem dX10_undo_30 : decode cX10_undo 30 = .ok (.iconst 1, 1) := by decide +kernel
theorem dX10_undo_31 : decode cX10_undo 31 = .ok (.isub, 1) := by decide +kernel
theorem dX10_undo_32 : decode cX10_undo 32 = .ok (.putfield 45, 3) := by decide +kernel
theorem dX10_undo_35 : decode cX10_undo 35 = .ok (.aload_n 0, 1) := by decide +kernel
theorem dX10_undo_36 : decode cX10_undo 36 = .ok (.getfield 19, 3) := by decide +kernel
theorem dX10_undo_39 : decode cX10_undo 39 = .ok (.bipush 67, 2) := by decide +kernel
theorem dX10_undo_41 : decode cX10_undo 41 = .ok (.aload_n 0, 1) := by decide +kernel
theorem dX10_undo_42 : decode cX10_undo 42 = .ok (.getfield 45, 3) := by decide +kernel
theorem dX10_undo_45 : decode cX10_undo 45 = .ok (.imul, 1) := by decide +kernel
theorem dX10_undo_46 : decode cX10_undo 46 = .ok (.aload_n 0, 1) := by decide +kernel
theorem dX10_undo_47 : decode cX10_undo 47 = .ok (.getfield 9, 3) := by decide +kernel
theorem dX10_undo_50 : decode cX10_undo 50 = .ok (.iconst 0, 1) := by decide +kernel
theorem dX10_undo_51 : decode cX10_undo 51 = .ok (.bipush 67, 2) := by decide +kernel
theorem dX10_undo_53 : decode cX10_undo 53 = .ok (.invokestatic 39, 3) := by decide +kernel
theorem dX10_undo_56 : decode cX10_undo 56 = .ok (.aload_n 0, 1) := by decide +kernel
theorem dX10_undo_57 : decode cX10_undo 57 = .ok (.getfield 45, 3) := by decide +kernel
theorem dX10_undo_60 : decode cX10_undo 60 = .ok (.ireturn, 1) := by decide +kernel
theorem dX10_save_0 : decode cX10_save 0 = .ok (.aload_n 0, 1) := by decide +kernel
theorem dX10_save_1 : decode cX10_save 1 = .ok (.iconst 0, 1) := by decide +kernel
theorem dX10_save_2 : decode cX10_save 2 = .ok (.putfield 36, 3) := by decide +kernel
theorem dX10_save_5 : decode cX10_save 5 = .ok (.aload_n 0, 1) := by decide +kernel
theorem dX10_save_6 : decode cX10_save 6 = .ok (.getfield 9, 3) := by decide +kernel
theorem dX10_save_9 : decode cX10_save 9 = .ok (.iconst 0, 1) := by decide +kernel
theorem dX10_save_10 : decode cX10_save 10 = .ok (.aload_n 0, 1) := by decide +kernel
theorem dX10_save_11 : decode cX10_save 11 = .ok (.getfield 16, 3) := by decide +kernel
theorem dX10_save_14 : decode cX10_save 14 = .ok (.iconst 0, 1) := by decide +kernel
theorem dX10_save_15 : decode cX10_save 15 = .ok (.bipush 67, 2) := by decide +kernel
theorem dX10_save_17 : decode cX10_save 17 = .ok (.invokestatic 39, 3) := by decide +kernel
theorem dX10_save_20 : decode cX10_save 20 = .ok (.aload_n 0, 1) := by decide +kernel
theorem dX10_save_21 : decode cX10_save 21 = .ok (.iconst 1, 1) := by decide +kernel
theorem dX10_save_22 : decode cX10_save 22 = .ok (.putfield 275, 3) := by decide +kernel
theorem dX10_save_25 : decode cX10_save 25 = .ok (.aload_n 0, 1) := by decide +kernel
theorem dX10_save_26 : decode cX10_save 26 = .ok (.getfield 9, 3) := by decide +kernel
theorem dX10_save_29 : decode cX10_save 29 = .ok (.iconst 1, 1) := by decide +kernel
theorem dX10_save_30 : decode cX10_save 30 = .ok (.iaload, 1) := by decide +kernel
theorem dX10_save_31 : decode cX10_save 31 = .ok (.ireturn, 1) := by decide +kernel
theorem dX10_restore_0 : decode cX10_restore 0 = .ok (.aload_n 0, 1) := by decide +kernel
theorem dX10_restore_1 : decode cX10_restore 1 = .ok (.aload_n 0, 1) := by decide +kernel
theorem dX10_restore_2 : decode cX10_restore 2 = .ok (.getfield 275, 3) := by decide +kernel
theorem dX10_restore_5 : decode cX10_restore 5 = .ok (.ifCond .eq 7, 3) := by decide +kernel
theorem dX10_restore_8 : decode cX10_restore 8 = .ok (.iconst 0, 1) := by decide +kernel
theorem dX10_restore_9 : decode cX10_restore 9 = .ok (.goto 4, 3) := by decide +kernel
theorem dX10_restore_12 : decode cX10_restore 12 = .ok (.iconst 1, 1) := by decide +kernel
theorem dX10_restore_13 : decode cX10_restore 13 = .ok (.putfield 36, 3) := by decide +kernel
theorem dX10_restore_16 : decode cX10_restore 16 = .ok (.aload_n 0, 1) := by decide +kernel
theorem dX10_restore_17 : decode cX10_restore 17 = .ok (.getfield 36, 3) := by decide +kernel
theorem dX10_restore_20 : decode cX10_restore 20 = .ok (.ifCond .le 5, 3) := by decide +kernel
theorem dX10_restore_23 : decode cX10_restore 23 = .ok (.iconst 0, 1) := by decide +kernel
theorem dX10_restore_24 : decode cX10_restore 24 = .ok (.ireturn, 1) := by decide +kernel
theorem dX10_restore_25 : decode cX10_restore 25 = .ok (.aload_n 0, 1) := by decide +kernel
theorem dX10_restore_26 : decode cX10_restore 26 = .ok (.getfield 16, 3) := by decide +kernel
theorem dX10_restore_29 : decode cX10_restore 29 = .ok (.iconst 0, 1) := by decide +kernel
theorem dX10_restore_30 : decode cX10_restore 30 = .ok (.aload_n 0, 1) := by decide +kernel
theorem dX10_restore_31 : decode cX10_restore 31 = .ok (.getfield 9, 3) := by decide +kernel
theorem dX10_restore_34 : decode cX10_restore 34 = .ok (.iconst 0, 1) := by decide +kernel
theorem dX10_restore_35 : decode cX10_restore 35 = .ok (.bipush 67, 2) := by decide +kernel
theorem dX10_restore_37 : decode cX10_restore 37 = .ok (.invokestatic 39, 3) := by decide +kernel
theorem dX10_restore_40 : decode cX10_restore 40 = .ok (.aload_n 0, 1) := by decide +kernel
theorem dX10_restore_41 : decode cX10_restore 41 = .ok (.iconst 0, 1) := by decide +kernel
theorem dX10_restore_42 : decode cX10_restore 42 = .ok (.putfield 45, 3) := by decide +kernel
theorem dX10_restore_45 : decode cX10_restore 45 = .ok (.aload_n 0, 1) := by decide +kernel
theorem dX10_restore_46 : decode cX10_restore 46 = .ok (.getfield 9, 3) := by decide +kernel
theorem dX10_restore_49 : decode cX10_restore 49 = .ok (.iconst 1, 1) := by decide +kernel
theorem dX10_restore_50 : decode cX10_restore 50 = .ok (.iaload, 1) := by decide +kernel
theorem dX10_restore_51 : decode cX10_restore 51 = .ok (.ireturn, 1) := by decide +kernel
