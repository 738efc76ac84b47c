theorem dX0_init_0 : decode cX0_init 0 = .ok (.aload_n 0, 1) := by decide +kernel
theorem dX0_init_1 : decode cX0_init 1 = .ok (.invokespecial 3, 3) := by decide +kernel
theorem dX0_init_4 : decode cX0_init 4 = .ok (.aload_n 0, 1) := by decide +kernel
theorem dX0_init_5 : decode cX0_init 5 = .ok (.bipush 8, 2) := by decide +kernel
theorem dX0_init_7 : decode cX0_init 7 = .ok (.anewarray 9, 3) := by decide +kernel
theorem dX0_init_10 : decode cX0_init 10 = .ok (.putfield 11, 3) := by decide +kernel
theorem dX0_init_13 : decode cX0_init 13 = .ok (.aload_n 0, 1) := by decide +kernel
theorem dX0_init_14 : decode cX0_init 14 = .ok (.iconst 0, 1) := by decide +kernel
theorem dX0_init_15 : decode cX0_init 15 = .ok (.putfield 17, 3) := by decide +kernel
theorem dX0_init_18 : decode cX0_init 18 = .ok (.aload_n 0, 1) := by decide +kernel
theorem dX0_init_19 : decode cX0_init 19 = .ok (.iconst 0, 1) := by decide +kernel
theorem dX0_init_20 : decode cX0_init 20 = .ok (.putfield 21, 3) := by decide +kernel
theorem dX0_init_23 : decode cX0_init 23 = .ok (.iconst 0, 1) := by decide +kernel
theorem dX0_init_24 : decode cX0_init 24 = .ok (.istore_n 1, 1) := by decide +kernel
theorem dX0_init_25 : decode cX0_init 25 = .ok (.iload_n 1, 1) := by decide +kernel
theorem dX0_init_26 : decode cX0_init 26 = .ok (.aload_n 0, 1) := by decide +kernel
theorem dX0_init_27 : decode cX0_init 27 = .ok (.getfield 11, 3) := by decide +kernel
theorem dX0_init_30 : decode cX0_init 30 = .ok (.arraylength, 1) := by decide +kernel
theorem dX0_init_31 : decode cX0_init 31 = .ok (.if_icmp .ge 22, 3) := by decide +kernel
theorem dX0_init_34 : decode cX0_init 34 = .ok (.aload_n 0, 1) := by decide +kernel
theorem dX0_init_35 : decode cX0_init 35 = .ok (.getfield 11, 3) := by decide +kernel
theorem dX0_init_38 : decode cX0_init 38 = .ok (.iload_n 1, 1) := by decide +kernel
theorem dX0_init_39 : decode cX0_init 39 = .ok (.new 9, 3) := by decide +kernel
theorem dX0_init_42 : decode cX0_init 42 = .ok (.dup, 1) := by decide +kernel
theorem dX0_init_43 : decode cX0_init 43 = .ok (.invokespecial 24, 3) := by decide +kernel
theorem dX0_init_46 : decode cX0_init 46 = .ok (.aastore, 1) := by decide +kernel
theorem dX0_init_47 : decode cX0_init 47 = .ok (.iinc 1 1, 3) := by decide +kernel
theorem dX0_init_50 : decode cX0_init 50 = .ok (.goto (-25), 3) := by decide +kernel
theorem dX0_init_53 : decode cX0_init 53 = .ok (.return_, 1) := by decide +kernel
theorem dX0_countOfChanges_0 : decode cX0_countOfChanges 0 = .ok (.aload_n 0, 1) := by decide +kernel
theorem dX0_countOfChanges_1 : decode cX0_countOfChanges 1 = .ok (.getfield 21, 3) := by decide +kernel
theorem dX0_countOfChanges_4 : decode cX0_countOfChanges 4 = .ok (.ireturn, 1) := by decide +kernel
theorem dX0_keep_0 : decode cX0_keep 0 = .ok (.aload_n 0, 1) := by decide +kernel
theorem dX0_keep_1 : decode cX0_keep 1 = .ok (.aload_n 0, 1) := by decide +kernel
theorem dX0_keep_2 : decode cX0_keep 2 = .ok (.getfield 17, 3) := by decide +kernel
theorem dX0_keep_5 : decode cX0_keep 5 = .ok (.invokevirtual 25, 3) := by decide +kernel
theorem dX0_keep_8 : decode cX0_keep 8 = .ok (.astore_n 2, 1) := by decide +kernel
theorem dX0_keep_9 : decode cX0_keep 9 = .ok (.aload_n 2, 1) := by decide +kernel
theorem dX0_keep_10 : decode cX0_keep 10 = .ok (.ifnull 36, 3) := by decide +kernel
theorem dX0_keep_13 : decode cX0_keep 13 = .ok (.aload_n 2, 1) := by decide +kernel
theorem dX0_keep_14 : decode cX0_keep 14 = .ok (.aload_n 1, 1) := by decide +kernel
theorem dX0_keep_15 : decode cX0_keep 15 = .ok (.invokevirtual 29, 3) := by decide +kernel
theorem dX0_keep_18 : decode cX0_keep 18 = .ok (.aload_n 0, 1) := by decide +kernel
theorem dX0_keep_19 : decode cX0_keep 19 = .ok (.aload_n 0, 1) := by decide +kernel
theorem dX0_keep_20 : decode cX0_keep 20 = .ok (.getfield 17, 3) := by decide +kernel
theorem dX0_keep_23 : decode cX0_keep 23 = .ok (.iconst 1, 1) := by decide +kernel
theorem dX0_keep_24 : decode cX0_keep 24 = .ok (.iadd, 1) := by decide +kernel
theorem dX0_keep_25 : decode cX0_keep 25 = .ok (.bipush 8, 2) := by decide +kernel
theorem dX0_keep_27 : decode cX0_keep 27 = .ok (.irem, 1) := by decide +kernel
theorem dX0_keep_28 : decode cX0_keep 28 = .ok (.putfield 17, 3) := by decide +kernel
theorem dX0_keep_31 : decode cX0_keep 31 = .ok (.aload_n 0, 1) := by decide +kernel
theorem dX0_keep_32 : decode cX0_keep 32 = .ok (.aload_n 0, 1) := by decide +kernel
theorem dX0_keep_33 : decode cX0_keep 33 = .ok (.getfield 21, 3) := by decide +kernel
theorem dX0_keep_36 : decode cX0_keep 36 = .ok (.iconst 1, 1) := by decide +kernel
theorem dX0_keep_37 : decode cX0_keep 37 = .ok (.iadd, 1) := by decide +kernel
theorem dX0_keep_38 : decode cX0_keep 38 = .ok (.bipush 8, 2) := by decide +kernel
theorem dX0_keep_40 : decode cX0_keep 40 = .ok (.invokestatic 33, 3) := by decide +kernel
theorem dX0_keep_43 : decode cX0_keep 43 = .ok (.putfield 21, 3) := by decide +kernel
theorem dX0_keep_46 : decode cX0_keep 46 = .ok (.return_, 1) := by decide +kernel
theorem dX0_takeBack_0 : decode cX0_takeBack 0 = .ok (.aload_n 0, 1) := by decide +kernel
theorem dX0_takeBack_1 : decode cX0_takeBack 1 = .ok (.getfield 17, 3) := by decide +kernel
theorem dX0_takeBack_4 : decode cX0_takeBack 4 = .ok (.bipush 8, 2) := by decide +kernel
theorem dX0_takeBack_6 : decode cX0_takeBack 6 = .ok (.iadd, 1) := by decide +kernel
theorem dX0_takeBack_7 : decode cX0_takeBack 7 = .ok (.iconst 1, 1) := by decide +kernel
theorem dX0_takeBack_8 : decode cX0_takeBack 8 = .ok (.isub, 1) := by decide +kernel
theorem dX0_takeBack_9 : decode cX0_takeBack 9 = .ok (.bipush 8, 2) := by decide +kernel
theorem dX0_takeBack_11 : decode cX0_takeBack 11 = .ok (.irem, 1) := by decide +kernel
theorem dX0_takeBack_12 : decode cX0_takeBack 12 = .ok (.istore_n 2, 1) := by decide +kernel
theorem dX0_takeBack_13 : decode cX0_takeBack 13 = .ok (.aload_n 0, 1) := by decide +kernel
theorem dX0_takeBack_14 : decode cX0_takeBack 14 = .ok (.iload_n 2, 1) := by decide +kernel
theorem dX0_takeBack_15 : decode cX0_takeBack 15 = .ok (.invokevirtual 25, 3) := by decide +kernel
theorem dX0_takeBack_18 : decode cX0_takeBack 18 = .ok (.astore_n 3, 1) := by decide +kernel
theorem dX0_takeBack_19 : decode cX0_takeBack 19 = .ok (.aload_n 3, 1) := by decide +kernel
theorem dX0_takeBack_20 : decode cX0_takeBack 20 = .ok (.ifnull 23, 3) := by decide +kernel
theorem dX0_takeBack_23 : decode cX0_takeBack 23 = .ok (.aload_n 1, 1) := by decide +kernel
theorem dX0_takeBack_24 : decode cX0_takeBack 24 = .ok (.aload_n 3, 1) := by decide +kernel
theorem dX0_takeBack_25 : decode cX0_takeBack 25 = .ok (.invokevirtual 29, 3) := by decide +kernel
theorem dX0_takeBack_28 : decode cX0_takeBack 28 = .ok (.aload_n 0, 1) := by decide +kernel
theorem dX0_takeBack_29 : decode cX0_takeBack 29 = .ok (.iload_n 2, 1) := by decide +kernel
theorem dX0_takeBack_30 : decode cX0_takeBack 30 = .ok (.putfield 17, 3) := by decide +kernel
theorem dX0_takeBack_33 : decode cX0_takeBack 33 = .ok (.aload_n 0, 1) := by decide +kernel
theorem dX0_takeBack_34 : decode cX0_takeBack 34 = .ok (.dup, 1) := by decide +kernel
theorem dX0_takeBack_35 : decode cX0_takeBack 35 = .ok (.getfield 21, 3) := by decide +kernel
theorem dX0_takeBack_38 : decode cX0_takeBack 38 = .ok (.iconst 1, 1) := by decide +kernel
theorem dX0_takeBack_39 : decode cX0_takeBack 39 = .ok (.isub, 1) := by decide +kernel
theorem dX0_takeBack_40 : decode cX0_takeBack 40 = .ok (.putfield 21, 3) := by decide +kernel
theorem dX0_takeBack_43 : decode cX0_takeBack 43 = .ok (.return_, 1) := by decide +kernel
theorem dX0_pageAt_0 : decode cX0_pageAt 0 = .ok (.iload_n 1, 1) := by decide +kernel
theorem dX0_pageAt_1 : decode cX0_pageAt 1 = .ok (.ifCond .lt 21, 3) := by decide +kernel
theorem dX0_pageAt_4 : decode cX0_pageAt 4 = .ok (.iload_n 1, 1) := by decide +kernel
theorem dX0_pageAt_5 : decode cX0_pageAt 5 = .ok (.aload_n 0, 1) := by decide +kernel
theorem dX0_pageAt_6 : decode cX0_pageAt 6 = .ok (.getfield 11, 3) := by decide +kernel
theorem dX0_pageAt_9 : decode cX0_pageAt 9 = .ok (.arraylength, 1) := by decide +kernel
theorem dX0_pageAt_10 : decode cX0_pageAt 10 = .ok (.if_icmp .ge 12, 3) := by decide +kernel
theorem dX0_pageAt_13 : decode cX0_pageAt 13 = .ok (.aload_n 0, 1) := by decide +kernel
theorem dX0_pageAt_14 : decode cX0_pageAt 14 = .ok (.getfield 11, 3) := by decide +kernel
theorem dX0_pageAt_17 : decode cX0_pageAt 17 = .ok (.iload_n 1, 1) := by decide +kernel
theorem dX0_pageAt_18 : decode cX0_pageAt 18 = .ok (.aaload, 1) := by decide +kernel
theorem dX0_pageAt_19 : decode cX0_pageAt 19 = .ok (.goto 4, 3) := by decide +kernel
theorem dX0_pageAt_22 : decode cX0_pageAt 22 = .ok (.aconst_null, 1) := by decide +kernel
theorem dX0_pageAt_23 : decode cX0_pageAt 23 = .ok (.areturn, 1) := by decide +kernel
theorem dX1_init_0 : decode cX1_init 0 = .ok (.aload_n 0, 1) := by decide +kernel
theorem dX1_init_1 : decode cX1_init 1 = .ok (.invokespecial 3, 3) := by decide +kernel
theorem dX1_init_4 : decode cX1_init 4 = .ok (.aload_n 0, 1) := by decide +kernel
theorem dX1_init_5 : decode cX1_init 5 = .ok (.iconst 0, 1) := by decide +kernel
theorem dX1_init_6 : decode cX1_init 6 = .ok (.putfield 9, 3) := by decide +kernel
theorem dX1_init_9 : decode cX1_init 9 = .ok (.aload_n 0, 1) := by decide +kernel
theorem dX1_init_10 : decode cX1_init 10 = .ok (.iconst 0, 1) := by decide +kernel
theorem dX1_init_11 : decode cX1_init 11 = .ok (.putfield 15, 3) := by decide +kernel
theorem dX1_init_14 : decode cX1_init 14 = .ok (.aload_n 0, 1) := by decide +kernel
theorem dX1_init_15 : decode cX1_init 15 = .ok (.aload_n 1, 1) := by decide +kernel
theorem dX1_init_16 : decode cX1_init 16 = .ok (.putfield 18, 3) := by decide +kernel
theorem dX1_init_19 : decode cX1_init 19 = .ok (.return_, 1) := by decide +kernel
theorem dX1_hasRefused_0 : decode cX1_hasRefused 0 = .ok (.aload_n 0, 1) := by decide +kernel
theorem dX1_hasRefused_1 : decode cX1_hasRefused 1 = .ok (.getfield 9, 3) := by decide +kernel
theorem dX1_hasRefused_4 : decode cX1_hasRefused 4 = .ok (.ifCond .eq 7, 3) := by decide +kernel
theorem dX1_hasRefused_7 : decode cX1_hasRefused 7 = .ok (.iconst 1, 1) := by decide +kernel
theorem dX1_hasRefused_8 : decode cX1_hasRefused 8 = .ok (.goto 4, 3) := by decide +kernel
theorem dX1_hasRefused_11 : decode cX1_hasRefused 11 = .ok (.iconst 0, 1) := by decide +kernel
theorem dX1_hasRefused_12 : decode cX1_hasRefused 12 = .ok (.ireturn, 1) := by decide +kernel
theorem dX1_latestReason_0 : decode cX1_latestReason 0 = .ok (.aload_n 0, 1) := by decide +kernel
theorem dX1_latestReason_1 : decode cX1_latestReason 1 = .ok (.getfield 9, 3) := by decide +kernel
theorem dX1_latestReason_4 : decode cX1_latestReason 4 = .ok (.ireturn, 1) := by decide +kernel
theorem dX1_latestDetail_0 : decode cX1_latestDetail 0 = .ok (.aload_n 0, 1) := by decide +kernel
theorem dX1_latestDetail_1 : decode cX1_latestDetail 1 = .ok (.getfield 15, 3) := by decide +kernel
theorem dX1_latestDetail_4 : decode cX1_latestDetail 4 = .ok (.ireturn, 1) := by decide +kernel
theorem dX1_refuse_0 : decode cX1_refuse 0 = .ok (.aload_n 0, 1) := by decide +kernel
theorem dX1_refuse_1 : decode cX1_refuse 1 = .ok (.iload_n 1, 1) := by decide +kernel
theorem dX1_refuse_2 : decode cX1_refuse 2 = .ok (.putfield 9, 3) := by decide +kernel
theorem dX1_refuse_5 : decode cX1_refuse 5 = .ok (.aload_n 0, 1) := by decide +kernel
theorem dX1_refuse_6 : decode cX1_refuse 6 = .ok (.iload_n 2, 1) := by decide +kernel
theorem dX1_refuse_7 : decode cX1_refuse 7 = .ok (.putfield 15, 3) := by decide +kernel
theorem dX1_refuse_10 : decode cX1_refuse 10 = .ok (.iconst 3, 1) := by decide +kernel
theorem dX1_refuse_11 : decode cX1_refuse 11 = .ok (.ireturn, 1) := by decide +kernel
theorem dX1_verdict_0 : decode cX1_verdict 0 = .ok (.aload_n 1, 1) := by decide +kernel
theorem dX1_verdict_1 : decode cX1_verdict 1 = .ok (.getstatic 22, 3) := by decide +kernel
theorem dX1_verdict_4 : decode cX1_verdict 4 = .ok (.if_acmp .ne 9, 3) := by decide +kernel
theorem dX1_verdict_7 : decode cX1_verdict 7 = .ok (.aload_n 0, 1) := by decide +kernel
theorem dX1_verdict_8 : decode cX1_verdict 8 = .ok (.iload_n 2, 1) := by decide +kernel
theorem dX1_verdict_9 : decode cX1_verdict 9 = .ok (.invokevirtual 28, 3) := by decide +kernel
theorem dX1_verdict_12 : decode cX1_verdict 12 = .ok (.ireturn, 1) := by decide +kernel
theorem dX1_verdict_13 : decode cX1_verdict 13 = .ok (.aload_n 1, 1) := by decide +kernel
theorem dX1_verdict_14 : decode cX1_verdict 14 = .ok (.getstatic 32, 3) := by decide +kernel
theorem dX1_verdict_17 : decode cX1_verdict 17 = .ok (.if_acmp .ne 20, 3) := by decide +kernel
theorem dX1_verdict_20 : decode cX1_verdict 20 = .ok (.aload_n 0, 1) := by decide +kernel
theorem dX1_verdict_21 : decode cX1_verdict 21 = .ok (.iload_n 2, 1) := by decide +kernel
theorem dX1_verdict_22 : decode cX1_verdict 22 = .ok (.iload_n 3, 1) := by decide +kernel
theorem dX1_verdict_23 : decode cX1_verdict 23 = .ok (.aload_n 0, 1) := by decide +kernel
theorem dX1_verdict_24 : decode cX1_verdict 24 = .ok (.getfield 18, 3) := by decide +kernel
theorem dX1_verdict_27 : decode cX1_verdict 27 = .ok (.iload_n 2, 1) := by decide +kernel
theorem dX1_verdict_28 : decode cX1_verdict 28 = .ok (.invokevirtual 35, 3) := by decide +kernel
theorem dX1_verdict_31 : decode cX1_verdict 31 = .ok (.bipush 11, 2) := by decide +kernel
theorem dX1_verdict_33 : decode cX1_verdict 33 = .ok (.invokevirtual 40, 3) := by decide +kernel
theorem dX1_verdict_36 : decode cX1_verdict 36 = .ok (.ireturn, 1) := by decide +kernel
theorem dX1_verdict_37 : decode cX1_verdict 37 = .ok (.aload_n 1, 1) := by decide +kernel
theorem dX1_verdict_38 : decode cX1_verdict 38 = .ok (.getstatic 44, 3) := by decide +kernel
theorem dX1_verdict_41 : decode cX1_verdict 41 = .ok (.if_acmp .ne 19, 3) := by decide +kernel
theorem dX1_verdict_44 : decode cX1_verdict 44 = .ok (.aload_n 0, 1) := by decide +kernel
theorem dX1_verdict_45 : decode cX1_verdict 45 = .ok (.iload_n 2, 1) := by decide +kernel
theorem dX1_verdict_46 : decode cX1_verdict 46 = .ok (.iload_n 3, 1) := by decide +kernel
theorem dX1_verdict_47 : decode cX1_verdict 47 = .ok (.aload_n 0, 1) := by decide +kernel
theorem dX1_verdict_48 : decode cX1_verdict 48 = .ok (.getfield 18, 3) := by decide +kernel
theorem dX1_verdict_51 : decode cX1_verdict 51 = .ok (.iload_n 2, 1) := by decide +kernel
theorem dX1_verdict_52 : decode cX1_verdict 52 = .ok (.invokevirtual 47, 3) := by decide +kernel
theorem dX1_verdict_55 : decode cX1_verdict 55 = .ok (.iconst 3, 1) := by decide +kernel
theorem dX1_verdict_56 : decode cX1_verdict 56 = .ok (.invokevirtual 40, 3) := by decide +kernel
theorem dX1_verdict_59 : decode cX1_verdict 59 = .ok (.ireturn, 1) := by decide +kernel
theorem dX1_verdict_60 : decode cX1_verdict 60 = .ok (.aload_n 1, 1) := by decide +kernel
theorem dX1_verdict_61 : decode cX1_verdict 61 = .ok (.getstatic 50, 3) := by decide +kernel
theorem dX1_verdict_64 : decode cX1_verdict 64 = .ok (.if_acmp .ne 12, 3) := by decide +kernel
theorem dX1_verdict_67 : decode cX1_verdict 67 = .ok (.aload_n 0, 1) := by decide +kernel
theorem dX1_verdict_68 : decode cX1_verdict 68 = .ok (.iload_n 2, 1) := by decide +kernel
theorem dX1_verdict_69 : decode cX1_verdict 69 = .ok (.iload_n 3, 1) := by decide +kernel
theorem dX1_verdict_70 : decode cX1_verdict 70 = .ok (.iload 4, 2) := by decide +kernel
theorem dX1_verdict_72 : decode cX1_verdict 72 = .ok (.invokevirtual 53, 3) := by decide +kernel
theorem dX1_verdict_75 : decode cX1_verdict 75 = .ok (.ireturn, 1) := by decide +kernel
theorem dX1_verdict_76 : decode cX1_verdict 76 = .ok (.aload_n 1, 1) := by decide +kernel
theorem dX1_verdict_77 : decode cX1_verdict 77 = .ok (.getstatic 57, 3) := by decide +kernel
theorem dX1_verdict_80 : decode cX1_verdict 80 = .ok (.if_acmp .ne 9, 3) := by decide +kernel
theorem dX1_verdict_83 : decode cX1_verdict 83 = .ok (.aload_n 0, 1) := by decide +kernel
theorem dX1_verdict_84 : decode cX1_verdict 84 = .ok (.iload_n 2, 1) := by decide +kernel
theorem dX1_verdict_85 : decode cX1_verdict 85 = .ok (.invokevirtual 60, 3) := by decide +kernel
theorem dX1_verdict_88 : decode cX1_verdict 88 = .ok (.ireturn, 1) := by decide +kernel
theorem dX1_verdict_89 : decode cX1_verdict 89 = .ok (.aload_n 1, 1) := by decide +kernel
theorem dX1_verdict_90 : decode cX1_verdict 90 = .ok (.getstatic 63, 3) := by decide +kernel
theorem dX1_verdict_93 : decode cX1_verdict 93 = .ok (.if_acmp .ne 30, 3) := by decide +kernel
theorem dX1_verdict_96 : decode cX1_verdict 96 = .ok (.aload_n 0, 1) := by decide +kernel
theorem dX1_verdict_97 : decode cX1_verdict 97 = .ok (.getfield 18, 3) := by decide +kernel
theorem dX1_verdict_100 : decode cX1_verdict 100 = .ok (.invokevirtual 66, 3) := by decide +kernel
theorem dX1_verdict_103 : decode cX1_verdict 103 = .ok (.ifCond .le 7, 3) := by decide +kernel
theorem dX1_verdict_106 : decode cX1_verdict 106 = .ok (.iconst 0, 1) := by decide +kernel
theorem dX1_verdict_107 : decode cX1_verdict 107 = .ok (.goto 15, 3) := by decide +kernel
theorem dX1_verdict_110 : decode cX1_verdict 110 = .ok (.aload_n 0, 1) := by decide +kernel
theorem dX1_verdict_111 : decode cX1_verdict 111 = .ok (.iconst 5, 1) := by decide +kernel
theorem dX1_verdict_112 : decode cX1_verdict 112 = .ok (.aload_n 0, 1) := by decide +kernel
theorem dX1_verdict_113 : decode cX1_verdict 113 = .ok (.getfield 18, 3) := by decide +kernel
theorem dX1_verdict_116 : decode cX1_verdict 116 = .ok (.invokevirtual 70, 3) := by decide +kernel
theorem dX1_verdict_119 : decode cX1_verdict 119 = .ok (.invokevirtual 73, 3) := by decide +kernel
theorem dX1_verdict_122 : decode cX1_verdict 122 = .ok (.ireturn, 1) := by decide +kernel
theorem dX1_verdict_123 : decode cX1_verdict 123 = .ok (.aload_n 1, 1) := by decide +kernel
theorem dX1_verdict_124 : decode cX1_verdict 124 = .ok (.getstatic 77, 3) := by decide +kernel
theorem dX1_verdict_127 : decode cX1_verdict 127 = .ok (.if_acmp .ne 9, 3) := by decide +kernel
theorem dX1_verdict_130 : decode cX1_verdict 130 = .ok (.aload_n 0, 1) := by decide +kernel
theorem dX1_verdict_131 : decode cX1_verdict 131 = .ok (.iload_n 2, 1) := by decide +kernel
theorem dX1_verdict_132 : decode cX1_verdict 132 = .ok (.invokevirtual 80, 3) := by decide +kernel
theorem dX1_verdict_135 : decode cX1_verdict 135 = .ok (.ireturn, 1) := by decide +kernel
theorem dX1_verdict_136 : decode cX1_verdict 136 = .ok (.aload_n 1, 1) := by decide +kernel
theorem dX1_verdict_137 : decode cX1_verdict 137 = .ok (.getstatic 83, 3) := by decide +kernel
theorem dX1_verdict_140 : decode cX1_verdict 140 = .ok (.if_acmp .ne 10, 3) := by decide +kernel
theorem dX1_verdict_143 : decode cX1_verdict 143 = .ok (.aload_n 0, 1) := by decide +kernel
theorem dX1_verdict_144 : decode cX1_verdict 144 = .ok (.iload_n 2, 1) := by decide +kernel
theorem dX1_verdict_145 : decode cX1_verdict 145 = .ok (.iload_n 3, 1) := by decide +kernel
theorem dX1_verdict_146 : decode cX1_verdict 146 = .ok (.invokevirtual 86, 3) := by decide +kernel
theorem dX1_verdict_149 : decode cX1_verdict 149 = .ok (.ireturn, 1) := by decide +kernel
theorem dX1_verdict_150 : decode cX1_verdict 150 = .ok (.iconst 2, 1) := by decide +kernel
theorem dX1_verdict_151 : decode cX1_verdict 151 = .ok (.ireturn, 1) := by decide +kernel
theorem dX1_verdictOnBar_0 : decode cX1_verdictOnBar 0 = .ok (.iload_n 1, 1) := by decide +kernel
theorem dX1_verdictOnBar_1 : decode cX1_verdictOnBar 1 = .ok (.iconst 2, 1) := by decide +kernel
theorem dX1_verdictOnBar_2 : decode cX1_verdictOnBar 2 = .ok (.bipush 8, 2) := by decide +kernel
theorem dX1_verdictOnBar_4 : decode cX1_verdictOnBar 4 = .ok (.invokestatic 89, 3) := by decide +kernel
theorem dX1_verdictOnBar_7 : decode cX1_verdictOnBar 7 = .ok (.ifCond .ne 5, 3) := by decide +kernel
theorem dX1_verdictOnBar_10 : decode cX1_verdictOnBar 10 = .ok (.iconst 2, 1) := by decide +kernel
theorem dX1_verdictOnBar_11 : decode cX1_verdictOnBar 11 = .ok (.ireturn, 1) := by decide +kernel
theorem dX1_verdictOnBar_12 : decode cX1_verdictOnBar 12 = .ok (.aload_n 0, 1) := by decide +kernel
theorem dX1_verdictOnBar_13 : decode cX1_verdictOnBar 13 = .ok (.getfield 18, 3) := by decide +kernel
theorem dX1_verdictOnBar_16 : decode cX1_verdictOnBar 16 = .ok (.invokevirtual 70, 3) := by decide +kernel
theorem dX1_verdictOnBar_19 : decode cX1_verdictOnBar 19 = .ok (.bipush 6, 2) := by decide +kernel
theorem dX1_verdictOnBar_21 : decode cX1_verdictOnBar 21 = .ok (.if_icmp .ge 7, 3) := by decide +kernel
theorem dX1_verdictOnBar_24 : decode cX1_verdictOnBar 24 = .ok (.iconst 0, 1) := by decide +kernel
theorem dX1_verdictOnBar_25 : decode cX1_verdictOnBar 25 = .ok (.goto 10, 3) := by decide +kernel
theorem dX1_verdictOnBar_28 : decode cX1_verdictOnBar 28 = .ok (.aload_n 0, 1) := by decide +kernel
theorem dX1_verdictOnBar_29 : decode cX1_verdictOnBar 29 = .ok (.iconst 1, 1) := by decide +kernel
theorem dX1_verdictOnBar_30 : decode cX1_verdictOnBar 30 = .ok (.bipush 6, 2) := by decide +kernel
theorem dX1_verdictOnBar_32 : decode cX1_verdictOnBar 32 = .ok (.invokevirtual 73, 3) := by decide +kernel
theorem dX1_verdictOnBar_35 : decode cX1_verdictOnBar 35 = .ok (.ireturn, 1) := by decide +kernel
theorem dX1_verdictOnTin_0 : decode cX1_verdictOnTin 0 = .ok (.iload_n 1, 1) := by decide +kernel
theorem dX1_verdictOnTin_1 : decode cX1_verdictOnTin 1 = .ok (.invokestatic 93, 3) := by decide +kernel
theorem dX1_verdictOnTin_4 : decode cX1_verdictOnTin 4 = .ok (.ifCond .ne 5, 3) := by decide +kernel
theorem dX1_verdictOnTin_7 : decode cX1_verdictOnTin 7 = .ok (.iconst 1, 1) := by decide +kernel
theorem dX1_verdictOnTin_8 : decode cX1_verdictOnTin 8 = .ok (.ireturn, 1) := by decide +kernel
theorem dX1_verdictOnTin_9 : decode cX1_verdictOnTin 9 = .ok (.iload_n 2, 1) := by decide +kernel
theorem dX1_verdictOnTin_10 : decode cX1_verdictOnTin 10 = .ok (.iconst 0, 1) := by decide +kernel
theorem dX1_verdictOnTin_11 : decode cX1_verdictOnTin 11 = .ok (.iload 4, 2) := by decide +kernel
theorem dX1_verdictOnTin_13 : decode cX1_verdictOnTin 13 = .ok (.invokestatic 89, 3) := by decide +kernel
theorem dX1_verdictOnTin_16 : decode cX1_verdictOnTin 16 = .ok (.ifCond .ne 5, 3) := by decide +kernel
theorem dX1_verdictOnTin_19 : decode cX1_verdictOnTin 19 = .ok (.iconst 2, 1) := by decide +kernel
theorem dX1_verdictOnTin_20 : decode cX1_verdictOnTin 20 = .ok (.ireturn, 1) := by decide +kernel
theorem dX1_verdictOnTin_21 : decode cX1_verdictOnTin 21 = .ok (.iload_n 2, 1) := by decide +kernel
theorem dX1_verdictOnTin_22 : decode cX1_verdictOnTin 22 = .ok (.iload_n 3, 1) := by decide +kernel
theorem dX1_verdictOnTin_23 : decode cX1_verdictOnTin 23 = .ok (.if_icmp .eq 7, 3) := by decide +kernel
theorem dX1_verdictOnTin_26 : decode cX1_verdictOnTin 26 = .ok (.iconst 0, 1) := by decide +kernel
theorem dX1_verdictOnTin_27 : decode cX1_verdictOnTin 27 = .ok (.goto 9, 3) := by decide +kernel
theorem dX1_verdictOnTin_30 : decode cX1_verdictOnTin 30 = .ok (.aload_n 0, 1) := by decide +kernel
theorem dX1_verdictOnTin_31 : decode cX1_verdictOnTin 31 = .ok (.iconst 2, 1) := by decide +kernel
theorem dX1_verdictOnTin_32 : decode cX1_verdictOnTin 32 = .ok (.iload_n 2, 1) := by decide +kernel
theorem dX1_verdictOnTin_33 : decode cX1_verdictOnTin 33 = .ok (.invokevirtual 73, 3) := by decide +kernel
theorem dX1_verdictOnTin_36 : decode cX1_verdictOnTin 36 = .ok (.ireturn, 1) := by decide +kernel
theorem dX1_verdictOnDrop_0 : decode cX1_verdictOnDrop 0 = .ok (.iload_n 1, 1) := by decide +kernel
theorem dX1_verdictOnDrop_1 : decode cX1_verdictOnDrop 1 = .ok (.invokestatic 93, 3) := by decide +kernel
theorem dX1_verdictOnDrop_4 : decode cX1_verdictOnDrop 4 = .ok (.ifCond .ne 5, 3) := by decide +kernel
theorem dX1_verdictOnDrop_7 : decode cX1_verdictOnDrop 7 = .ok (.iconst 1, 1) := by decide +kernel
theorem dX1_verdictOnDrop_8 : decode cX1_verdictOnDrop 8 = .ok (.ireturn, 1) := by decide +kernel
theorem dX1_verdictOnDrop_9 : decode cX1_verdictOnDrop 9 = .ok (.iload_n 2, 1) := by decide +kernel
theorem dX1_verdictOnDrop_10 : decode cX1_verdictOnDrop 10 = .ok (.iconst 0, 1) := by decide +kernel
theorem dX1_verdictOnDrop_11 : decode cX1_verdictOnDrop 11 = .ok (.bipush 9, 2) := by decide +kernel
theorem dX1_verdictOnDrop_13 : decode cX1_verdictOnDrop 13 = .ok (.invokestatic 89, 3) := by decide +kernel
theorem dX1_verdictOnDrop_16 : decode cX1_verdictOnDrop 16 = .ok (.ifCond .eq 13, 3) := by decide +kernel
theorem dX1_verdictOnDrop_19 : decode cX1_verdictOnDrop 19 = .ok (.iload_n 3, 1) := by decide +kernel
theorem dX1_verdictOnDrop_20 : decode cX1_verdictOnDrop 20 = .ok (.iconst 1, 1) := by decide +kernel
theorem dX1_verdictOnDrop_21 : decode cX1_verdictOnDrop 21 = .ok (.bipush 8, 2) := by decide +kernel
theorem dX1_verdictOnDrop_23 : decode cX1_verdictOnDrop 23 = .ok (.invokestatic 89, 3) := by decide +kernel
theorem dX1_verdictOnDrop_26 : decode cX1_verdictOnDrop 26 = .ok (.ifCond .ne 5, 3) := by decide +kernel
theorem dX1_verdictOnDrop_29 : decode cX1_verdictOnDrop 29 = .ok (.iconst 2, 1) := by decide +kernel
theorem dX1_verdictOnDrop_30 : decode cX1_verdictOnDrop 30 = .ok (.ireturn, 1) := by decide +kernel
theorem dX1_verdictOnDrop_31 : decode cX1_verdictOnDrop 31 = .ok (.aload_n 0, 1) := by decide +kernel
theorem dX1_verdictOnDrop_32 : decode cX1_verdictOnDrop 32 = .ok (.iload_n 3, 1) := by decide +kernel
theorem dX1_verdictOnDrop_33 : decode cX1_verdictOnDrop 33 = .ok (.invokevirtual 97, 3) := by decide +kernel
theorem dX1_verdictOnDrop_36 : decode cX1_verdictOnDrop 36 = .ok (.ireturn, 1) := by decide +kernel
theorem dX1_verdictOnRest_0 : decode cX1_verdictOnRest 0 = .ok (.iload_n 1, 1) := by decide +kernel
theorem dX1_verdictOnRest_1 : decode cX1_verdictOnRest 1 = .ok (.invokestatic 93, 3) := by decide +kernel
theorem dX1_verdictOnRest_4 : decode cX1_verdictOnRest 4 = .ok (.ifCond .ne 5, 3) := by decide +kernel
theorem dX1_verdictOnRest_7 : decode cX1_verdictOnRest 7 = .ok (.iconst 1, 1) := by decide +kernel
theorem dX1_verdictOnRest_8 : decode cX1_verdictOnRest 8 = .ok (.ireturn, 1) := by decide +kernel
theorem dX1_verdictOnRest_9 : decode cX1_verdictOnRest 9 = .ok (.aload_n 0, 1) := by decide +kernel
theorem dX1_verdictOnRest_10 : decode cX1_verdictOnRest 10 = .ok (.getfield 18, 3) := by decide +kernel
theorem dX1_verdictOnRest_13 : decode cX1_verdictOnRest 13 = .ok (.iload_n 1, 1) := by decide +kernel
theorem dX1_verdictOnRest_14 : decode cX1_verdictOnRest 14 = .ok (.invokevirtual 47, 3) := by decide +kernel
theorem dX1_verdictOnRest_17 : decode cX1_verdictOnRest 17 = .ok (.ifCond .ne 17, 3) := by decide +kernel
theorem dX1_verdictOnRest_20 : decode cX1_verdictOnRest 20 = .ok (.aload_n 0, 1) := by decide +kernel
theorem dX1_verdictOnRest_21 : decode cX1_verdictOnRest 21 = .ok (.iconst 4, 1) := by decide +kernel
theorem dX1_verdictOnRest_22 : decode cX1_verdictOnRest 22 = .ok (.aload_n 0, 1) := by decide +kernel
theorem dX1_verdictOnRest_23 : decode cX1_verdictOnRest 23 = .ok (.getfield 18, 3) := by decide +kernel
theorem dX1_verdictOnRest_26 : decode cX1_verdictOnRest 26 = .ok (.iload_n 1, 1) := by decide +kernel
theorem dX1_verdictOnRest_27 : decode cX1_verdictOnRest 27 = .ok (.invokevirtual 35, 3) := by decide +kernel
theorem dX1_verdictOnRest_30 : decode cX1_verdictOnRest 30 = .ok (.invokevirtual 73, 3) := by decide +kernel
theorem dX1_verdictOnRest_33 : decode cX1_verdictOnRest 33 = .ok (.ireturn, 1) := by decide +kernel
theorem dX1_verdictOnRest_34 : decode cX1_verdictOnRest 34 = .ok (.aload_n 0, 1) := by decide +kernel
theorem dX1_verdictOnRest_35 : decode cX1_verdictOnRest 35 = .ok (.aload_n 0, 1) := by decide +kernel
theorem dX1_verdictOnRest_36 : decode cX1_verdictOnRest 36 = .ok (.getfield 18, 3) := by decide +kernel
theorem dX1_verdictOnRest_39 : decode cX1_verdictOnRest 39 = .ok (.iload_n 1, 1) := by decide +kernel
theorem dX1_verdictOnRest_40 : decode cX1_verdictOnRest 40 = .ok (.invokevirtual 47, 3) := by decide +kernel
theorem dX1_verdictOnRest_43 : decode cX1_verdictOnRest 43 = .ok (.invokevirtual 97, 3) := by decide +kernel
theorem dX1_verdictOnRest_46 : decode cX1_verdictOnRest 46 = .ok (.ireturn, 1) := by decide +kernel
theorem dX1_verdictOnRoom_0 : decode cX1_verdictOnRoom 0 = .ok (.aload_n 0, 1) := by decide +kernel
theorem dX1_verdictOnRoom_1 : decode cX1_verdictOnRoom 1 = .ok (.getfield 18, 3) := by decide +kernel
theorem dX1_verdictOnRoom_4 : decode cX1_verdictOnRoom 4 = .ok (.invokevirtual 66, 3) := by decide +kernel
theorem dX1_verdictOnRoom_7 : decode cX1_verdictOnRoom 7 = .ok (.bipush 16, 2) := by decide +kernel
theorem dX1_verdictOnRoom_9 : decode cX1_verdictOnRoom 9 = .ok (.if_icmp .lt 11, 3) := by decide +kernel
theorem dX1_verdictOnRoom_12 : decode cX1_verdictOnRoom 12 = .ok (.aload_n 0, 1) := by decide +kernel
theorem dX1_verdictOnRoom_13 : decode cX1_verdictOnRoom 13 = .ok (.iconst 1, 1) := by decide +kernel
theorem dX1_verdictOnRoom_14 : decode cX1_verdictOnRoom 14 = .ok (.bipush 16, 2) := by decide +kernel
theorem dX1_verdictOnRoom_16 : decode cX1_verdictOnRoom 16 = .ok (.invokevirtual 73, 3) := by decide +kernel
theorem dX1_verdictOnRoom_19 : decode cX1_verdictOnRoom 19 = .ok (.ireturn, 1) := by decide +kernel
theorem dX1_verdictOnRoom_20 : decode cX1_verdictOnRoom 20 = .ok (.aload_n 0, 1) := by decide +kernel
theorem dX1_verdictOnRoom_21 : decode cX1_verdictOnRoom 21 = .ok (.getfield 18, 3) := by decide +kernel
theorem dX1_verdictOnRoom_24 : decode cX1_verdictOnRoom 24 = .ok (.invokevirtual 100, 3) := by decide +kernel
theorem dX1_verdictOnRoom_27 : decode cX1_verdictOnRoom 27 = .ok (.istore_n 2, 1) := by decide +kernel
theorem dX1_verdictOnRoom_28 : decode cX1_verdictOnRoom 28 = .ok (.iload_n 1, 1) := by decide +kernel
theorem dX1_verdictOnRoom_29 : decode cX1_verdictOnRoom 29 = .ok (.iload_n 2, 1) := by decide +kernel
theorem dX1_verdictOnRoom_30 : decode cX1_verdictOnRoom 30 = .ok (.if_icmp .gt 7, 3) := by decide +kernel
theorem dX1_verdictOnRoom_33 : decode cX1_verdictOnRoom 33 = .ok (.iconst 0, 1) := by decide +kernel
theorem dX1_verdictOnRoom_34 : decode cX1_verdictOnRoom 34 = .ok (.goto 9, 3) := by decide +kernel
theorem dX1_verdictOnRoom_37 : decode cX1_verdictOnRoom 37 = .ok (.aload_n 0, 1) := by decide +kernel
theorem dX1_verdictOnRoom_38 : decode cX1_verdictOnRoom 38 = .ok (.iconst 3, 1) := by decide +kernel
theorem dX1_verdictOnRoom_39 : decode cX1_verdictOnRoom 39 = .ok (.iload_n 2, 1) := by decide +kernel
theorem dX1_verdictOnRoom_40 : decode cX1_verdictOnRoom 40 = .ok (.invokevirtual 73, 3) := by decide +kernel
theorem dX1_verdictOnRoom_43 : decode cX1_verdictOnRoom 43 = .ok (.ireturn, 1) := by decide +kernel
theorem dX1_verdictOnLimit_0 : decode cX1_verdictOnLimit 0 = .ok (.iload_n 1, 1) := by decide +kernel
theorem dX1_verdictOnLimit_1 : decode cX1_verdictOnLimit 1 = .ok (.iconst 1, 1) := by decide +kernel
theorem dX1_verdictOnLimit_2 : decode cX1_verdictOnLimit 2 = .ok (.bipush 11, 2) := by decide +kernel
theorem dX1_verdictOnLimit_4 : decode cX1_verdictOnLimit 4 = .ok (.invokestatic 89, 3) := by decide +kernel
theorem dX1_verdictOnLimit_7 : decode cX1_verdictOnLimit 7 = .ok (.ifCond .ne 5, 3) := by decide +kernel
theorem dX1_verdictOnLimit_10 : decode cX1_verdictOnLimit 10 = .ok (.iconst 2, 1) := by decide +kernel
theorem dX1_verdictOnLimit_11 : decode cX1_verdictOnLimit 11 = .ok (.ireturn, 1) := by decide +kernel
theorem dX1_verdictOnLimit_12 : decode cX1_verdictOnLimit 12 = .ok (.iload_n 1, 1) := by decide +kernel
theorem dX1_verdictOnLimit_13 : decode cX1_verdictOnLimit 13 = .ok (.aload_n 0, 1) := by decide +kernel
theorem dX1_verdictOnLimit_14 : decode cX1_verdictOnLimit 14 = .ok (.getfield 18, 3) := by decide +kernel
theorem dX1_verdictOnLimit_17 : decode cX1_verdictOnLimit 17 = .ok (.invokevirtual 103, 3) := by decide +kernel
theorem dX1_verdictOnLimit_20 : decode cX1_verdictOnLimit 20 = .ok (.if_icmp .eq 7, 3) := by decide +kernel
theorem dX1_verdictOnLimit_23 : decode cX1_verdictOnLimit 23 = .ok (.iconst 0, 1) := by decide +kernel
theorem dX1_verdictOnLimit_24 : decode cX1_verdictOnLimit 24 = .ok (.goto 9, 3) := by decide +kernel
theorem dX1_verdictOnLimit_27 : decode cX1_verdictOnLimit 27 = .ok (.aload_n 0, 1) := by decide +kernel
theorem dX1_verdictOnLimit_28 : decode cX1_verdictOnLimit 28 = .ok (.iconst 2, 1) := by decide +kernel
theorem dX1_verdictOnLimit_29 : decode cX1_verdictOnLimit 29 = .ok (.iload_n 1, 1) := by decide +kernel
theorem dX1_verdictOnLimit_30 : decode cX1_verdictOnLimit 30 = .ok (.invokevirtual 73, 3) := by decide +kernel
theorem dX1_verdictOnLimit_33 : decode cX1_verdictOnLimit 33 = .ok (.ireturn, 1) := by decide +kernel
theorem dX1_verdictOnTune_0 : decode cX1_verdictOnTune 0 = .ok (.aload_n 0, 1) := by decide +kernel
theorem dX1_verdictOnTune_1 : decode cX1_verdictOnTune 1 = .ok (.getfield 18, 3) := by decide +kernel
theorem dX1_verdictOnTune_4 : decode cX1_verdictOnTune 4 = .ok (.iload_n 1, 1) := by decide +kernel
theorem dX1_verdictOnTune_5 : decode cX1_verdictOnTune 5 = .ok (.invokevirtual 106, 3) := by decide +kernel
theorem dX1_verdictOnTune_8 : decode cX1_verdictOnTune 8 = .ok (.ifCond .ne 5, 3) := by decide +kernel
theorem dX1_verdictOnTune_11 : decode cX1_verdictOnTune 11 = .ok (.iconst 1, 1) := by decide +kernel
theorem dX1_verdictOnTune_12 : decode cX1_verdictOnTune 12 = .ok (.ireturn, 1) := by decide +kernel
theorem dX1_verdictOnTune_13 : decode cX1_verdictOnTune 13 = .ok (.iload_n 2, 1) := by decide +kernel
theorem dX1_verdictOnTune_14 : decode cX1_verdictOnTune 14 = .ok (.iconst 0, 1) := by decide +kernel
theorem dX1_verdictOnTune_15 : decode cX1_verdictOnTune 15 = .ok (.bipush 9, 2) := by decide +kernel
theorem dX1_verdictOnTune_17 : decode cX1_verdictOnTune 17 = .ok (.invokestatic 89, 3) := by decide +kernel
theorem dX1_verdictOnTune_20 : decode cX1_verdictOnTune 20 = .ok (.ifCond .ne 5, 3) := by decide +kernel
theorem dX1_verdictOnTune_23 : decode cX1_verdictOnTune 23 = .ok (.iconst 2, 1) := by decide +kernel
theorem dX1_verdictOnTune_24 : decode cX1_verdictOnTune 24 = .ok (.ireturn, 1) := by decide +kernel
theorem dX1_verdictOnTune_25 : decode cX1_verdictOnTune 25 = .ok (.aload_n 0, 1) := by decide +kernel
theorem dX1_verdictOnTune_26 : decode cX1_verdictOnTune 26 = .ok (.getfield 18, 3) := by decide +kernel
theorem dX1_verdictOnTune_29 : decode cX1_verdictOnTune 29 = .ok (.iload_n 1, 1) := by decide +kernel
theorem dX1_verdictOnTune_30 : decode cX1_verdictOnTune 30 = .ok (.invokevirtual 109, 3) := by decide +kernel
theorem dX1_verdictOnTune_33 : decode cX1_verdictOnTune 33 = .ok (.ifCond .eq 18, 3) := by decide +kernel
theorem dX1_verdictOnTune_36 : decode cX1_verdictOnTune 36 = .ok (.aload_n 0, 1) := by decide +kernel
theorem dX1_verdictOnTune_37 : decode cX1_verdictOnTune 37 = .ok (.bipush 6, 2) := by decide +kernel
theorem dX1_verdictOnTune_39 : decode cX1_verdictOnTune 39 = .ok (.aload_n 0, 1) := by decide +kernel
theorem dX1_verdictOnTune_40 : decode cX1_verdictOnTune 40 = .ok (.getfield 18, 3) := by decide +kernel
theorem dX1_verdictOnTune_43 : decode cX1_verdictOnTune 43 = .ok (.iload_n 1, 1) := by decide +kernel
theorem dX1_verdictOnTune_44 : decode cX1_verdictOnTune 44 = .ok (.invokevirtual 112, 3) := by decide +kernel
theorem dX1_verdictOnTune_47 : decode cX1_verdictOnTune 47 = .ok (.invokevirtual 73, 3) := by decide +kernel
theorem dX1_verdictOnTune_50 : decode cX1_verdictOnTune 50 = .ok (.ireturn, 1) := by decide +kernel
theorem dX1_verdictOnTune_51 : decode cX1_verdictOnTune 51 = .ok (.iload_n 2, 1) := by decide +kernel
theorem dX1_verdictOnTune_52 : decode cX1_verdictOnTune 52 = .ok (.aload_n 0, 1) := by decide +kernel
theorem dX1_verdictOnTune_53 : decode cX1_verdictOnTune 53 = .ok (.getfield 18, 3) := by decide +kernel
theorem dX1_verdictOnTune_56 : decode cX1_verdictOnTune 56 = .ok (.iload_n 1, 1) := by decide +kernel
theorem dX1_verdictOnTune_57 : decode cX1_verdictOnTune 57 = .ok (.invokevirtual 115, 3) := by decide +kernel
theorem dX1_verdictOnTune_60 : decode cX1_verdictOnTune 60 = .ok (.if_icmp .eq 7, 3) := by decide +kernel
theorem dX1_verdictOnTune_63 : decode cX1_verdictOnTune 63 = .ok (.iconst 0, 1) := by decide +kernel
theorem dX1_verdictOnTune_64 : decode cX1_verdictOnTune 64 = .ok (.goto 9, 3) := by decide +kernel
theorem dX1_verdictOnTune_67 : decode cX1_verdictOnTune 67 = .ok (.aload_n 0, 1) := by decide +kernel
theorem dX1_verdictOnTune_68 : decode cX1_verdictOnTune 68 = .ok (.iconst 2, 1) := by decide +kernel
theorem dX1_verdictOnTune_69 : decode cX1_verdictOnTune 69 = .ok (.iload_n 2, 1) := by decide +kernel
theorem dX1_verdictOnTune_70 : decode cX1_verdictOnTune 70 = .ok (.invokevirtual 73, 3) := by decide +kernel
theorem dX1_verdictOnTune_73 : decode cX1_verdictOnTune 73 = .ok (.ireturn, 1) := by decide +kernel
theorem dX1_carryOut_0 : decode cX1_carryOut 0 = .ok (.aload_n 1, 1) := by decide +kernel
theorem dX1_carryOut_1 : decode cX1_carryOut 1 = .ok (.getstatic 22, 3) := by decide +kernel
theorem dX1_carryOut_4 : decode cX1_carryOut 4 = .ok (.if_acmp .ne 12, 3) := by decide +kernel
theorem dX1_carryOut_7 : decode cX1_carryOut 7 = .ok (.aload_n 0, 1) := by decide +kernel
theorem dX1_carryOut_8 : decode cX1_carryOut 8 = .ok (.getfield 18, 3) := by decide +kernel
theorem dX1_carryOut_11 : decode cX1_carryOut 11 = .ok (.iload_n 2, 1) := by decide +kernel
theorem dX1_carryOut_12 : decode cX1_carryOut 12 = .ok (.invokevirtual 118, 3) := by decide +kernel
theorem dX1_carryOut_15 : decode cX1_carryOut 15 = .ok (.ireturn, 1) := by decide +kernel
theorem dX1_carryOut_16 : decode cX1_carryOut 16 = .ok (.aload_n 1, 1) := by decide +kernel
theorem dX1_carryOut_17 : decode cX1_carryOut 17 = .ok (.getstatic 32, 3) := by decide +kernel
theorem dX1_carryOut_20 : decode cX1_carryOut 20 = .ok (.if_acmp .ne 13, 3) := by decide +kernel
theorem dX1_carryOut_23 : decode cX1_carryOut 23 = .ok (.aload_n 0, 1) := by decide +kernel
theorem dX1_carryOut_24 : decode cX1_carryOut 24 = .ok (.getfield 18, 3) := by decide +kernel
theorem dX1_carryOut_27 : decode cX1_carryOut 27 = .ok (.iload_n 2, 1) := by decide +kernel
theorem dX1_carryOut_28 : decode cX1_carryOut 28 = .ok (.iload_n 3, 1) := by decide +kernel
theorem dX1_carryOut_29 : decode cX1_carryOut 29 = .ok (.invokevirtual 121, 3) := by decide +kernel
theorem dX1_carryOut_32 : decode cX1_carryOut 32 = .ok (.ireturn, 1) := by decide +kernel
theorem dX1_carryOut_33 : decode cX1_carryOut 33 = .ok (.aload_n 1, 1) := by decide +kernel
theorem dX1_carryOut_34 : decode cX1_carryOut 34 = .ok (.getstatic 44, 3) := by decide +kernel
theorem dX1_carryOut_37 : decode cX1_carryOut 37 = .ok (.if_acmp .ne 13, 3) := by decide +kernel
theorem dX1_carryOut_40 : decode cX1_carryOut 40 = .ok (.aload_n 0, 1) := by decide +kernel
theorem dX1_carryOut_41 : decode cX1_carryOut 41 = .ok (.getfield 18, 3) := by decide +kernel
theorem dX1_carryOut_44 : decode cX1_carryOut 44 = .ok (.iload_n 2, 1) := by decide +kernel
theorem dX1_carryOut_45 : decode cX1_carryOut 45 = .ok (.iload_n 3, 1) := by decide +kernel
theorem dX1_carryOut_46 : decode cX1_carryOut 46 = .ok (.invokevirtual 124, 3) := by decide +kernel
theorem dX1_carryOut_49 : decode cX1_carryOut 49 = .ok (.ireturn, 1) := by decide +kernel
theorem dX1_carryOut_50 : decode cX1_carryOut 50 = .ok (.aload_n 1, 1) := by decide +kernel
theorem dX1_carryOut_51 : decode cX1_carryOut 51 = .ok (.getstatic 50, 3) := by decide +kernel
theorem dX1_carryOut_54 : decode cX1_carryOut 54 = .ok (.if_acmp .ne 15, 3) := by decide +kernel
theorem dX1_carryOut_57 : decode cX1_carryOut 57 = .ok (.aload_n 0, 1) := by decide +kernel
theorem dX1_carryOut_58 : decode cX1_carryOut 58 = .ok (.getfield 18, 3) := by decide +kernel
theorem dX1_carryOut_61 : decode cX1_carryOut 61 = .ok (.iload_n 2, 1) := by decide +kernel
theorem dX1_carryOut_62 : decode cX1_carryOut 62 = .ok (.iload_n 3, 1) := by decide +kernel
theorem dX1_carryOut_63 : decode cX1_carryOut 63 = .ok (.iload 4, 2) := by decide +kernel
theorem dX1_carryOut_65 : decode cX1_carryOut 65 = .ok (.invokevirtual 127, 3) := by decide +kernel
theorem dX1_carryOut_68 : decode cX1_carryOut 68 = .ok (.ireturn, 1) := by decide +kernel
theorem dX1_carryOut_69 : decode cX1_carryOut 69 = .ok (.aload_n 1, 1) := by decide +kernel
theorem dX1_carryOut_70 : decode cX1_carryOut 70 = .ok (.getstatic 57, 3) := by decide +kernel
theorem dX1_carryOut_73 : decode cX1_carryOut 73 = .ok (.if_acmp .ne 21, 3) := by decide +kernel
theorem dX1_carryOut_76 : decode cX1_carryOut 76 = .ok (.aload_n 0, 1) := by decide +kernel
theorem dX1_carryOut_77 : decode cX1_carryOut 77 = .ok (.getfield 18, 3) := by decide +kernel
theorem dX1_carryOut_80 : decode cX1_carryOut 80 = .ok (.iload_n 2, 1) := by decide +kernel
theorem dX1_carryOut_81 : decode cX1_carryOut 81 = .ok (.iconst (-1), 1) := by decide +kernel
theorem dX1_carryOut_82 : decode cX1_carryOut 82 = .ok (.aload_n 0, 1) := by decide +kernel
theorem dX1_carryOut_83 : decode cX1_carryOut 83 = .ok (.getfield 18, 3) := by decide +kernel
theorem dX1_carryOut_86 : decode cX1_carryOut 86 = .ok (.iload_n 2, 1) := by decide +kernel
theorem dX1_carryOut_87 : decode cX1_carryOut 87 = .ok (.invokevirtual 47, 3) := by decide +kernel
theorem dX1_carryOut_90 : decode cX1_carryOut 90 = .ok (.invokevirtual 127, 3) := by decide +kernel
theorem dX1_carryOut_93 : decode cX1_carryOut 93 = .ok (.ireturn, 1) := by decide +kernel
theorem dX1_carryOut_94 : decode cX1_carryOut 94 = .ok (.aload_n 1, 1) := by decide +kernel
theorem dX1_carryOut_95 : decode cX1_carryOut 95 = .ok (.getstatic 63, 3) := by decide +kernel
theorem dX1_carryOut_98 : decode cX1_carryOut 98 = .ok (.if_acmp .ne 11, 3) := by decide +kernel
theorem dX1_carryOut_101 : decode cX1_carryOut 101 = .ok (.aload_n 0, 1) := by decide +kernel
theorem dX1_carryOut_102 : decode cX1_carryOut 102 = .ok (.getfield 18, 3) := by decide +kernel
theorem dX1_carryOut_105 : decode cX1_carryOut 105 = .ok (.invokevirtual 130, 3) := by decide +kernel
theorem dX1_carryOut_108 : decode cX1_carryOut 108 = .ok (.ireturn, 1) := by decide +kernel
theorem dX1_carryOut_109 : decode cX1_carryOut 109 = .ok (.aload_n 1, 1) := by decide +kernel
theorem dX1_carryOut_110 : decode cX1_carryOut 110 = .ok (.getstatic 77, 3) := by decide +kernel
theorem dX1_carryOut_113 : decode cX1_carryOut 113 = .ok (.if_acmp .ne 12, 3) := by decide +kernel
theorem dX1_carryOut_116 : decode cX1_carryOut 116 = .ok (.aload_n 0, 1) := by decide +kernel
theorem dX1_carryOut_117 : decode cX1_carryOut 117 = .ok (.getfield 18, 3) := by decide +kernel
theorem dX1_carryOut_120 : decode cX1_carryOut 120 = .ok (.iload_n 2, 1) := by decide +kernel
theorem dX1_carryOut_121 : decode cX1_carryOut 121 = .ok (.invokevirtual 133, 3) := by decide +kernel
theorem dX1_carryOut_124 : decode cX1_carryOut 124 = .ok (.ireturn, 1) := by decide +kernel
theorem dX1_carryOut_125 : decode cX1_carryOut 125 = .ok (.aload_n 0, 1) := by decide +kernel
theorem dX1_carryOut_126 : decode cX1_carryOut 126 = .ok (.getfield 18, 3) := by decide +kernel
theorem dX1_carryOut_129 : decode cX1_carryOut 129 = .ok (.iload_n 2, 1) := by decide +kernel
theorem dX1_carryOut_130 : decode cX1_carryOut 130 = .ok (.iload_n 3, 1) := by decide +kernel
theorem dX1_carryOut_131 : decode cX1_carryOut 131 = .ok (.invokevirtual 136, 3) := by decide +kernel
theorem dX1_carryOut_134 : decode cX1_carryOut 134 = .ok (.ireturn, 1) := by decide +kernel
theorem dX2_init_0 : decode cX2_init 0 = .ok (.aload_n 0, 1) := by decide +kernel
theorem dX2_init_1 : decode cX2_init 1 = .ok (.invokespecial 3, 3) := by decide +kernel
theorem dX2_init_4 : decode cX2_init 4 = .ok (.aload_n 0, 1) := by decide +kernel
theorem dX2_init_5 : decode cX2_init 5 = .ok (.bipush 32, 2) := by decide +kernel
theorem dX2_init_7 : decode cX2_init 7 = .ok (.newarray .char, 2) := by decide +kernel
theorem dX2_init_9 : decode cX2_init 9 = .ok (.putfield 9, 3) := by decide +kernel
theorem dX2_init_12 : decode cX2_init 12 = .ok (.aload_n 0, 1) := by decide +kernel
theorem dX2_init_13 : decode cX2_init 13 = .ok (.iconst 0, 1) := by decide +kernel
theorem dX2_init_14 : decode cX2_init 14 = .ok (.putfield 15, 3) := by decide +kernel
theorem dX2_init_17 : decode cX2_init 17 = .ok (.aload_n 0, 1) := by decide +kernel
theorem dX2_init_18 : decode cX2_init 18 = .ok (.aload_n 1, 1) := by decide +kernel
theorem dX2_init_19 : decode cX2_init 19 = .ok (.putfield 19, 3) := by decide +kernel
theorem dX2_init_22 : decode cX2_init 22 = .ok (.return_, 1) := by decide +kernel
theorem dX2_hasSign_0 : decode cX2_hasSign 0 = .ok (.iload_n 1, 1) := by decide +kernel
theorem dX2_hasSign_1 : decode cX2_hasSign 1 = .ok (.iconst 0, 1) := by decide +kernel
theorem dX2_hasSign_2 : decode cX2_hasSign 2 = .ok (.aload_n 0, 1) := by decide +kernel
theorem dX2_hasSign_3 : decode cX2_hasSign 3 = .ok (.getfield 15, 3) := by decide +kernel
theorem dX2_hasSign_6 : decode cX2_hasSign 6 = .ok (.iconst 1, 1) := by decide +kernel
theorem dX2_hasSign_7 : decode cX2_hasSign 7 = .ok (.isub, 1) := by decide +kernel
theorem dX2_hasSign_8 : decode cX2_hasSign 8 = .ok (.invokestatic 23, 3) := by decide +kernel
theorem dX2_hasSign_11 : decode cX2_hasSign 11 = .ok (.ireturn, 1) := by decide +kernel
theorem dX2_signAt_0 : decode cX2_signAt 0 = .ok (.iload_n 1, 1) := by decide +kernel
theorem dX2_signAt_1 : decode cX2_signAt 1 = .ok (.ifCond .lt 21, 3) := by decide +kernel
theorem dX2_signAt_4 : decode cX2_signAt 4 = .ok (.iload_n 1, 1) := by decide +kernel
theorem dX2_signAt_5 : decode cX2_signAt 5 = .ok (.aload_n 0, 1) := by decide +kernel
theorem dX2_signAt_6 : decode cX2_signAt 6 = .ok (.getfield 9, 3) := by decide +kernel
theorem dX2_signAt_9 : decode cX2_signAt 9 = .ok (.arraylength, 1) := by decide +kernel
theorem dX2_signAt_10 : decode cX2_signAt 10 = .ok (.if_icmp .ge 12, 3) := by decide +kernel
theorem dX2_signAt_13 : decode cX2_signAt 13 = .ok (.aload_n 0, 1) := by decide +kernel
theorem dX2_signAt_14 : decode cX2_signAt 14 = .ok (.getfield 9, 3) := by decide +kernel
theorem dX2_signAt_17 : decode cX2_signAt 17 = .ok (.iload_n 1, 1) := by decide +kernel
theorem dX2_signAt_18 : decode cX2_signAt 18 = .ok (.caload, 1) := by decide +kernel
theorem dX2_signAt_19 : decode cX2_signAt 19 = .ok (.goto 5, 3) := by decide +kernel
theorem dX2_signAt_22 : decode cX2_signAt 22 = .ok (.bipush 32, 2) := by decide +kernel
theorem dX2_signAt_24 : decode cX2_signAt 24 = .ok (.ireturn, 1) := by decide +kernel
theorem dX2_writeBar_0 : decode cX2_writeBar 0 = .ok (.aload_n 0, 1) := by decide +kernel
theorem dX2_writeBar_1 : decode cX2_writeBar 1 = .ok (.iconst 0, 1) := by decide +kernel
theorem dX2_writeBar_2 : decode cX2_writeBar 2 = .ok (.putfield 15, 3) := by decide +kernel
theorem dX2_writeBar_5 : decode cX2_writeBar 5 = .ok (.iconst 0, 1) := by decide +kernel
theorem dX2_writeBar_6 : decode cX2_writeBar 6 = .ok (.istore_n 2, 1) := by decide +kernel
theorem dX2_writeBar_7 : decode cX2_writeBar 7 = .ok (.iload_n 2, 1) := by decide +kernel
theorem dX2_writeBar_8 : decode cX2_writeBar 8 = .ok (.aload_n 0, 1) := by decide +kernel
theorem dX2_writeBar_9 : decode cX2_writeBar 9 = .ok (.getfield 19, 3) := by decide +kernel
theorem dX2_writeBar_12 : decode cX2_writeBar 12 = .ok (.invokevirtual 27, 3) := by decide +kernel
theorem dX2_writeBar_15 : decode cX2_writeBar 15 = .ok (.if_icmp .ge 33, 3) := by decide +kernel
theorem dX2_writeBar_18 : decode cX2_writeBar 18 = .ok (.aload_n 0, 1) := by decide +kernel
theorem dX2_writeBar_19 : decode cX2_writeBar 19 = .ok (.getfield 19, 3) := by decide +kernel
theorem dX2_writeBar_22 : decode cX2_writeBar 22 = .ok (.iload_n 2, 1) := by decide +kernel
theorem dX2_writeBar_23 : decode cX2_writeBar 23 = .ok (.iload_n 1, 1) := by decide +kernel
theorem dX2_writeBar_24 : decode cX2_writeBar 24 = .ok (.invokevirtual 33, 3) := by decide +kernel
theorem dX2_writeBar_27 : decode cX2_writeBar 27 = .ok (.ifCond .le 15, 3) := by decide +kernel
theorem dX2_writeBar_30 : decode cX2_writeBar 30 = .ok (.aload_n 0, 1) := by decide +kernel
theorem dX2_writeBar_31 : decode cX2_writeBar 31 = .ok (.iload_n 2, 1) := by decide +kernel
theorem dX2_writeBar_32 : decode cX2_writeBar 32 = .ok (.iload_n 1, 1) := by decide +kernel
theorem dX2_writeBar_33 : decode cX2_writeBar 33 = .ok (.invokevirtual 37, 3) := by decide +kernel
theorem dX2_writeBar_36 : decode cX2_writeBar 36 = .ok (.aload_n 0, 1) := by decide +kernel
theorem dX2_writeBar_37 : decode cX2_writeBar 37 = .ok (.bipush 32, 2) := by decide +kernel
theorem dX2_writeBar_39 : decode cX2_writeBar 39 = .ok (.invokevirtual 41, 3) := by decide +kernel
theorem dX2_writeBar_42 : decode cX2_writeBar 42 = .ok (.iinc 2 1, 3) := by decide +kernel
theorem dX2_writeBar_45 : decode cX2_writeBar 45 = .ok (.goto (-38), 3) := by decide +kernel
theorem dX2_writeBar_48 : decode cX2_writeBar 48 = .ok (.aload_n 0, 1) := by decide +kernel
theorem dX2_writeBar_49 : decode cX2_writeBar 49 = .ok (.bipush 95, 2) := by decide +kernel
theorem dX2_writeBar_51 : decode cX2_writeBar 51 = .ok (.invokevirtual 41, 3) := by decide +kernel
theorem dX2_writeBar_54 : decode cX2_writeBar 54 = .ok (.aload_n 0, 1) := by decide +kernel
theorem dX2_writeBar_55 : decode cX2_writeBar 55 = .ok (.aload_n 0, 1) := by decide +kernel
theorem dX2_writeBar_56 : decode cX2_writeBar 56 = .ok (.getfield 19, 3) := by decide +kernel
theorem dX2_writeBar_59 : decode cX2_writeBar 59 = .ok (.iload_n 1, 1) := by decide +kernel
theorem dX2_writeBar_60 : decode cX2_writeBar 60 = .ok (.invokevirtual 45, 3) := by decide +kernel
theorem dX2_writeBar_63 : decode cX2_writeBar 63 = .ok (.aload_n 0, 1) := by decide +kernel
theorem dX2_writeBar_64 : decode cX2_writeBar 64 = .ok (.getfield 19, 3) := by decide +kernel
theorem dX2_writeBar_67 : decode cX2_writeBar 67 = .ok (.iload_n 1, 1) := by decide +kernel
theorem dX2_writeBar_68 : decode cX2_writeBar 68 = .ok (.invokevirtual 49, 3) := by decide +kernel
theorem dX2_writeBar_71 : decode cX2_writeBar 71 = .ok (.isub, 1) := by decide +kernel
theorem dX2_writeBar_72 : decode cX2_writeBar 72 = .ok (.invokevirtual 52, 3) := by decide +kernel
theorem dX2_writeBar_75 : decode cX2_writeBar 75 = .ok (.aload_n 0, 1) := by decide +kernel
theorem dX2_writeBar_76 : decode cX2_writeBar 76 = .ok (.getfield 15, 3) := by decide +kernel
theorem dX2_writeBar_79 : decode cX2_writeBar 79 = .ok (.ireturn, 1) := by decide +kernel
theorem dX2_addPart_0 : decode cX2_addPart 0 = .ok (.aload_n 0, 1) := by decide +kernel
theorem dX2_addPart_1 : decode cX2_addPart 1 = .ok (.getfield 19, 3) := by decide +kernel
theorem dX2_addPart_4 : decode cX2_addPart 4 = .ok (.iload_n 1, 1) := by decide +kernel
theorem dX2_addPart_5 : decode cX2_addPart 5 = .ok (.iload_n 2, 1) := by decide +kernel
theorem dX2_addPart_6 : decode cX2_addPart 6 = .ok (.invokevirtual 56, 3) := by decide +kernel
theorem dX2_addPart_9 : decode cX2_addPart 9 = .ok (.ifCond .eq 9, 3) := by decide +kernel
theorem dX2_addPart_12 : decode cX2_addPart 12 = .ok (.aload_n 0, 1) := by decide +kernel
theorem dX2_addPart_13 : decode cX2_addPart 13 = .ok (.bipush 126, 2) := by decide +kernel
theorem dX2_addPart_15 : decode cX2_addPart 15 = .ok (.invokevirtual 41, 3) := by decide +kernel
theorem dX2_addPart_18 : decode cX2_addPart 18 = .ok (.aload_n 0, 1) := by decide +kernel
theorem dX2_addPart_19 : decode cX2_addPart 19 = .ok (.aload_n 0, 1) := by decide +kernel
theorem dX2_addPart_20 : decode cX2_addPart 20 = .ok (.getfield 19, 3) := by decide +kernel
theorem dX2_addPart_23 : decode cX2_addPart 23 = .ok (.iload_n 1, 1) := by decide +kernel
theorem dX2_addPart_24 : decode cX2_addPart 24 = .ok (.invokevirtual 60, 3) := by decide +kernel
theorem dX2_addPart_27 : decode cX2_addPart 27 = .ok (.ifCond .eq 8, 3) := by decide +kernel
theorem dX2_addPart_30 : decode cX2_addPart 30 = .ok (.bipush 46, 2) := by decide +kernel
theorem dX2_addPart_32 : decode cX2_addPart 32 = .ok (.goto 15, 3) := by decide +kernel
theorem dX2_addPart_35 : decode cX2_addPart 35 = .ok (.bipush 97, 2) := by decide +kernel
theorem dX2_addPart_37 : decode cX2_addPart 37 = .ok (.aload_n 0, 1) := by decide +kernel
theorem dX2_addPart_38 : decode cX2_addPart 38 = .ok (.getfield 19, 3) := by decide +kernel
theorem dX2_addPart_41 : decode cX2_addPart 41 = .ok (.iload_n 1, 1) := by decide +kernel
theorem dX2_addPart_42 : decode cX2_addPart 42 = .ok (.invokevirtual 64, 3) := by decide +kernel
theorem dX2_addPart_45 : decode cX2_addPart 45 = .ok (.iadd, 1) := by decide +kernel
theorem dX2_addPart_46 : decode cX2_addPart 46 = .ok (.i2c, 1) := by decide +kernel
theorem dX2_addPart_47 : decode cX2_addPart 47 = .ok (.invokevirtual 41, 3) := by decide +kernel
theorem dX2_addPart_50 : decode cX2_addPart 50 = .ok (.aload_n 0, 1) := by decide +kernel
theorem dX2_addPart_51 : decode cX2_addPart 51 = .ok (.aload_n 0, 1) := by decide +kernel
theorem dX2_addPart_52 : decode cX2_addPart 52 = .ok (.getfield 19, 3) := by decide +kernel
theorem dX2_addPart_55 : decode cX2_addPart 55 = .ok (.iload_n 1, 1) := by decide +kernel
theorem dX2_addPart_56 : decode cX2_addPart 56 = .ok (.iload_n 2, 1) := by decide +kernel
theorem dX2_addPart_57 : decode cX2_addPart 57 = .ok (.invokevirtual 33, 3) := by decide +kernel
theorem dX2_addPart_60 : decode cX2_addPart 60 = .ok (.invokevirtual 52, 3) := by decide +kernel
theorem dX2_addPart_63 : decode cX2_addPart 63 = .ok (.return_, 1) := by decide +kernel
theorem dX2_writeTin_0 : decode cX2_writeTin 0 = .ok (.aload_n 0, 1) := by decide +kernel
theorem dX2_writeTin_1 : decode cX2_writeTin 1 = .ok (.iconst 0, 1) := by decide +kernel
theorem dX2_writeTin_2 : decode cX2_writeTin 2 = .ok (.putfield 15, 3) := by decide +kernel
theorem dX2_writeTin_5 : decode cX2_writeTin 5 = .ok (.aload_n 0, 1) := by decide +kernel
theorem dX2_writeTin_6 : decode cX2_writeTin 6 = .ok (.aload_n 0, 1) := by decide +kernel
theorem dX2_writeTin_7 : decode cX2_writeTin 7 = .ok (.getfield 19, 3) := by decide +kernel
theorem dX2_writeTin_10 : decode cX2_writeTin 10 = .ok (.iload_n 1, 1) := by decide +kernel
theorem dX2_writeTin_11 : decode cX2_writeTin 11 = .ok (.invokevirtual 67, 3) := by decide +kernel
theorem dX2_writeTin_14 : decode cX2_writeTin 14 = .ok (.invokevirtual 52, 3) := by decide +kernel
theorem dX2_writeTin_17 : decode cX2_writeTin 17 = .ok (.aload_n 0, 1) := by decide +kernel
theorem dX2_writeTin_18 : decode cX2_writeTin 18 = .ok (.bipush 47, 2) := by decide +kernel
theorem dX2_writeTin_20 : decode cX2_writeTin 20 = .ok (.invokevirtual 41, 3) := by decide +kernel
theorem dX2_writeTin_23 : decode cX2_writeTin 23 = .ok (.aload_n 0, 1) := by decide +kernel
theorem dX2_writeTin_24 : decode cX2_writeTin 24 = .ok (.aload_n 0, 1) := by decide +kernel
theorem dX2_writeTin_25 : decode cX2_writeTin 25 = .ok (.getfield 19, 3) := by decide +kernel
theorem dX2_writeTin_28 : decode cX2_writeTin 28 = .ok (.iload_n 1, 1) := by decide +kernel
theorem dX2_writeTin_29 : decode cX2_writeTin 29 = .ok (.invokevirtual 70, 3) := by decide +kernel
theorem dX2_writeTin_32 : decode cX2_writeTin 32 = .ok (.invokevirtual 52, 3) := by decide +kernel
theorem dX2_writeTin_35 : decode cX2_writeTin 35 = .ok (.aload_n 0, 1) := by decide +kernel
theorem dX2_writeTin_36 : decode cX2_writeTin 36 = .ok (.getfield 15, 3) := by decide +kernel
theorem dX2_writeTin_39 : decode cX2_writeTin 39 = .ok (.ireturn, 1) := by decide +kernel
theorem dX2_addNumber_0 : decode cX2_addNumber 0 = .ok (.iload_n 1, 1) := by decide +kernel
theorem dX2_addNumber_1 : decode cX2_addNumber 1 = .ok (.bipush 10, 2) := by decide +kernel
theorem dX2_addNumber_3 : decode cX2_addNumber 3 = .ok (.if_icmp .lt 15, 3) := by decide +kernel
theorem dX2_addNumber_6 : decode cX2_addNumber 6 = .ok (.aload_n 0, 1) := by decide +kernel
theorem dX2_addNumber_7 : decode cX2_addNumber 7 = .ok (.bipush 48, 2) := by decide +kernel
theorem dX2_addNumber_9 : decode cX2_addNumber 9 = .ok (.iload_n 1, 1) := by decide +kernel
theorem dX2_addNumber_10 : decode cX2_addNumber 10 = .ok (.bipush 10, 2) := by decide +kernel
theorem dX2_addNumber_12 : decode cX2_addNumber 12 = .ok (.idiv, 1) := by decide +kernel
theorem dX2_addNumber_13 : decode cX2_addNumber 13 = .ok (.iadd, 1) := by decide +kernel
theorem dX2_addNumber_14 : decode cX2_addNumber 14 = .ok (.i2c, 1) := by decide +kernel
theorem dX2_addNumber_15 : decode cX2_addNumber 15 = .ok (.invokevirtual 41, 3) := by decide +kernel
theorem dX2_addNumber_18 : decode cX2_addNumber 18 = .ok (.aload_n 0, 1) := by decide +kernel
theorem dX2_addNumber_19 : decode cX2_addNumber 19 = .ok (.bipush 48, 2) := by decide +kernel
theorem dX2_addNumber_21 : decode cX2_addNumber 21 = .ok (.iload_n 1, 1) := by decide +kernel
theorem dX2_addNumber_22 : decode cX2_addNumber 22 = .ok (.bipush 10, 2) := by decide +kernel
theorem dX2_addNumber_24 : decode cX2_addNumber 24 = .ok (.irem, 1) := by decide +kernel
theorem dX2_addNumber_25 : decode cX2_addNumber 25 = .ok (.iadd, 1) := by decide +kernel
theorem dX2_addNumber_26 : decode cX2_addNumber 26 = .ok (.i2c, 1) := by decide +kernel
theorem dX2_addNumber_27 : decode cX2_addNumber 27 = .ok (.invokevirtual 41, 3) := by decide +kernel
theorem dX2_addNumber_30 : decode cX2_addNumber 30 = .ok (.return_, 1) := by decide +kernel
theorem dX2_addSign_0 : decode cX2_addSign 0 = .ok (.aload_n 0, 1) := by decide +kernel
theorem dX2_addSign_1 : decode cX2_addSign 1 = .ok (.getfield 15, 3) := by decide +kernel
theorem dX2_addSign_4 : decode cX2_addSign 4 = .ok (.ifCond .lt 35, 3) := by decide +kernel
theorem dX2_addSign_7 : decode cX2_addSign 7 = .ok (.aload_n 0, 1) := by decide +kernel
theorem dX2_addSign_8 : decode cX2_addSign 8 = .ok (.getfield 15, 3) := by decide +kernel
theorem dX2_addSign_11 : decode cX2_addSign 11 = .ok (.aload_n 0, 1) := by decide +kernel
theorem dX2_addSign_12 : decode cX2_addSign 12 = .ok (.getfield 9, 3) := by decide +kernel
theorem dX2_addSign_15 : decode cX2_addSign 15 = .ok (.arraylength, 1) := by decide +kernel
theorem dX2_addSign_16 : decode cX2_addSign 16 = .ok (.if_icmp .ge 23, 3) := by decide +kernel
theorem dX2_addSign_19 : decode cX2_addSign 19 = .ok (.aload_n 0, 1) := by decide +kernel
theorem dX2_addSign_20 : decode cX2_addSign 20 = .ok (.getfield 9, 3) := by decide +kernel
theorem dX2_addSign_23 : decode cX2_addSign 23 = .ok (.aload_n 0, 1) := by decide +kernel
theorem dX2_addSign_24 : decode cX2_addSign 24 = .ok (.getfield 15, 3) := by decide +kernel
theorem dX2_addSign_27 : decode cX2_addSign 27 = .ok (.iload_n 1, 1) := by decide +kernel
theorem dX2_addSign_28 : decode cX2_addSign 28 = .ok (.castore, 1) := by decide +kernel
theorem dX2_addSign_29 : decode cX2_addSign 29 = .ok (.aload_n 0, 1) := by decide +kernel
theorem dX2_addSign_30 : decode cX2_addSign 30 = .ok (.dup, 1) := by decide +kernel
theorem dX2_addSign_31 : decode cX2_addSign 31 = .ok (.getfield 15, 3) := by decide +kernel
theorem dX2_addSign_34 : decode cX2_addSign 34 = .ok (.iconst 1, 1) := by decide +kernel
theorem dX2_addSign_35 : decode cX2_addSign 35 = .ok (.iadd, 1) := by decide +kernel
theorem dX2_addSign_36 : decode cX2_addSign 36 = .ok (.putfield 15, 3) := by decide +kernel
theorem dX2_addSign_39 : decode cX2_addSign 39 = .ok (.return_, 1) := by decide +kernel
theorem dX3_init_0 : decode cX3_init 0 = .ok (.aload_n 0, 1) := by decide +kernel
theorem dX3_init_1 : decode cX3_init 1 = .ok (.invokespecial 3, 3) := by decide +kernel
theorem dX3_init_4 : decode cX3_init 4 = .ok (.aload_n 0, 1) := by decide +kernel
theorem dX3_init_5 : decode cX3_init 5 = .ok (.aload_n 1, 1) := by decide +kernel
theorem dX3_init_6 : decode cX3_init 6 = .ok (.putfield 9, 3) := by decide +kernel
theorem dX3_init_9 : decode cX3_init 9 = .ok (.return_, 1) := by decide +kernel
theorem dX3_way_0 : decode cX3_way 0 = .ok (.iconst 0, 1) := by decide +kernel
theorem dX3_way_1 : decode cX3_way 1 = .ok (.istore_n 1, 1) := by decide +kernel
theorem dX3_way_2 : decode cX3_way 2 = .ok (.iconst 0, 1) := by decide +kernel
theorem dX3_way_3 : decode cX3_way 3 = .ok (.istore_n 2, 1) := by decide +kernel
theorem dX3_way_4 : decode cX3_way 4 = .ok (.iload_n 2, 1) := by decide +kernel
theorem dX3_way_5 : decode cX3_way 5 = .ok (.aload_n 0, 1) := by decide +kernel
theorem dX3_way_6 : decode cX3_way 6 = .ok (.getfield 9, 3) := by decide +kernel
theorem dX3_way_9 : decode cX3_way 9 = .ok (.invokevirtual 15, 3) := by decide +kernel
theorem dX3_way_12 : decode cX3_way 12 = .ok (.if_icmp .ge 20, 3) := by decide +kernel
theorem dX3_way_15 : decode cX3_way 15 = .ok (.iload_n 1, 1) := by decide +kernel
theorem dX3_way_16 : decode cX3_way 16 = .ok (.aload_n 0, 1) := by decide +kernel
theorem dX3_way_17 : decode cX3_way 17 = .ok (.iload_n 2, 1) := by decide +kernel
theorem dX3_way_18 : decode cX3_way 18 = .ok (.invokevirtual 21, 3) := by decide +kernel
theorem dX3_way_21 : decode cX3_way 21 = .ok (.invokestatic 25, 3) := by decide +kernel
theorem dX3_way_24 : decode cX3_way 24 = .ok (.iadd, 1) := by decide +kernel
theorem dX3_way_25 : decode cX3_way 25 = .ok (.istore_n 1, 1) := by decide +kernel
theorem dX3_way_26 : decode cX3_way 26 = .ok (.iinc 2 1, 3) := by decide +kernel
theorem dX3_way_29 : decode cX3_way 29 = .ok (.goto (-25), 3) := by decide +kernel
theorem dX3_way_32 : decode cX3_way 32 = .ok (.iload_n 1, 1) := by decide +kernel
theorem dX3_way_33 : decode cX3_way 33 = .ok (.ireturn, 1) := by decide +kernel
theorem dX3_wayBySteps_0 : decode cX3_wayBySteps 0 = .ok (.iconst 0, 1) := by decide +kernel
theorem dX3_wayBySteps_1 : decode cX3_wayBySteps 1 = .ok (.istore_n 1, 1) := by decide +kernel
theorem dX3_wayBySteps_2 : decode cX3_wayBySteps 2 = .ok (.iconst 0, 1) := by decide +kernel
theorem dX3_wayBySteps_3 : decode cX3_wayBySteps 3 = .ok (.istore_n 2, 1) := by decide +kernel
theorem dX3_wayBySteps_4 : decode cX3_wayBySteps 4 = .ok (.iload_n 2, 1) := by decide +kernel
theorem dX3_wayBySteps_5 : decode cX3_wayBySteps 5 = .ok (.bipush 11, 2) := by decide +kernel
theorem dX3_wayBySteps_7 : decode cX3_wayBySteps 7 = .ok (.if_icmp .ge 17, 3) := by decide +kernel
theorem dX3_wayBySteps_10 : decode cX3_wayBySteps 10 = .ok (.iload_n 1, 1) := by decide +kernel
theorem dX3_wayBySteps_11 : decode cX3_wayBySteps 11 = .ok (.aload_n 0, 1) := by decide +kernel
theorem dX3_wayBySteps_12 : decode cX3_wayBySteps 12 = .ok (.iload_n 2, 1) := by decide +kernel
theorem dX3_wayBySteps_13 : decode cX3_wayBySteps 13 = .ok (.invokevirtual 30, 3) := by decide +kernel
theorem dX3_wayBySteps_16 : decode cX3_wayBySteps 16 = .ok (.iadd, 1) := by decide +kernel
theorem dX3_wayBySteps_17 : decode cX3_wayBySteps 17 = .ok (.istore_n 1, 1) := by decide +kernel
theorem dX3_wayBySteps_18 : decode cX3_wayBySteps 18 = .ok (.iinc 2 1, 3) := by decide +kernel
theorem dX3_wayBySteps_21 : decode cX3_wayBySteps 21 = .ok (.goto (-17), 3) := by decide +kernel
theorem dX3_wayBySteps_24 : decode cX3_wayBySteps 24 = .ok (.iload_n 1, 1) := by decide +kernel
theorem dX3_wayBySteps_25 : decode cX3_wayBySteps 25 = .ok (.ireturn, 1) := by decide +kernel
theorem dX3_timesOver_0 : decode cX3_timesOver 0 = .ok (.iconst 0, 1) := by decide +kernel
theorem dX3_timesOver_1 : decode cX3_timesOver 1 = .ok (.istore_n 2, 1) := by decide +kernel
theorem dX3_timesOver_2 : decode cX3_timesOver 2 = .ok (.iconst (-1), 1) := by decide +kernel
theorem dX3_timesOver_3 : decode cX3_timesOver 3 = .ok (.istore_n 3, 1) := by decide +kernel
theorem dX3_timesOver_4 : decode cX3_timesOver 4 = .ok (.iconst 0, 1) := by decide +kernel
theorem dX3_timesOver_5 : decode cX3_timesOver 5 = .ok (.istore 4, 2) := by decide +kernel
theorem dX3_timesOver_7 : decode cX3_timesOver 7 = .ok (.iload 4, 2) := by decide +kernel
theorem dX3_timesOver_9 : decode cX3_timesOver 9 = .ok (.aload_n 0, 1) := by decide +kernel
theorem dX3_timesOver_10 : decode cX3_timesOver 10 = .ok (.getfield 9, 3) := by decide +kernel
theorem dX3_timesOver_13 : decode cX3_timesOver 13 = .ok (.invokevirtual 15, 3) := by decide +kernel
theorem dX3_timesOver_16 : decode cX3_timesOver 16 = .ok (.if_icmp .ge 69, 3) := by decide +kernel
theorem dX3_timesOver_19 : decode cX3_timesOver 19 = .ok (.aload_n 0, 1) := by decide +kernel
theorem dX3_timesOver_20 : decode cX3_timesOver 20 = .ok (.getfield 9, 3) := by decide +kernel
theorem dX3_timesOver_23 : decode cX3_timesOver 23 = .ok (.iload 4, 2) := by decide +kernel
theorem dX3_timesOver_25 : decode cX3_timesOver 25 = .ok (.invokevirtual 33, 3) := by decide +kernel
theorem dX3_timesOver_28 : decode cX3_timesOver 28 = .ok (.istore 5, 2) := by decide +kernel
theorem dX3_timesOver_30 : decode cX3_timesOver 30 = .ok (.iload 5, 2) := by decide +kernel
theorem dX3_timesOver_32 : decode cX3_timesOver 32 = .ok (.iconst (-1), 1) := by decide +kernel
theorem dX3_timesOver_33 : decode cX3_timesOver 33 = .ok (.if_icmp .ne 6, 3) := by decide +kernel
theorem dX3_timesOver_36 : decode cX3_timesOver 36 = .ok (.goto 43, 3) := by decide +kernel
theorem dX3_timesOver_39 : decode cX3_timesOver 39 = .ok (.iload_n 2, 1) := by decide +kernel
theorem dX3_timesOver_40 : decode cX3_timesOver 40 = .ok (.iload_n 3, 1) := by decide +kernel
theorem dX3_timesOver_41 : decode cX3_timesOver 41 = .ok (.iconst (-1), 1) := by decide +kernel
theorem dX3_timesOver_42 : decode cX3_timesOver 42 = .ok (.if_icmp .eq 31, 3) := by decide +kernel
theorem dX3_timesOver_45 : decode cX3_timesOver 45 = .ok (.iload 5, 2) := by decide +kernel
theorem dX3_timesOver_47 : decode cX3_timesOver 47 = .ok (.iload_n 1, 1) := by decide +kernel
theorem dX3_timesOver_48 : decode cX3_timesOver 48 = .ok (.if_icmp .le 7, 3) := by decide +kernel
theorem dX3_timesOver_51 : decode cX3_timesOver 51 = .ok (.iconst 1, 1) := by decide +kernel
theorem dX3_timesOver_52 : decode cX3_timesOver 52 = .ok (.goto 4, 3) := by decide +kernel
theorem dX3_timesOver_55 : decode cX3_timesOver 55 = .ok (.iconst 0, 1) := by decide +kernel
theorem dX3_timesOver_56 : decode cX3_timesOver 56 = .ok (.iload_n 3, 1) := by decide +kernel
theorem dX3_timesOver_57 : decode cX3_timesOver 57 = .ok (.iload_n 1, 1) := by decide +kernel
theorem dX3_timesOver_58 : decode cX3_timesOver 58 = .ok (.if_icmp .le 7, 3) := by decide +kernel
theorem dX3_timesOver_61 : decode cX3_timesOver 61 = .ok (.iconst 1, 1) := by decide +kernel
theorem dX3_timesOver_62 : decode cX3_timesOver 62 = .ok (.goto 4, 3) := by decide +kernel
theorem dX3_timesOver_65 : decode cX3_timesOver 65 = .ok (.iconst 0, 1) := by decide +kernel
theorem dX3_timesOver_66 : decode cX3_timesOver 66 = .ok (.if_icmp .eq 7, 3) := by decide +kernel
theorem dX3_timesOver_69 : decode cX3_timesOver 69 = .ok (.iconst 1, 1) := by decide +kernel
theorem dX3_timesOver_70 : decode cX3_timesOver 70 = .ok (.goto 4, 3) := by decide +kernel
theorem dX3_timesOver_73 : decode cX3_timesOver 73 = .ok (.iconst 0, 1) := by decide +kernel
theorem dX3_timesOver_74 : decode cX3_timesOver 74 = .ok (.iadd, 1) := by decide +kernel
theorem dX3_timesOver_75 : decode cX3_timesOver 75 = .ok (.istore_n 2, 1) := by decide +kernel
theorem dX3_timesOver_76 : decode cX3_timesOver 76 = .ok (.iload 5, 2) := by decide +kernel
theorem dX3_timesOver_78 : decode cX3_timesOver 78 = .ok (.istore_n 3, 1) := by decide +kernel
theorem dX3_timesOver_79 : decode cX3_timesOver 79 = .ok (.iinc 4 1, 3) := by decide +kernel
theorem dX3_timesOver_82 : decode cX3_timesOver 82 = .ok (.goto (-75), 3) := by decide +kernel
theorem dX3_timesOver_85 : decode cX3_timesOver 85 = .ok (.iload_n 2, 1) := by decide +kernel
theorem dX3_timesOver_86 : decode cX3_timesOver 86 = .ok (.ireturn, 1) := by decide +kernel
theorem dX3_riseTo_0 : decode cX3_riseTo 0 = .ok (.aload_n 0, 1) := by decide +kernel
theorem dX3_riseTo_1 : decode cX3_riseTo 1 = .ok (.getfield 9, 3) := by decide +kernel
theorem dX3_riseTo_4 : decode cX3_riseTo 4 = .ok (.iload_n 1, 1) := by decide +kernel
theorem dX3_riseTo_5 : decode cX3_riseTo 5 = .ok (.invokevirtual 36, 3) := by decide +kernel
theorem dX3_riseTo_8 : decode cX3_riseTo 8 = .ok (.istore_n 2, 1) := by decide +kernel
theorem dX3_riseTo_9 : decode cX3_riseTo 9 = .ok (.iload_n 2, 1) := by decide +kernel
theorem dX3_riseTo_10 : decode cX3_riseTo 10 = .ok (.iconst (-1), 1) := by decide +kernel
theorem dX3_riseTo_11 : decode cX3_riseTo 11 = .ok (.if_icmp .eq 14, 3) := by decide +kernel
theorem dX3_riseTo_14 : decode cX3_riseTo 14 = .ok (.aload_n 0, 1) := by decide +kernel
theorem dX3_riseTo_15 : decode cX3_riseTo 15 = .ok (.getfield 9, 3) := by decide +kernel
theorem dX3_riseTo_18 : decode cX3_riseTo 18 = .ok (.iload_n 1, 1) := by decide +kernel
theorem dX3_riseTo_19 : decode cX3_riseTo 19 = .ok (.invokevirtual 39, 3) := by decide +kernel
theorem dX3_riseTo_22 : decode cX3_riseTo 22 = .ok (.ifCond .eq 5, 3) := by decide +kernel
theorem dX3_riseTo_25 : decode cX3_riseTo 25 = .ok (.iconst 0, 1) := by decide +kernel
theorem dX3_riseTo_26 : decode cX3_riseTo 26 = .ok (.ireturn, 1) := by decide +kernel
theorem dX3_riseTo_27 : decode cX3_riseTo 27 = .ok (.aload_n 0, 1) := by decide +kernel
theorem dX3_riseTo_28 : decode cX3_riseTo 28 = .ok (.getfield 9, 3) := by decide +kernel
theorem dX3_riseTo_31 : decode cX3_riseTo 31 = .ok (.iload_n 1, 1) := by decide +kernel
theorem dX3_riseTo_32 : decode cX3_riseTo 32 = .ok (.invokevirtual 33, 3) := by decide +kernel
theorem dX3_riseTo_35 : decode cX3_riseTo 35 = .ok (.aload_n 0, 1) := by decide +kernel
theorem dX3_riseTo_36 : decode cX3_riseTo 36 = .ok (.getfield 9, 3) := by decide +kernel
theorem dX3_riseTo_39 : decode cX3_riseTo 39 = .ok (.iload_n 2, 1) := by decide +kernel
theorem dX3_riseTo_40 : decode cX3_riseTo 40 = .ok (.invokevirtual 33, 3) := by decide +kernel
theorem dX3_riseTo_43 : decode cX3_riseTo 43 = .ok (.isub, 1) := by decide +kernel
theorem dX3_riseTo_44 : decode cX3_riseTo 44 = .ok (.ireturn, 1) := by decide +kernel
theorem dX3_moves_0 : decode cX3_moves 0 = .ok (.iconst 0, 1) := by decide +kernel
theorem dX3_moves_1 : decode cX3_moves 1 = .ok (.istore_n 2, 1) := by decide +kernel
theorem dX3_moves_2 : decode cX3_moves 2 = .ok (.iconst 0, 1) := by decide +kernel
theorem dX3_moves_3 : decode cX3_moves 3 = .ok (.istore_n 3, 1) := by decide +kernel
theorem dX3_moves_4 : decode cX3_moves 4 = .ok (.iload_n 3, 1) := by decide +kernel
theorem dX3_moves_5 : decode cX3_moves 5 = .ok (.aload_n 0, 1) := by decide +kernel
theorem dX3_moves_6 : decode cX3_moves 6 = .ok (.getfield 9, 3) := by decide +kernel
theorem dX3_moves_9 : decode cX3_moves 9 = .ok (.invokevirtual 15, 3) := by decide +kernel
theorem dX3_moves_12 : decode cX3_moves 12 = .ok (.if_icmp .ge 41, 3) := by decide +kernel
theorem dX3_moves_15 : decode cX3_moves 15 = .ok (.aload_n 0, 1) := by decide +kernel
theorem dX3_moves_16 : decode cX3_moves 16 = .ok (.iload_n 3, 1) := by decide +kernel
theorem dX3_moves_17 : decode cX3_moves 17 = .ok (.invokevirtual 21, 3) := by decide +kernel
theorem dX3_moves_20 : decode cX3_moves 20 = .ok (.istore 4, 2) := by decide +kernel
theorem dX3_moves_22 : decode cX3_moves 22 = .ok (.iload_n 2, 1) := by decide +kernel
theorem dX3_moves_23 : decode cX3_moves 23 = .ok (.iload_n 1, 1) := by decide +kernel
theorem dX3_moves_24 : decode cX3_moves 24 = .ok (.ifCond .eq 11, 3) := by decide +kernel
theorem dX3_moves_27 : decode cX3_moves 27 = .ok (.iload 4, 2) := by decide +kernel
theorem dX3_moves_29 : decode cX3_moves 29 = .ok (.ifCond .le 15, 3) := by decide +kernel
theorem dX3_moves_32 : decode cX3_moves 32 = .ok (.goto 8, 3) := by decide +kernel
theorem dX3_moves_35 : decode cX3_moves 35 = .ok (.iload 4, 2) := by decide +kernel
theorem dX3_moves_37 : decode cX3_moves 37 = .ok (.ifCond .ge 7, 3) := by decide +kernel
theorem dX3_moves_40 : decode cX3_moves 40 = .ok (.iconst 1, 1) := by decide +kernel
theorem dX3_moves_41 : decode cX3_moves 41 = .ok (.goto 4, 3) := by decide +kernel
theorem dX3_moves_44 : decode cX3_moves 44 = .ok (.iconst 0, 1) := by decide +kernel
theorem dX3_moves_45 : decode cX3_moves 45 = .ok (.iadd, 1) := by decide +kernel
theorem dX3_moves_46 : decode cX3_moves 46 = .ok (.istore_n 2, 1) := by decide +kernel
theorem dX3_moves_47 : decode cX3_moves 47 = .ok (.iinc 3 1, 3) := by decide +kernel
theorem dX3_moves_50 : decode cX3_moves 50 = .ok (.goto (-46), 3) := by decide +kernel
theorem dX3_moves_53 : decode cX3_moves 53 = .ok (.iload_n 2, 1) := by decide +kernel
theorem dX3_moves_54 : decode cX3_moves 54 = .ok (.ireturn, 1) := by decide +kernel
theorem dX3_width_0 : decode cX3_width 0 = .ok (.bipush 12, 2) := by decide +kernel
theorem dX3_width_2 : decode cX3_width 2 = .ok (.istore_n 1, 1) := by decide +kernel
theorem dX3_width_3 : decode cX3_width 3 = .ok (.iconst (-1), 1) := by decide +kernel
theorem dX3_width_4 : decode cX3_width 4 = .ok (.istore_n 2, 1) := by decide +kernel
theorem dX3_width_5 : decode cX3_width 5 = .ok (.iconst 0, 1) := by decide +kernel
theorem dX3_width_6 : decode cX3_width 6 = .ok (.istore_n 3, 1) := by decide +kernel
theorem dX3_width_7 : decode cX3_width 7 = .ok (.iload_n 3, 1) := by decide +kernel
theorem dX3_width_8 : decode cX3_width 8 = .ok (.aload_n 0, 1) := by decide +kernel
theorem dX3_width_9 : decode cX3_width 9 = .ok (.getfield 9, 3) := by decide +kernel
theorem dX3_width_12 : decode cX3_width 12 = .ok (.invokevirtual 15, 3) := by decide +kernel
theorem dX3_width_15 : decode cX3_width 15 = .ok (.if_icmp .ge 39, 3) := by decide +kernel
theorem dX3_width_18 : decode cX3_width 18 = .ok (.aload_n 0, 1) := by decide +kernel
theorem dX3_width_19 : decode cX3_width 19 = .ok (.getfield 9, 3) := by decide +kernel
theorem dX3_width_22 : decode cX3_width 22 = .ok (.iload_n 3, 1) := by decide +kernel
theorem dX3_width_23 : decode cX3_width 23 = .ok (.invokevirtual 33, 3) := by decide +kernel
theorem dX3_width_26 : decode cX3_width 26 = .ok (.istore 4, 2) := by decide +kernel
theorem dX3_width_28 : decode cX3_width 28 = .ok (.iload 4, 2) := by decide +kernel
theorem dX3_width_30 : decode cX3_width 30 = .ok (.iconst (-1), 1) := by decide +kernel
theorem dX3_width_31 : decode cX3_width 31 = .ok (.if_icmp .eq 17, 3) := by decide +kernel
theorem dX3_width_34 : decode cX3_width 34 = .ok (.iload_n 1, 1) := by decide +kernel
theorem dX3_width_35 : decode cX3_width 35 = .ok (.iload 4, 2) := by decide +kernel
theorem dX3_width_37 : decode cX3_width 37 = .ok (.invokestatic 43, 3) := by decide +kernel
theorem dX3_width_40 : decode cX3_width 40 = .ok (.istore_n 1, 1) := by decide +kernel
theorem dX3_width_41 : decode cX3_width 41 = .ok (.iload_n 2, 1) := by decide +kernel
theorem dX3_width_42 : decode cX3_width 42 = .ok (.iload 4, 2) := by decide +kernel
theorem dX3_width_44 : decode cX3_width 44 = .ok (.invokestatic 47, 3) := by decide +kernel
theorem dX3_width_47 : decode cX3_width 47 = .ok (.istore_n 2, 1) := by decide +kernel
theorem dX3_width_48 : decode cX3_width 48 = .ok (.iinc 3 1, 3) := by decide +kernel
theorem dX3_width_51 : decode cX3_width 51 = .ok (.goto (-44), 3) := by decide +kernel
theorem dX3_width_54 : decode cX3_width 54 = .ok (.iload_n 2, 1) := by decide +kernel
theorem dX3_width_55 : decode cX3_width 55 = .ok (.iconst (-1), 1) := by decide +kernel
theorem dX3_width_56 : decode cX3_width 56 = .ok (.if_icmp .ne 7, 3) := by decide +kernel
theorem dX3_width_59 : decode cX3_width 59 = .ok (.iconst 0, 1) := by decide +kernel
theorem dX3_width_60 : decode cX3_width 60 = .ok (.goto 6, 3) := by decide +kernel
theorem dX3_width_63 : decode cX3_width 63 = .ok (.iload_n 2, 1) := by decide +kernel
theorem dX3_width_64 : decode cX3_width 64 = .ok (.iload_n 1, 1) := by decide +kernel
theorem dX3_width_65 : decode cX3_width 65 = .ok (.isub, 1) := by decide +kernel
theorem dX3_width_66 : decode cX3_width 66 = .ok (.ireturn, 1) := by decide +kernel
theorem dX3_dropsAt_0 : decode cX3_dropsAt 0 = .ok (.iconst 0, 1) := by decide +kernel
theorem dX3_dropsAt_1 : decode cX3_dropsAt 1 = .ok (.istore_n 2, 1) := by decide +kernel
theorem dX3_dropsAt_2 : decode cX3_dropsAt 2 = .ok (.iconst 0, 1) := by decide +kernel
theorem dX3_dropsAt_3 : decode cX3_dropsAt 3 = .ok (.istore_n 3, 1) := by decide +kernel
theorem dX3_dropsAt_4 : decode cX3_dropsAt 4 = .ok (.iload_n 3, 1) := by decide +kernel
theorem dX3_dropsAt_5 : decode cX3_dropsAt 5 = .ok (.aload_n 0, 1) := by decide +kernel
theorem dX3_dropsAt_6 : decode cX3_dropsAt 6 = .ok (.getfield 9, 3) := by decide +kernel
theorem dX3_dropsAt_9 : decode cX3_dropsAt 9 = .ok (.invokevirtual 15, 3) := by decide +kernel
theorem dX3_dropsAt_12 : decode cX3_dropsAt 12 = .ok (.if_icmp .ge 29, 3) := by decide +kernel
theorem dX3_dropsAt_15 : decode cX3_dropsAt 15 = .ok (.iload_n 2, 1) := by decide +kernel
theorem dX3_dropsAt_16 : decode cX3_dropsAt 16 = .ok (.aload_n 0, 1) := by decide +kernel
theorem dX3_dropsAt_17 : decode cX3_dropsAt 17 = .ok (.getfield 9, 3) := by decide +kernel
theorem dX3_dropsAt_20 : decode cX3_dropsAt 20 = .ok (.iload_n 3, 1) := by decide +kernel
theorem dX3_dropsAt_21 : decode cX3_dropsAt 21 = .ok (.invokevirtual 33, 3) := by decide +kernel
theorem dX3_dropsAt_24 : decode cX3_dropsAt 24 = .ok (.iload_n 1, 1) := by decide +kernel
theorem dX3_dropsAt_25 : decode cX3_dropsAt 25 = .ok (.if_icmp .ne 7, 3) := by decide +kernel
theorem dX3_dropsAt_28 : decode cX3_dropsAt 28 = .ok (.iconst 1, 1) := by decide +kernel
theorem dX3_dropsAt_29 : decode cX3_dropsAt 29 = .ok (.goto 4, 3) := by decide +kernel
theorem dX3_dropsAt_32 : decode cX3_dropsAt 32 = .ok (.iconst 0, 1) := by decide +kernel
theorem dX3_dropsAt_33 : decode cX3_dropsAt 33 = .ok (.iadd, 1) := by decide +kernel
theorem dX3_dropsAt_34 : decode cX3_dropsAt 34 = .ok (.istore_n 2, 1) := by decide +kernel
theorem dX3_dropsAt_35 : decode cX3_dropsAt 35 = .ok (.iinc 3 1, 3) := by decide +kernel
theorem dX3_dropsAt_38 : decode cX3_dropsAt 38 = .ok (.goto (-34), 3) := by decide +kernel
theorem dX3_dropsAt_41 : decode cX3_dropsAt 41 = .ok (.iload_n 2, 1) := by decide +kernel
theorem dX3_dropsAt_42 : decode cX3_dropsAt 42 = .ok (.ireturn, 1) := by decide +kernel
theorem dX3_countOfDrops_0 : decode cX3_countOfDrops 0 = .ok (.aload_n 0, 1) := by decide +kernel
theorem dX3_countOfDrops_1 : decode cX3_countOfDrops 1 = .ok (.getfield 9, 3) := by decide +kernel
theorem dX3_countOfDrops_4 : decode cX3_countOfDrops 4 = .ok (.invokevirtual 15, 3) := by decide +kernel
theorem dX3_countOfDrops_7 : decode cX3_countOfDrops 7 = .ok (.aload_n 0, 1) := by decide +kernel
theorem dX3_countOfDrops_8 : decode cX3_countOfDrops 8 = .ok (.getfield 9, 3) := by decide +kernel
theorem dX3_countOfDrops_11 : decode cX3_countOfDrops 11 = .ok (.invokevirtual 50, 3) := by decide +kernel
theorem dX3_countOfDrops_14 : decode cX3_countOfDrops 14 = .ok (.isub, 1) := by decide +kernel
theorem dX3_countOfDrops_15 : decode cX3_countOfDrops 15 = .ok (.ireturn, 1) := by decide +kernel
theorem dX3_sumOfPitches_0 : decode cX3_sumOfPitches 0 = .ok (.iconst 0, 1) := by decide +kernel
theorem dX3_sumOfPitches_1 : decode cX3_sumOfPitches 1 = .ok (.istore_n 1, 1) := by decide +kernel
theorem dX3_sumOfPitches_2 : decode cX3_sumOfPitches 2 = .ok (.iconst 0, 1) := by decide +kernel
theorem dX3_sumOfPitches_3 : decode cX3_sumOfPitches 3 = .ok (.istore_n 2, 1) := by decide +kernel
theorem dX3_sumOfPitches_4 : decode cX3_sumOfPitches 4 = .ok (.iload_n 2, 1) := by decide +kernel
theorem dX3_sumOfPitches_5 : decode cX3_sumOfPitches 5 = .ok (.aload_n 0, 1) := by decide +kernel
theorem dX3_sumOfPitches_6 : decode cX3_sumOfPitches 6 = .ok (.getfield 9, 3) := by decide +kernel
theorem dX3_sumOfPitches_9 : decode cX3_sumOfPitches 9 = .ok (.invokevirtual 15, 3) := by decide +kernel
theorem dX3_sumOfPitches_12 : decode cX3_sumOfPitches 12 = .ok (.if_icmp .ge 24, 3) := by decide +kernel
theorem dX3_sumOfPitches_15 : decode cX3_sumOfPitches 15 = .ok (.iload_n 1, 1) := by decide +kernel
theorem dX3_sumOfPitches_16 : decode cX3_sumOfPitches 16 = .ok (.iconst 0, 1) := by decide +kernel
theorem dX3_sumOfPitches_17 : decode cX3_sumOfPitches 17 = .ok (.aload_n 0, 1) := by decide +kernel
theorem dX3_sumOfPitches_18 : decode cX3_sumOfPitches 18 = .ok (.getfield 9, 3) := by decide +kernel
theorem dX3_sumOfPitches_21 : decode cX3_sumOfPitches 21 = .ok (.iload_n 2, 1) := by decide +kernel
theorem dX3_sumOfPitches_22 : decode cX3_sumOfPitches 22 = .ok (.invokevirtual 33, 3) := by decide +kernel
theorem dX3_sumOfPitches_25 : decode cX3_sumOfPitches 25 = .ok (.invokestatic 47, 3) := by decide +kernel
theorem dX3_sumOfPitches_28 : decode cX3_sumOfPitches 28 = .ok (.iadd, 1) := by decide +kernel
theorem dX3_sumOfPitches_29 : decode cX3_sumOfPitches 29 = .ok (.istore_n 1, 1) := by decide +kernel
theorem dX3_sumOfPitches_30 : decode cX3_sumOfPitches 30 = .ok (.iinc 2 1, 3) := by decide +kernel
theorem dX3_sumOfPitches_33 : decode cX3_sumOfPitches 33 = .ok (.goto (-29), 3) := by decide +kernel
theorem dX3_sumOfPitches_36 : decode cX3_sumOfPitches 36 = .ok (.iload_n 1, 1) := by decide +kernel
theorem dX3_sumOfPitches_37 : decode cX3_sumOfPitches 37 = .ok (.ireturn, 1) := by decide +kernel
theorem dX5_init_0 : decode cX5_init 0 = .ok (.aload_n 0, 1) := by decide +kernel
theorem dX5_init_1 : decode cX5_init 1 = .ok (.invokespecial 3, 3) := by decide +kernel
theorem dX5_init_4 : decode cX5_init 4 = .ok (.aload_n 0, 1) := by decide +kernel
theorem dX5_init_5 : decode cX5_init 5 = .ok (.bipush 6, 2) := by decide +kernel
theorem dX5_init_7 : decode cX5_init 7 = .ok (.newarray .int, 2) := by decide +kernel
theorem dX5_init_9 : decode cX5_init 9 = .ok (.putfield 9, 3) := by decide +kernel
theorem dX5_init_12 : decode cX5_init 12 = .ok (.aload_n 0, 1) := by decide +kernel
theorem dX5_init_13 : decode cX5_init 13 = .ok (.iconst 4, 1) := by decide +kernel
theorem dX5_init_14 : decode cX5_init 14 = .ok (.newarray .int, 2) := by decide +kernel
theorem dX5_init_16 : decode cX5_init 16 = .ok (.putfield 15, 3) := by decide +kernel
theorem dX5_init_19 : decode cX5_init 19 = .ok (.aload_n 0, 1) := by decide +kernel
theorem dX5_init_20 : decode cX5_init 20 = .ok (.iconst 4, 1) := by decide +kernel
theorem dX5_init_21 : decode cX5_init 21 = .ok (.newarray .int, 2) := by decide +kernel
theorem dX5_init_23 : decode cX5_init 23 = .ok (.putfield 18, 3) := by decide +kernel
theorem dX5_init_26 : decode cX5_init 26 = .ok (.aload_n 0, 1) := by decide +kernel
theorem dX5_init_27 : decode cX5_init 27 = .ok (.bipush 16, 2) := by decide +kernel
theorem dX5_init_29 : decode cX5_init 29 = .ok (.newarray .int, 2) := by decide +kernel
theorem dX5_init_31 : decode cX5_init 31 = .ok (.putfield 21, 3) := by decide +kernel
theorem dX5_init_34 : decode cX5_init 34 = .ok (.aload_n 0, 1) := by decide +kernel
theorem dX5_init_35 : decode cX5_init 35 = .ok (.bipush 16, 2) := by decide +kernel
theorem dX5_init_37 : decode cX5_init 37 = .ok (.newarray .int, 2) := by decide +kernel
theorem dX5_init_39 : decode cX5_init 39 = .ok (.putfield 24, 3) := by decide +kernel
theorem dX5_init_42 : decode cX5_init 42 = .ok (.aload_n 0, 1) := by decide +kernel
theorem dX5_init_43 : decode cX5_init 43 = .ok (.bipush 16, 2) := by decide +kernel
theorem dX5_init_45 : decode cX5_init 45 = .ok (.newarray .int, 2) := by decide +kernel
theorem dX5_init_47 : decode cX5_init 47 = .ok (.putfield 27, 3) := by decide +kernel
theorem dX5_init_50 : decode cX5_init 50 = .ok (.aload_n 0, 1) := by decide +kernel
theorem dX5_init_51 : decode cX5_init 51 = .ok (.iconst 0, 1) := by decide +kernel
theorem dX5_init_52 : decode cX5_init 52 = .ok (.putfield 30, 3) := by decide +kernel
theorem dX5_init_55 : decode cX5_init 55 = .ok (.aload_n 0, 1) := by decide +kernel
theorem dX5_init_56 : decode cX5_init 56 = .ok (.iconst 0, 1) := by decide +kernel
theorem dX5_init_57 : decode cX5_init 57 = .ok (.putfield 34, 3) := by decide +kernel
theorem dX5_init_60 : decode cX5_init 60 = .ok (.aload_n 0, 1) := by decide +kernel
theorem dX5_init_61 : decode cX5_init 61 = .ok (.iconst 4, 1) := by decide +kernel
theorem dX5_init_62 : decode cX5_init 62 = .ok (.putfield 37, 3) := by decide +kernel
theorem dX5_init_65 : decode cX5_init 65 = .ok (.aload_n 0, 1) := by decide +kernel
theorem dX5_init_66 : decode cX5_init 66 = .ok (.iconst 0, 1) := by decide +kernel
theorem dX5_init_67 : decode cX5_init 67 = .ok (.putfield 40, 3) := by decide +kernel
theorem dX5_init_70 : decode cX5_init 70 = .ok (.aload_n 0, 1) := by decide +kernel
theorem dX5_init_71 : decode cX5_init 71 = .ok (.iconst 0, 1) := by decide +kernel
theorem dX5_init_72 : decode cX5_init 72 = .ok (.putfield 43, 3) := by decide +kernel
theorem dX5_init_75 : decode cX5_init 75 = .ok (.return_, 1) := by decide +kernel
theorem dX5_become_0 : decode cX5_become 0 = .ok (.aload_n 1, 1) := by decide +kernel
theorem dX5_become_1 : decode cX5_become 1 = .ok (.getfield 9, 3) := by decide +kernel
theorem dX5_become_4 : decode cX5_become 4 = .ok (.aload_n 0, 1) := by decide +kernel
theorem dX5_become_5 : decode cX5_become 5 = .ok (.getfield 9, 3) := by decide +kernel
theorem dX5_become_8 : decode cX5_become 8 = .ok (.invokestatic 46, 3) := by decide +kernel
theorem dX5_become_11 : decode cX5_become 11 = .ok (.aload_n 1, 1) := by decide +kernel
theorem dX5_become_12 : decode cX5_become 12 = .ok (.getfield 15, 3) := by decide +kernel
theorem dX5_become_15 : decode cX5_become 15 = .ok (.aload_n 0, 1) := by decide +kernel
theorem dX5_become_16 : decode cX5_become 16 = .ok (.getfield 15, 3) := by decide +kernel
theorem dX5_become_19 : decode cX5_become 19 = .ok (.invokestatic 46, 3) := by decide +kernel
theorem dX5_become_22 : decode cX5_become 22 = .ok (.aload_n 1, 1) := by decide +kernel
theorem dX5_become_23 : decode cX5_become 23 = .ok (.getfield 18, 3) := by decide +kernel
theorem dX5_become_26 : decode cX5_become 26 = .ok (.aload_n 0, 1) := by decide +kernel
theorem dX5_become_27 : decode cX5_become 27 = .ok (.getfield 18, 3) := by decide +kernel
theorem dX5_become_30 : decode cX5_become 30 = .ok (.invokestatic 46, 3) := by decide +kernel
theorem dX5_become_33 : decode cX5_become 33 = .ok (.aload_n 1, 1) := by decide +kernel
theorem dX5_become_34 : decode cX5_become 34 = .ok (.getfield 21, 3) := by decide +kernel
theorem dX5_become_37 : decode cX5_become 37 = .ok (.aload_n 0, 1) := by decide +kernel
theorem dX5_become_38 : decode cX5_become 38 = .ok (.getfield 21, 3) := by decide +kernel
theorem dX5_become_41 : decode cX5_become 41 = .ok (.invokestatic 46, 3) := by decide +kernel
theorem dX5_become_44 : decode cX5_become 44 = .ok (.aload_n 1, 1) := by decide +kernel
theorem dX5_become_45 : decode cX5_become 45 = .ok (.getfield 24, 3) := by decide +kernel
theorem dX5_become_48 : decode cX5_become 48 = .ok (.aload_n 0, 1) := by decide +kernel
theorem dX5_become_49 : decode cX5_become 49 = .ok (.getfield 24, 3) := by decide +kernel
theorem dX5_become_52 : decode cX5_become 52 = .ok (.invokestatic 46, 3) := by decide +kernel
theorem dX5_become_55 : decode cX5_become 55 = .ok (.aload_n 1, 1) := by decide +kernel
theorem dX5_become_56 : decode cX5_become 56 = .ok (.getfield 27, 3) := by decide +kernel
theorem dX5_become_59 : decode cX5_become 59 = .ok (.aload_n 0, 1) := by decide +kernel
theorem dX5_become_60 : decode cX5_become 60 = .ok (.getfield 27, 3) := by decide +kernel
theorem dX5_become_63 : decode cX5_become 63 = .ok (.invokestatic 46, 3) := by decide +kernel
theorem dX5_become_66 : decode cX5_become 66 = .ok (.aload_n 0, 1) := by decide +kernel
theorem dX5_become_67 : decode cX5_become 67 = .ok (.aload_n 1, 1) := by decide +kernel
theorem dX5_become_68 : decode cX5_become 68 = .ok (.getfield 30, 3) := by decide +kernel
theorem dX5_become_71 : decode cX5_become 71 = .ok (.putfield 30, 3) := by decide +kernel
theorem dX5_become_74 : decode cX5_become 74 = .ok (.aload_n 0, 1) := by decide +kernel
theorem dX5_become_75 : decode cX5_become 75 = .ok (.aload_n 1, 1) := by decide +kernel
theorem dX5_become_76 : decode cX5_become 76 = .ok (.getfield 34, 3) := by decide +kernel
theorem dX5_become_79 : decode cX5_become 79 = .ok (.putfield 34, 3) := by decide +kernel
theorem dX5_become_82 : decode cX5_become 82 = .ok (.aload_n 0, 1) := by decide +kernel
theorem dX5_become_83 : decode cX5_become 83 = .ok (.aload_n 1, 1) := by decide +kernel
theorem dX5_become_84 : decode cX5_become 84 = .ok (.getfield 37, 3) := by decide +kernel
theorem dX5_become_87 : decode cX5_become 87 = .ok (.putfield 37, 3) := by decide +kernel
theorem dX5_become_90 : decode cX5_become 90 = .ok (.aload_n 0, 1) := by decide +kernel
theorem dX5_become_91 : decode cX5_become 91 = .ok (.aload_n 1, 1) := by decide +kernel
theorem dX5_become_92 : decode cX5_become 92 = .ok (.getfield 40, 3) := by decide +kernel
theorem dX5_become_95 : decode cX5_become 95 = .ok (.putfield 40, 3) := by decide +kernel
theorem dX5_become_98 : decode cX5_become 98 = .ok (.aload_n 0, 1) := by decide +kernel
theorem dX5_become_99 : decode cX5_become 99 = .ok (.aload_n 1, 1) := by decide +kernel
theorem dX5_become_100 : decode cX5_become 100 = .ok (.getfield 43, 3) := by decide +kernel
theorem dX5_become_103 : decode cX5_become 103 = .ok (.putfield 43, 3) := by decide +kernel
theorem dX5_become_106 : decode cX5_become 106 = .ok (.return_, 1) := by decide +kernel
theorem dX5_addBar_0 : decode cX5_addBar 0 = .ok (.aload_n 0, 1) := by decide +kernel
theorem dX5_addBar_1 : decode cX5_addBar 1 = .ok (.getfield 9, 3) := by decide +kernel
theorem dX5_addBar_4 : decode cX5_addBar 4 = .ok (.aload_n 0, 1) := by decide +kernel
theorem dX5_addBar_5 : decode cX5_addBar 5 = .ok (.getfield 30, 3) := by decide +kernel
theorem dX5_addBar_8 : decode cX5_addBar 8 = .ok (.iload_n 1, 1) := by decide +kernel
theorem dX5_addBar_9 : decode cX5_addBar 9 = .ok (.invokestatic 50, 3) := by decide +kernel
theorem dX5_addBar_12 : decode cX5_addBar 12 = .ok (.aload_n 0, 1) := by decide +kernel
theorem dX5_addBar_13 : decode cX5_addBar 13 = .ok (.dup, 1) := by decide +kernel
theorem dX5_addBar_14 : decode cX5_addBar 14 = .ok (.getfield 30, 3) := by decide +kernel
theorem dX5_addBar_17 : decode cX5_addBar 17 = .ok (.iconst 1, 1) := by decide +kernel
theorem dX5_addBar_18 : decode cX5_addBar 18 = .ok (.iadd, 1) := by decide +kernel
theorem dX5_addBar_19 : decode cX5_addBar 19 = .ok (.putfield 30, 3) := by decide +kernel
theorem dX5_addBar_22 : decode cX5_addBar 22 = .ok (.aload_n 0, 1) := by decide +kernel
theorem dX5_addBar_23 : decode cX5_addBar 23 = .ok (.getfield 30, 3) := by decide +kernel
theorem dX5_addBar_26 : decode cX5_addBar 26 = .ok (.iconst 1, 1) := by decide +kernel
theorem dX5_addBar_27 : decode cX5_addBar 27 = .ok (.isub, 1) := by decide +kernel
theorem dX5_addBar_28 : decode cX5_addBar 28 = .ok (.ireturn, 1) := by decide +kernel
theorem dX5_addSound_0 : decode cX5_addSound 0 = .ok (.aload_n 0, 1) := by decide +kernel
theorem dX5_addSound_1 : decode cX5_addSound 1 = .ok (.getfield 21, 3) := by decide +kernel
theorem dX5_addSound_4 : decode cX5_addSound 4 = .ok (.aload_n 0, 1) := by decide +kernel
theorem dX5_addSound_5 : decode cX5_addSound 5 = .ok (.getfield 34, 3) := by decide +kernel
theorem dX5_addSound_8 : decode cX5_addSound 8 = .ok (.iload_n 1, 1) := by decide +kernel
theorem dX5_addSound_9 : decode cX5_addSound 9 = .ok (.invokestatic 50, 3) := by decide +kernel
theorem dX5_addSound_12 : decode cX5_addSound 12 = .ok (.aload_n 0, 1) := by decide +kernel
theorem dX5_addSound_13 : decode cX5_addSound 13 = .ok (.getfield 24, 3) := by decide +kernel
theorem dX5_addSound_16 : decode cX5_addSound 16 = .ok (.aload_n 0, 1) := by decide +kernel
theorem dX5_addSound_17 : decode cX5_addSound 17 = .ok (.getfield 34, 3) := by decide +kernel
theorem dX5_addSound_20 : decode cX5_addSound 20 = .ok (.iload_n 2, 1) := by decide +kernel
theorem dX5_addSound_21 : decode cX5_addSound 21 = .ok (.invokestatic 50, 3) := by decide +kernel
theorem dX5_addSound_24 : decode cX5_addSound 24 = .ok (.aload_n 0, 1) := by decide +kernel
theorem dX5_addSound_25 : decode cX5_addSound 25 = .ok (.getfield 27, 3) := by decide +kernel
theorem dX5_addSound_28 : decode cX5_addSound 28 = .ok (.aload_n 0, 1) := by decide +kernel
theorem dX5_addSound_29 : decode cX5_addSound 29 = .ok (.getfield 34, 3) := by decide +kernel
theorem dX5_addSound_32 : decode cX5_addSound 32 = .ok (.iload_n 3, 1) := by decide +kernel
theorem dX5_addSound_33 : decode cX5_addSound 33 = .ok (.invokestatic 50, 3) := by decide +kernel
theorem dX5_addSound_36 : decode cX5_addSound 36 = .ok (.aload_n 0, 1) := by decide +kernel
theorem dX5_addSound_37 : decode cX5_addSound 37 = .ok (.dup, 1) := by decide +kernel
theorem dX5_addSound_38 : decode cX5_addSound 38 = .ok (.getfield 34, 3) := by decide +kernel
theorem dX5_addSound_41 : decode cX5_addSound 41 = .ok (.iconst 1, 1) := by decide +kernel
theorem dX5_addSound_42 : decode cX5_addSound 42 = .ok (.iadd, 1) := by decide +kernel
theorem dX5_addSound_43 : decode cX5_addSound 43 = .ok (.putfield 34, 3) := by decide +kernel
theorem dX5_addSound_46 : decode cX5_addSound 46 = .ok (.aload_n 0, 1) := by decide +kernel
theorem dX5_addSound_47 : decode cX5_addSound 47 = .ok (.dup, 1) := by decide +kernel
theorem dX5_addSound_48 : decode cX5_addSound 48 = .ok (.getfield 40, 3) := by decide +kernel
theorem dX5_addSound_51 : decode cX5_addSound 51 = .ok (.iconst 1, 1) := by decide +kernel
theorem dX5_addSound_52 : decode cX5_addSound 52 = .ok (.iadd, 1) := by decide +kernel
theorem dX5_addSound_53 : decode cX5_addSound 53 = .ok (.putfield 40, 3) := by decide +kernel
theorem dX5_addSound_56 : decode cX5_addSound 56 = .ok (.aload_n 0, 1) := by decide +kernel
theorem dX5_addSound_57 : decode cX5_addSound 57 = .ok (.getfield 34, 3) := by decide +kernel
theorem dX5_addSound_60 : decode cX5_addSound 60 = .ok (.iconst 1, 1) := by decide +kernel
theorem dX5_addSound_61 : decode cX5_addSound 61 = .ok (.isub, 1) := by decide +kernel
theorem dX5_addSound_62 : decode cX5_addSound 62 = .ok (.ireturn, 1) := by decide +kernel
theorem dX5_takeLast_0 : decode cX5_takeLast 0 = .ok (.aload_n 0, 1) := by decide +kernel
theorem dX5_takeLast_1 : decode cX5_takeLast 1 = .ok (.dup, 1) := by decide +kernel
theorem dX5_takeLast_2 : decode cX5_takeLast 2 = .ok (.getfield 34, 3) := by decide +kernel
theorem dX5_takeLast_5 : decode cX5_takeLast 5 = .ok (.iconst 1, 1) := by decide +kernel
theorem dX5_takeLast_6 : decode cX5_takeLast 6 = .ok (.isub, 1) := by decide +kernel
theorem dX5_takeLast_7 : decode cX5_takeLast 7 = .ok (.putfield 34, 3) := by decide +kernel
theorem dX5_takeLast_10 : decode cX5_takeLast 10 = .ok (.aload_n 0, 1) := by decide +kernel
theorem dX5_takeLast_11 : decode cX5_takeLast 11 = .ok (.dup, 1) := by decide +kernel
theorem dX5_takeLast_12 : decode cX5_takeLast 12 = .ok (.getfield 43, 3) := by decide +kernel
theorem dX5_takeLast_15 : decode cX5_takeLast 15 = .ok (.iconst 1, 1) := by decide +kernel
theorem dX5_takeLast_16 : decode cX5_takeLast 16 = .ok (.iadd, 1) := by decide +kernel
theorem dX5_takeLast_17 : decode cX5_takeLast 17 = .ok (.putfield 43, 3) := by decide +kernel
theorem dX5_takeLast_20 : decode cX5_takeLast 20 = .ok (.aload_n 0, 1) := by decide +kernel
theorem dX5_takeLast_21 : decode cX5_takeLast 21 = .ok (.getfield 27, 3) := by decide +kernel
theorem dX5_takeLast_24 : decode cX5_takeLast 24 = .ok (.aload_n 0, 1) := by decide +kernel
theorem dX5_takeLast_25 : decode cX5_takeLast 25 = .ok (.getfield 34, 3) := by decide +kernel
theorem dX5_takeLast_28 : decode cX5_takeLast 28 = .ok (.invokestatic 54, 3) := by decide +kernel
theorem dX5_takeLast_31 : decode cX5_takeLast 31 = .ok (.ireturn, 1) := by decide +kernel
theorem dX5_setKey_0 : decode cX5_setKey 0 = .ok (.aload_n 0, 1) := by decide +kernel
theorem dX5_setKey_1 : decode cX5_setKey 1 = .ok (.getfield 15, 3) := by decide +kernel
theorem dX5_setKey_4 : decode cX5_setKey 4 = .ok (.iload_n 1, 1) := by decide +kernel
theorem dX5_setKey_5 : decode cX5_setKey 5 = .ok (.invokestatic 54, 3) := by decide +kernel
theorem dX5_setKey_8 : decode cX5_setKey 8 = .ok (.istore_n 3, 1) := by decide +kernel
theorem dX5_setKey_9 : decode cX5_setKey 9 = .ok (.aload_n 0, 1) := by decide +kernel
theorem dX5_setKey_10 : decode cX5_setKey 10 = .ok (.getfield 15, 3) := by decide +kernel
theorem dX5_setKey_13 : decode cX5_setKey 13 = .ok (.iload_n 1, 1) := by decide +kernel
theorem dX5_setKey_14 : decode cX5_setKey 14 = .ok (.iload_n 2, 1) := by decide +kernel
theorem dX5_setKey_15 : decode cX5_setKey 15 = .ok (.invokestatic 50, 3) := by decide +kernel
theorem dX5_setKey_18 : decode cX5_setKey 18 = .ok (.iload_n 3, 1) := by decide +kernel
theorem dX5_setKey_19 : decode cX5_setKey 19 = .ok (.ireturn, 1) := by decide +kernel
theorem dX5_setLeak_0 : decode cX5_setLeak 0 = .ok (.aload_n 0, 1) := by decide +kernel
theorem dX5_setLeak_1 : decode cX5_setLeak 1 = .ok (.getfield 18, 3) := by decide +kernel
theorem dX5_setLeak_4 : decode cX5_setLeak 4 = .ok (.iload_n 1, 1) := by decide +kernel
theorem dX5_setLeak_5 : decode cX5_setLeak 5 = .ok (.invokestatic 54, 3) := by decide +kernel
theorem dX5_setLeak_8 : decode cX5_setLeak 8 = .ok (.istore_n 3, 1) := by decide +kernel
theorem dX5_setLeak_9 : decode cX5_setLeak 9 = .ok (.aload_n 0, 1) := by decide +kernel
theorem dX5_setLeak_10 : decode cX5_setLeak 10 = .ok (.getfield 18, 3) := by decide +kernel
theorem dX5_setLeak_13 : decode cX5_setLeak 13 = .ok (.iload_n 1, 1) := by decide +kernel
theorem dX5_setLeak_14 : decode cX5_setLeak 14 = .ok (.iload_n 2, 1) := by decide +kernel
theorem dX5_setLeak_15 : decode cX5_setLeak 15 = .ok (.invokestatic 50, 3) := by decide +kernel
theorem dX5_setLeak_18 : decode cX5_setLeak 18 = .ok (.iload_n 3, 1) := by decide +kernel
theorem dX5_setLeak_19 : decode cX5_setLeak 19 = .ok (.ireturn, 1) := by decide +kernel
theorem dX5_setHeight_0 : decode cX5_setHeight 0 = .ok (.aload_n 0, 1) := by decide +kernel
theorem dX5_setHeight_1 : decode cX5_setHeight 1 = .ok (.getfield 24, 3) := by decide +kernel
theorem dX5_setHeight_4 : decode cX5_setHeight 4 = .ok (.iload_n 1, 1) := by decide +kernel
theorem dX5_setHeight_5 : decode cX5_setHeight 5 = .ok (.invokestatic 54, 3) := by decide +kernel
theorem dX5_setHeight_8 : decode cX5_setHeight 8 = .ok (.istore_n 3, 1) := by decide +kernel
theorem dX5_setHeight_9 : decode cX5_setHeight 9 = .ok (.aload_n 0, 1) := by decide +kernel
theorem dX5_setHeight_10 : decode cX5_setHeight 10 = .ok (.getfield 24, 3) := by decide +kernel
theorem dX5_setHeight_13 : decode cX5_setHeight 13 = .ok (.iload_n 1, 1) := by decide +kernel
theorem dX5_setHeight_14 : decode cX5_setHeight 14 = .ok (.iload_n 2, 1) := by decide +kernel
theorem dX5_setHeight_15 : decode cX5_setHeight 15 = .ok (.invokestatic 50, 3) := by decide +kernel
theorem dX5_setHeight_18 : decode cX5_setHeight 18 = .ok (.iload_n 3, 1) := by decide +kernel
theorem dX5_setHeight_19 : decode cX5_setHeight 19 = .ok (.ireturn, 1) := by decide +kernel
theorem dX5_setFarthest_0 : decode cX5_setFarthest 0 = .ok (.aload_n 0, 1) := by decide +kernel
theorem dX5_setFarthest_1 : decode cX5_setFarthest 1 = .ok (.getfield 37, 3) := by decide +kernel
theorem dX5_setFarthest_4 : decode cX5_setFarthest 4 = .ok (.istore_n 2, 1) := by decide +kernel
theorem dX5_setFarthest_5 : decode cX5_setFarthest 5 = .ok (.aload_n 0, 1) := by decide +kernel
theorem dX5_setFarthest_6 : decode cX5_setFarthest 6 = .ok (.iload_n 1, 1) := by decide +kernel
theorem dX5_setFarthest_7 : decode cX5_setFarthest 7 = .ok (.putfield 37, 3) := by decide +kernel
theorem dX5_setFarthest_10 : decode cX5_setFarthest 10 = .ok (.iload_n 2, 1) := by decide +kernel
theorem dX5_setFarthest_11 : decode cX5_setFarthest 11 = .ok (.ireturn, 1) := by decide +kernel
theorem dX5_countOfBars_0 : decode cX5_countOfBars 0 = .ok (.aload_n 0, 1) := by decide +kernel
theorem dX5_countOfBars_1 : decode cX5_countOfBars 1 = .ok (.getfield 30, 3) := by decide +kernel
theorem dX5_countOfBars_4 : decode cX5_countOfBars 4 = .ok (.ireturn, 1) := by decide +kernel
theorem dX5_countOfSounds_0 : decode cX5_countOfSounds 0 = .ok (.aload_n 0, 1) := by decide +kernel
theorem dX5_countOfSounds_1 : decode cX5_countOfSounds 1 = .ok (.getfield 34, 3) := by decide +kernel
theorem dX5_countOfSounds_4 : decode cX5_countOfSounds 4 = .ok (.ireturn, 1) := by decide +kernel
theorem dX5_limitNow_0 : decode cX5_limitNow 0 = .ok (.aload_n 0, 1) := by decide +kernel
theorem dX5_limitNow_1 : decode cX5_limitNow 1 = .ok (.getfield 37, 3) := by decide +kernel
theorem dX5_limitNow_4 : decode cX5_limitNow 4 = .ok (.ireturn, 1) := by decide +kernel
theorem dX5_setSoFar_0 : decode cX5_setSoFar 0 = .ok (.aload_n 0, 1) := by decide +kernel
theorem dX5_setSoFar_1 : decode cX5_setSoFar 1 = .ok (.getfield 40, 3) := by decide +kernel
theorem dX5_setSoFar_4 : decode cX5_setSoFar 4 = .ok (.ireturn, 1) := by decide +kernel
theorem dX5_takenSoFar_0 : decode cX5_takenSoFar 0 = .ok (.aload_n 0, 1) := by decide +kernel
theorem dX5_takenSoFar_1 : decode cX5_takenSoFar 1 = .ok (.getfield 43, 3) := by decide +kernel
theorem dX5_takenSoFar_4 : decode cX5_takenSoFar 4 = .ok (.ireturn, 1) := by decide +kernel
theorem dX5_hasBar_0 : decode cX5_hasBar 0 = .ok (.iload_n 1, 1) := by decide +kernel
theorem dX5_hasBar_1 : decode cX5_hasBar 1 = .ok (.iconst 0, 1) := by decide +kernel
theorem dX5_hasBar_2 : decode cX5_hasBar 2 = .ok (.aload_n 0, 1) := by decide +kernel
theorem dX5_hasBar_3 : decode cX5_hasBar 3 = .ok (.getfield 30, 3) := by decide +kernel
theorem dX5_hasBar_6 : decode cX5_hasBar 6 = .ok (.iconst 1, 1) := by decide +kernel
theorem dX5_hasBar_7 : decode cX5_hasBar 7 = .ok (.isub, 1) := by decide +kernel
theorem dX5_hasBar_8 : decode cX5_hasBar 8 = .ok (.invokestatic 58, 3) := by decide +kernel
theorem dX5_hasBar_11 : decode cX5_hasBar 11 = .ok (.ireturn, 1) := by decide +kernel
theorem dX5_hasSound_0 : decode cX5_hasSound 0 = .ok (.iload_n 1, 1) := by decide +kernel
theorem dX5_hasSound_1 : decode cX5_hasSound 1 = .ok (.iconst 0, 1) := by decide +kernel
theorem dX5_hasSound_2 : decode cX5_hasSound 2 = .ok (.aload_n 0, 1) := by decide +kernel
theorem dX5_hasSound_3 : decode cX5_hasSound 3 = .ok (.getfield 34, 3) := by decide +kernel
theorem dX5_hasSound_6 : decode cX5_hasSound 6 = .ok (.iconst 1, 1) := by decide +kernel
theorem dX5_hasSound_7 : decode cX5_hasSound 7 = .ok (.isub, 1) := by decide +kernel
theorem dX5_hasSound_8 : decode cX5_hasSound 8 = .ok (.invokestatic 58, 3) := by decide +kernel
theorem dX5_hasSound_11 : decode cX5_hasSound 11 = .ok (.ireturn, 1) := by decide +kernel
theorem dX5_keyOf_0 : decode cX5_keyOf 0 = .ok (.aload_n 0, 1) := by decide +kernel
theorem dX5_keyOf_1 : decode cX5_keyOf 1 = .ok (.getfield 15, 3) := by decide +kernel
theorem dX5_keyOf_4 : decode cX5_keyOf 4 = .ok (.iload_n 1, 1) := by decide +kernel
theorem dX5_keyOf_5 : decode cX5_keyOf 5 = .ok (.invokestatic 54, 3) := by decide +kernel
theorem dX5_keyOf_8 : decode cX5_keyOf 8 = .ok (.ireturn, 1) := by decide +kernel
theorem dX5_leakOf_0 : decode cX5_leakOf 0 = .ok (.aload_n 0, 1) := by decide +kernel
theorem dX5_leakOf_1 : decode cX5_leakOf 1 = .ok (.getfield 18, 3) := by decide +kernel
theorem dX5_leakOf_4 : decode cX5_leakOf 4 = .ok (.iload_n 1, 1) := by decide +kernel
theorem dX5_leakOf_5 : decode cX5_leakOf 5 = .ok (.invokestatic 54, 3) := by decide +kernel
theorem dX5_leakOf_8 : decode cX5_leakOf 8 = .ok (.ireturn, 1) := by decide +kernel
theorem dX5_sizeOf_0 : decode cX5_sizeOf 0 = .ok (.aload_n 0, 1) := by decide +kernel
theorem dX5_sizeOf_1 : decode cX5_sizeOf 1 = .ok (.getfield 9, 3) := by decide +kernel
theorem dX5_sizeOf_4 : decode cX5_sizeOf 4 = .ok (.iload_n 1, 1) := by decide +kernel
theorem dX5_sizeOf_5 : decode cX5_sizeOf 5 = .ok (.invokestatic 54, 3) := by decide +kernel
theorem dX5_sizeOf_8 : decode cX5_sizeOf 8 = .ok (.ireturn, 1) := by decide +kernel
theorem dX5_tinOfSound_0 : decode cX5_tinOfSound 0 = .ok (.aload_n 0, 1) := by decide +kernel
theorem dX5_tinOfSound_1 : decode cX5_tinOfSound 1 = .ok (.getfield 21, 3) := by decide +kernel
theorem dX5_tinOfSound_4 : decode cX5_tinOfSound 4 = .ok (.iload_n 1, 1) := by decide +kernel
theorem dX5_tinOfSound_5 : decode cX5_tinOfSound 5 = .ok (.invokestatic 54, 3) := by decide +kernel
theorem dX5_tinOfSound_8 : decode cX5_tinOfSound 8 = .ok (.ireturn, 1) := by decide +kernel
theorem dX5_heightOf_0 : decode cX5_heightOf 0 = .ok (.aload_n 0, 1) := by decide +kernel
theorem dX5_heightOf_1 : decode cX5_heightOf 1 = .ok (.getfield 24, 3) := by decide +kernel
theorem dX5_heightOf_4 : decode cX5_heightOf 4 = .ok (.iload_n 1, 1) := by decide +kernel
theorem dX5_heightOf_5 : decode cX5_heightOf 5 = .ok (.invokestatic 54, 3) := by decide +kernel
theorem dX5_heightOf_8 : decode cX5_heightOf 8 = .ok (.ireturn, 1) := by decide +kernel
theorem dX5_beatsOf_0 : decode cX5_beatsOf 0 = .ok (.aload_n 0, 1) := by decide +kernel
theorem dX5_beatsOf_1 : decode cX5_beatsOf 1 = .ok (.getfield 27, 3) := by decide +kernel
theorem dX5_beatsOf_4 : decode cX5_beatsOf 4 = .ok (.iload_n 1, 1) := by decide +kernel
theorem dX5_beatsOf_5 : decode cX5_beatsOf 5 = .ok (.invokestatic 54, 3) := by decide +kernel
theorem dX5_beatsOf_8 : decode cX5_beatsOf 8 = .ok (.ireturn, 1) := by decide +kernel
theorem dX5_isRest_0 : decode cX5_isRest 0 = .ok (.aload_n 0, 1) := by decide +kernel
theorem dX5_isRest_1 : decode cX5_isRest 1 = .ok (.getfield 24, 3) := by decide +kernel
theorem dX5_isRest_4 : decode cX5_isRest 4 = .ok (.iload_n 1, 1) := by decide +kernel
theorem dX5_isRest_5 : decode cX5_isRest 5 = .ok (.invokestatic 54, 3) := by decide +kernel
theorem dX5_isRest_8 : decode cX5_isRest 8 = .ok (.iconst (-1), 1) := by decide +kernel
theorem dX5_isRest_9 : decode cX5_isRest 9 = .ok (.if_icmp .ne 7, 3) := by decide +kernel
theorem dX5_isRest_12 : decode cX5_isRest 12 = .ok (.iconst 1, 1) := by decide +kernel
theorem dX5_isRest_13 : decode cX5_isRest 13 = .ok (.goto 4, 3) := by decide +kernel
theorem dX5_isRest_16 : decode cX5_isRest 16 = .ok (.iconst 0, 1) := by decide +kernel
theorem dX5_isRest_17 : decode cX5_isRest 17 = .ok (.ireturn, 1) := by decide +kernel
theorem dX5_pitchOf_0 : decode cX5_pitchOf 0 = .ok (.aload_n 0, 1) := by decide +kernel
theorem dX5_pitchOf_1 : decode cX5_pitchOf 1 = .ok (.getfield 24, 3) := by decide +kernel
theorem dX5_pitchOf_4 : decode cX5_pitchOf 4 = .ok (.iload_n 1, 1) := by decide +kernel
theorem dX5_pitchOf_5 : decode cX5_pitchOf 5 = .ok (.invokestatic 54, 3) := by decide +kernel
theorem dX5_pitchOf_8 : decode cX5_pitchOf 8 = .ok (.istore_n 2, 1) := by decide +kernel
theorem dX5_pitchOf_9 : decode cX5_pitchOf 9 = .ok (.iload_n 2, 1) := by decide +kernel
theorem dX5_pitchOf_10 : decode cX5_pitchOf 10 = .ok (.iconst (-1), 1) := by decide +kernel
theorem dX5_pitchOf_11 : decode cX5_pitchOf 11 = .ok (.if_icmp .ne 5, 3) := by decide +kernel
theorem dX5_pitchOf_14 : decode cX5_pitchOf 14 = .ok (.iconst (-1), 1) := by decide +kernel
theorem dX5_pitchOf_15 : decode cX5_pitchOf 15 = .ok (.ireturn, 1) := by decide +kernel
theorem dX5_pitchOf_16 : decode cX5_pitchOf 16 = .ok (.aload_n 0, 1) := by decide +kernel
theorem dX5_pitchOf_17 : decode cX5_pitchOf 17 = .ok (.getfield 15, 3) := by decide +kernel
theorem dX5_pitchOf_20 : decode cX5_pitchOf 20 = .ok (.aload_n 0, 1) := by decide +kernel
theorem dX5_pitchOf_21 : decode cX5_pitchOf 21 = .ok (.getfield 21, 3) := by decide +kernel
theorem dX5_pitchOf_24 : decode cX5_pitchOf 24 = .ok (.iload_n 1, 1) := by decide +kernel
theorem dX5_pitchOf_25 : decode cX5_pitchOf 25 = .ok (.invokestatic 54, 3) := by decide +kernel
theorem dX5_pitchOf_28 : decode cX5_pitchOf 28 = .ok (.invokestatic 54, 3) := by decide +kernel
theorem dX5_pitchOf_31 : decode cX5_pitchOf 31 = .ok (.iload_n 2, 1) := by decide +kernel
theorem dX5_pitchOf_32 : decode cX5_pitchOf 32 = .ok (.iadd, 1) := by decide +kernel
theorem dX5_pitchOf_33 : decode cX5_pitchOf 33 = .ok (.istore_n 3, 1) := by decide +kernel
theorem dX5_pitchOf_34 : decode cX5_pitchOf 34 = .ok (.iload_n 3, 1) := by decide +kernel
theorem dX5_pitchOf_35 : decode cX5_pitchOf 35 = .ok (.bipush 12, 2) := by decide +kernel
theorem dX5_pitchOf_37 : decode cX5_pitchOf 37 = .ok (.if_icmp .lt 10, 3) := by decide +kernel
theorem dX5_pitchOf_40 : decode cX5_pitchOf 40 = .ok (.iload_n 3, 1) := by decide +kernel
theorem dX5_pitchOf_41 : decode cX5_pitchOf 41 = .ok (.bipush 12, 2) := by decide +kernel
theorem dX5_pitchOf_43 : decode cX5_pitchOf 43 = .ok (.isub, 1) := by decide +kernel
theorem dX5_pitchOf_44 : decode cX5_pitchOf 44 = .ok (.goto 4, 3) := by decide +kernel
theorem dX5_pitchOf_47 : decode cX5_pitchOf 47 = .ok (.iload_n 3, 1) := by decide +kernel
theorem dX5_pitchOf_48 : decode cX5_pitchOf 48 = .ok (.ireturn, 1) := by decide +kernel
theorem dX5_dropAhead_0 : decode cX5_dropAhead 0 = .ok (.iload_n 1, 1) := by decide +kernel
theorem dX5_dropAhead_1 : decode cX5_dropAhead 1 = .ok (.iconst 1, 1) := by decide +kernel
theorem dX5_dropAhead_2 : decode cX5_dropAhead 2 = .ok (.isub, 1) := by decide +kernel
theorem dX5_dropAhead_3 : decode cX5_dropAhead 3 = .ok (.istore_n 2, 1) := by decide +kernel
theorem dX5_dropAhead_4 : decode cX5_dropAhead 4 = .ok (.iload_n 2, 1) := by decide +kernel
theorem dX5_dropAhead_5 : decode cX5_dropAhead 5 = .ok (.ifCond .lt 23, 3) := by decide +kernel
theorem dX5_dropAhead_8 : decode cX5_dropAhead 8 = .ok (.aload_n 0, 1) := by decide +kernel
theorem dX5_dropAhead_9 : decode cX5_dropAhead 9 = .ok (.getfield 24, 3) := by decide +kernel
theorem dX5_dropAhead_12 : decode cX5_dropAhead 12 = .ok (.iload_n 2, 1) := by decide +kernel
theorem dX5_dropAhead_13 : decode cX5_dropAhead 13 = .ok (.invokestatic 54, 3) := by decide +kernel
theorem dX5_dropAhead_16 : decode cX5_dropAhead 16 = .ok (.iconst (-1), 1) := by decide +kernel
theorem dX5_dropAhead_17 : decode cX5_dropAhead 17 = .ok (.if_icmp .eq 5, 3) := by decide +kernel
theorem dX5_dropAhead_20 : decode cX5_dropAhead 20 = .ok (.iload_n 2, 1) := by decide +kernel
theorem dX5_dropAhead_21 : decode cX5_dropAhead 21 = .ok (.ireturn, 1) := by decide +kernel
theorem dX5_dropAhead_22 : decode cX5_dropAhead 22 = .ok (.iinc 2 (-1), 3) := by decide +kernel
theorem dX5_dropAhead_25 : decode cX5_dropAhead 25 = .ok (.goto (-21), 3) := by decide +kernel
theorem dX5_dropAhead_28 : decode cX5_dropAhead 28 = .ok (.iconst (-1), 1) := by decide +kernel
theorem dX5_dropAhead_29 : decode cX5_dropAhead 29 = .ok (.ireturn, 1) := by decide +kernel
theorem dX5_countOfRests_0 : decode cX5_countOfRests 0 = .ok (.iconst 0, 1) := by decide +kernel
theorem dX5_countOfRests_1 : decode cX5_countOfRests 1 = .ok (.istore_n 1, 1) := by decide +kernel
theorem dX5_countOfRests_2 : decode cX5_countOfRests 2 = .ok (.iconst 0, 1) := by decide +kernel
theorem dX5_countOfRests_3 : decode cX5_countOfRests 3 = .ok (.istore_n 2, 1) := by decide +kernel
theorem dX5_countOfRests_4 : decode cX5_countOfRests 4 = .ok (.iload_n 2, 1) := by decide +kernel
theorem dX5_countOfRests_5 : decode cX5_countOfRests 5 = .ok (.aload_n 0, 1) := by decide +kernel
theorem dX5_countOfRests_6 : decode cX5_countOfRests 6 = .ok (.getfield 34, 3) := by decide +kernel
theorem dX5_countOfRests_9 : decode cX5_countOfRests 9 = .ok (.if_icmp .ge 25, 3) := by decide +kernel
theorem dX5_countOfRests_12 : decode cX5_countOfRests 12 = .ok (.iload_n 1, 1) := by decide +kernel
theorem dX5_countOfRests_13 : decode cX5_countOfRests 13 = .ok (.aload_n 0, 1) := by decide +kernel
theorem dX5_countOfRests_14 : decode cX5_countOfRests 14 = .ok (.iload_n 2, 1) := by decide +kernel
theorem dX5_countOfRests_15 : decode cX5_countOfRests 15 = .ok (.invokevirtual 62, 3) := by decide +kernel
theorem dX5_countOfRests_18 : decode cX5_countOfRests 18 = .ok (.ifCond .eq 7, 3) := by decide +kernel
theorem dX5_countOfRests_21 : decode cX5_countOfRests 21 = .ok (.iconst 1, 1) := by decide +kernel
theorem dX5_countOfRests_22 : decode cX5_countOfRests 22 = .ok (.goto 4, 3) := by decide +kernel
theorem dX5_countOfRests_25 : decode cX5_countOfRests 25 = .ok (.iconst 0, 1) := by decide +kernel
theorem dX5_countOfRests_26 : decode cX5_countOfRests 26 = .ok (.iadd, 1) := by decide +kernel
theorem dX5_countOfRests_27 : decode cX5_countOfRests 27 = .ok (.istore_n 1, 1) := by decide +kernel
theorem dX5_countOfRests_28 : decode cX5_countOfRests 28 = .ok (.iinc 2 1, 3) := by decide +kernel
theorem dX5_countOfRests_31 : decode cX5_countOfRests 31 = .ok (.goto (-27), 3) := by decide +kernel
theorem dX5_countOfRests_34 : decode cX5_countOfRests 34 = .ok (.iload_n 1, 1) := by decide +kernel
theorem dX5_countOfRests_35 : decode cX5_countOfRests 35 = .ok (.ireturn, 1) := by decide +kernel
theorem dX5_countOfTin_0 : decode cX5_countOfTin 0 = .ok (.iconst 0, 1) := by decide +kernel
theorem dX5_countOfTin_1 : decode cX5_countOfTin 1 = .ok (.istore_n 3, 1) := by decide +kernel
theorem dX5_countOfTin_2 : decode cX5_countOfTin 2 = .ok (.iconst 0, 1) := by decide +kernel
theorem dX5_countOfTin_3 : decode cX5_countOfTin 3 = .ok (.istore 4, 2) := by decide +kernel
theorem dX5_countOfTin_5 : decode cX5_countOfTin 5 = .ok (.iload 4, 2) := by decide +kernel
theorem dX5_countOfTin_7 : decode cX5_countOfTin 7 = .ok (.aload_n 0, 1) := by decide +kernel
theorem dX5_countOfTin_8 : decode cX5_countOfTin 8 = .ok (.getfield 34, 3) := by decide +kernel
theorem dX5_countOfTin_11 : decode cX5_countOfTin 11 = .ok (.if_icmp .ge 40, 3) := by decide +kernel
theorem dX5_countOfTin_14 : decode cX5_countOfTin 14 = .ok (.iload_n 3, 1) := by decide +kernel
theorem dX5_countOfTin_15 : decode cX5_countOfTin 15 = .ok (.aload_n 0, 1) := by decide +kernel
theorem dX5_countOfTin_16 : decode cX5_countOfTin 16 = .ok (.getfield 21, 3) := by decide +kernel
theorem dX5_countOfTin_19 : decode cX5_countOfTin 19 = .ok (.iload 4, 2) := by decide +kernel
theorem dX5_countOfTin_21 : decode cX5_countOfTin 21 = .ok (.invokestatic 54, 3) := by decide +kernel
theorem dX5_countOfTin_24 : decode cX5_countOfTin 24 = .ok (.iload_n 1, 1) := by decide +kernel
theorem dX5_countOfTin_25 : decode cX5_countOfTin 25 = .ok (.if_icmp .ne 17, 3) := by decide +kernel
theorem dX5_countOfTin_28 : decode cX5_countOfTin 28 = .ok (.aload_n 0, 1) := by decide +kernel
theorem dX5_countOfTin_29 : decode cX5_countOfTin 29 = .ok (.iload 4, 2) := by decide +kernel
theorem dX5_countOfTin_31 : decode cX5_countOfTin 31 = .ok (.invokevirtual 62, 3) := by decide +kernel
theorem dX5_countOfTin_34 : decode cX5_countOfTin 34 = .ok (.iload_n 2, 1) := by decide +kernel
theorem dX5_countOfTin_35 : decode cX5_countOfTin 35 = .ok (.if_icmp .ne 7, 3) := by decide +kernel
theorem dX5_countOfTin_38 : decode cX5_countOfTin 38 = .ok (.iconst 1, 1) := by decide +kernel
theorem dX5_countOfTin_39 : decode cX5_countOfTin 39 = .ok (.goto 4, 3) := by decide +kernel
theorem dX5_countOfTin_42 : decode cX5_countOfTin 42 = .ok (.iconst 0, 1) := by decide +kernel
theorem dX5_countOfTin_43 : decode cX5_countOfTin 43 = .ok (.iadd, 1) := by decide +kernel
theorem dX5_countOfTin_44 : decode cX5_countOfTin 44 = .ok (.istore_n 3, 1) := by decide +kernel
theorem dX5_countOfTin_45 : decode cX5_countOfTin 45 = .ok (.iinc 4 1, 3) := by decide +kernel
theorem dX5_countOfTin_48 : decode cX5_countOfTin 48 = .ok (.goto (-43), 3) := by decide +kernel
theorem dX5_countOfTin_51 : decode cX5_countOfTin 51 = .ok (.iload_n 3, 1) := by decide +kernel
theorem dX5_countOfTin_52 : decode cX5_countOfTin 52 = .ok (.ireturn, 1) := by decide +kernel
theorem dX5_beatsOfTin_0 : decode cX5_beatsOfTin 0 = .ok (.iconst 0, 1) := by decide +kernel
theorem dX5_beatsOfTin_1 : decode cX5_beatsOfTin 1 = .ok (.istore_n 2, 1) := by decide +kernel
theorem dX5_beatsOfTin_2 : decode cX5_beatsOfTin 2 = .ok (.iconst 0, 1) := by decide +kernel
theorem dX5_beatsOfTin_3 : decode cX5_beatsOfTin 3 = .ok (.istore_n 3, 1) := by decide +kernel
theorem dX5_beatsOfTin_4 : decode cX5_beatsOfTin 4 = .ok (.iload_n 3, 1) := by decide +kernel
theorem dX5_beatsOfTin_5 : decode cX5_beatsOfTin 5 = .ok (.aload_n 0, 1) := by decide +kernel
theorem dX5_beatsOfTin_6 : decode cX5_beatsOfTin 6 = .ok (.getfield 34, 3) := by decide +kernel
theorem dX5_beatsOfTin_9 : decode cX5_beatsOfTin 9 = .ok (.if_icmp .ge 36, 3) := by decide +kernel
theorem dX5_beatsOfTin_12 : decode cX5_beatsOfTin 12 = .ok (.iload_n 2, 1) := by decide +kernel
theorem dX5_beatsOfTin_13 : decode cX5_beatsOfTin 13 = .ok (.aload_n 0, 1) := by decide +kernel
theorem dX5_beatsOfTin_14 : decode cX5_beatsOfTin 14 = .ok (.getfield 21, 3) := by decide +kernel
theorem dX5_beatsOfTin_17 : decode cX5_beatsOfTin 17 = .ok (.iload_n 3, 1) := by decide +kernel
theorem dX5_beatsOfTin_18 : decode cX5_beatsOfTin 18 = .ok (.invokestatic 54, 3) := by decide +kernel
theorem dX5_beatsOfTin_21 : decode cX5_beatsOfTin 21 = .ok (.iload_n 1, 1) := by decide +kernel
theorem dX5_beatsOfTin_22 : decode cX5_beatsOfTin 22 = .ok (.if_icmp .ne 14, 3) := by decide +kernel
theorem dX5_beatsOfTin_25 : decode cX5_beatsOfTin 25 = .ok (.aload_n 0, 1) := by decide +kernel
theorem dX5_beatsOfTin_26 : decode cX5_beatsOfTin 26 = .ok (.getfield 27, 3) := by decide +kernel
theorem dX5_beatsOfTin_29 : decode cX5_beatsOfTin 29 = .ok (.iload_n 3, 1) := by decide +kernel
theorem dX5_beatsOfTin_30 : decode cX5_beatsOfTin 30 = .ok (.invokestatic 54, 3) := by decide +kernel
theorem dX5_beatsOfTin_33 : decode cX5_beatsOfTin 33 = .ok (.goto 4, 3) := by decide +kernel
theorem dX5_beatsOfTin_36 : decode cX5_beatsOfTin 36 = .ok (.iconst 0, 1) := by decide +kernel
theorem dX5_beatsOfTin_37 : decode cX5_beatsOfTin 37 = .ok (.iadd, 1) := by decide +kernel
theorem dX5_beatsOfTin_38 : decode cX5_beatsOfTin 38 = .ok (.istore_n 2, 1) := by decide +kernel
theorem dX5_beatsOfTin_39 : decode cX5_beatsOfTin 39 = .ok (.iinc 3 1, 3) := by decide +kernel
theorem dX5_beatsOfTin_42 : decode cX5_beatsOfTin 42 = .ok (.goto (-38), 3) := by decide +kernel
theorem dX5_beatsOfTin_45 : decode cX5_beatsOfTin 45 = .ok (.iload_n 2, 1) := by decide +kernel
theorem dX5_beatsOfTin_46 : decode cX5_beatsOfTin 46 = .ok (.ireturn, 1) := by decide +kernel
theorem dX5_startOfBar_0 : decode cX5_startOfBar 0 = .ok (.iconst 0, 1) := by decide +kernel
theorem dX5_startOfBar_1 : decode cX5_startOfBar 1 = .ok (.istore_n 2, 1) := by decide +kernel
theorem dX5_startOfBar_2 : decode cX5_startOfBar 2 = .ok (.iconst 0, 1) := by decide +kernel
theorem dX5_startOfBar_3 : decode cX5_startOfBar 3 = .ok (.istore_n 3, 1) := by decide +kernel
theorem dX5_startOfBar_4 : decode cX5_startOfBar 4 = .ok (.iload_n 3, 1) := by decide +kernel
theorem dX5_startOfBar_5 : decode cX5_startOfBar 5 = .ok (.iload_n 1, 1) := by decide +kernel
theorem dX5_startOfBar_6 : decode cX5_startOfBar 6 = .ok (.if_icmp .ge 27, 3) := by decide +kernel
theorem dX5_startOfBar_9 : decode cX5_startOfBar 9 = .ok (.iload_n 3, 1) := by decide +kernel
theorem dX5_startOfBar_10 : decode cX5_startOfBar 10 = .ok (.aload_n 0, 1) := by decide +kernel
theorem dX5_startOfBar_11 : decode cX5_startOfBar 11 = .ok (.getfield 9, 3) := by decide +kernel
theorem dX5_startOfBar_14 : decode cX5_startOfBar 14 = .ok (.arraylength, 1) := by decide +kernel
theorem dX5_startOfBar_15 : decode cX5_startOfBar 15 = .ok (.if_icmp .ge 18, 3) := by decide +kernel
theorem dX5_startOfBar_18 : decode cX5_startOfBar 18 = .ok (.iload_n 2, 1) := by decide +kernel
theorem dX5_startOfBar_19 : decode cX5_startOfBar 19 = .ok (.aload_n 0, 1) := by decide +kernel
theorem dX5_startOfBar_20 : decode cX5_startOfBar 20 = .ok (.getfield 9, 3) := by decide +kernel
theorem dX5_startOfBar_23 : decode cX5_startOfBar 23 = .ok (.iload_n 3, 1) := by decide +kernel
theorem dX5_startOfBar_24 : decode cX5_startOfBar 24 = .ok (.iaload, 1) := by decide +kernel
theorem dX5_startOfBar_25 : decode cX5_startOfBar 25 = .ok (.iadd, 1) := by decide +kernel
theorem dX5_startOfBar_26 : decode cX5_startOfBar 26 = .ok (.istore_n 2, 1) := by decide +kernel
theorem dX5_startOfBar_27 : decode cX5_startOfBar 27 = .ok (.iinc 3 1, 3) := by decide +kernel
theorem dX5_startOfBar_30 : decode cX5_startOfBar 30 = .ok (.goto (-26), 3) := by decide +kernel
theorem dX5_startOfBar_33 : decode cX5_startOfBar 33 = .ok (.iload_n 2, 1) := by decide +kernel
theorem dX5_startOfBar_34 : decode cX5_startOfBar 34 = .ok (.ireturn, 1) := by decide +kernel
theorem dX5_startOfSound_0 : decode cX5_startOfSound 0 = .ok (.iconst 0, 1) := by decide +kernel
theorem dX5_startOfSound_1 : decode cX5_startOfSound 1 = .ok (.istore_n 2, 1) := by decide +kernel
theorem dX5_startOfSound_2 : decode cX5_startOfSound 2 = .ok (.iconst 0, 1) := by decide +kernel
theorem dX5_startOfSound_3 : decode cX5_startOfSound 3 = .ok (.istore_n 3, 1) := by decide +kernel
theorem dX5_startOfSound_4 : decode cX5_startOfSound 4 = .ok (.iload_n 3, 1) := by decide +kernel
theorem dX5_startOfSound_5 : decode cX5_startOfSound 5 = .ok (.iload_n 1, 1) := by decide +kernel
theorem dX5_startOfSound_6 : decode cX5_startOfSound 6 = .ok (.if_icmp .ge 27, 3) := by decide +kernel
theorem dX5_startOfSound_9 : decode cX5_startOfSound 9 = .ok (.iload_n 3, 1) := by decide +kernel
theorem dX5_startOfSound_10 : decode cX5_startOfSound 10 = .ok (.aload_n 0, 1) := by decide +kernel
theorem dX5_startOfSound_11 : decode cX5_startOfSound 11 = .ok (.getfield 27, 3) := by decide +kernel
theorem dX5_startOfSound_14 : decode cX5_startOfSound 14 = .ok (.arraylength, 1) := by decide +kernel
theorem dX5_startOfSound_15 : decode cX5_startOfSound 15 = .ok (.if_icmp .ge 18, 3) := by decide +kernel
theorem dX5_startOfSound_18 : decode cX5_startOfSound 18 = .ok (.iload_n 2, 1) := by decide +kernel
theorem dX5_startOfSound_19 : decode cX5_startOfSound 19 = .ok (.aload_n 0, 1) := by decide +kernel
theorem dX5_startOfSound_20 : decode cX5_startOfSound 20 = .ok (.getfield 27, 3) := by decide +kernel
theorem dX5_startOfSound_23 : decode cX5_startOfSound 23 = .ok (.iload_n 3, 1) := by decide +kernel
theorem dX5_startOfSound_24 : decode cX5_startOfSound 24 = .ok (.iaload, 1) := by decide +kernel
theorem dX5_startOfSound_25 : decode cX5_startOfSound 25 = .ok (.iadd, 1) := by decide +kernel
theorem dX5_startOfSound_26 : decode cX5_startOfSound 26 = .ok (.istore_n 2, 1) := by decide +kernel
theorem dX5_startOfSound_27 : decode cX5_startOfSound 27 = .ok (.iinc 3 1, 3) := by decide +kernel
theorem dX5_startOfSound_30 : decode cX5_startOfSound 30 = .ok (.goto (-26), 3) := by decide +kernel
theorem dX5_startOfSound_33 : decode cX5_startOfSound 33 = .ok (.iload_n 2, 1) := by decide +kernel
theorem dX5_startOfSound_34 : decode cX5_startOfSound 34 = .ok (.ireturn, 1) := by decide +kernel
theorem dX5_allBeats_0 : decode cX5_allBeats 0 = .ok (.aload_n 0, 1) := by decide +kernel
theorem dX5_allBeats_1 : decode cX5_allBeats 1 = .ok (.aload_n 0, 1) := by decide +kernel
theorem dX5_allBeats_2 : decode cX5_allBeats 2 = .ok (.getfield 30, 3) := by decide +kernel
theorem dX5_allBeats_5 : decode cX5_allBeats 5 = .ok (.invokevirtual 66, 3) := by decide +kernel
theorem dX5_allBeats_8 : decode cX5_allBeats 8 = .ok (.ireturn, 1) := by decide +kernel
theorem dX5_filledBeats_0 : decode cX5_filledBeats 0 = .ok (.aload_n 0, 1) := by decide +kernel
theorem dX5_filledBeats_1 : decode cX5_filledBeats 1 = .ok (.aload_n 0, 1) := by decide +kernel
theorem dX5_filledBeats_2 : decode cX5_filledBeats 2 = .ok (.getfield 34, 3) := by decide +kernel
theorem dX5_filledBeats_5 : decode cX5_filledBeats 5 = .ok (.invokevirtual 70, 3) := by decide +kernel
theorem dX5_filledBeats_8 : decode cX5_filledBeats 8 = .ok (.ireturn, 1) := by decide +kernel
theorem dX5_freeBeats_0 : decode cX5_freeBeats 0 = .ok (.aload_n 0, 1) := by decide +kernel
theorem dX5_freeBeats_1 : decode cX5_freeBeats 1 = .ok (.aload_n 0, 1) := by decide +kernel
theorem dX5_freeBeats_2 : decode cX5_freeBeats 2 = .ok (.getfield 30, 3) := by decide +kernel
theorem dX5_freeBeats_5 : decode cX5_freeBeats 5 = .ok (.invokevirtual 66, 3) := by decide +kernel
theorem dX5_freeBeats_8 : decode cX5_freeBeats 8 = .ok (.aload_n 0, 1) := by decide +kernel
theorem dX5_freeBeats_9 : decode cX5_freeBeats 9 = .ok (.aload_n 0, 1) := by decide +kernel
theorem dX5_freeBeats_10 : decode cX5_freeBeats 10 = .ok (.getfield 34, 3) := by decide +kernel
theorem dX5_freeBeats_13 : decode cX5_freeBeats 13 = .ok (.invokevirtual 70, 3) := by decide +kernel
theorem dX5_freeBeats_16 : decode cX5_freeBeats 16 = .ok (.isub, 1) := by decide +kernel
theorem dX5_freeBeats_17 : decode cX5_freeBeats 17 = .ok (.ireturn, 1) := by decide +kernel
theorem dX5_barAt_0 : decode cX5_barAt 0 = .ok (.iconst 0, 1) := by decide +kernel
theorem dX5_barAt_1 : decode cX5_barAt 1 = .ok (.istore_n 2, 1) := by decide +kernel
theorem dX5_barAt_2 : decode cX5_barAt 2 = .ok (.iconst 0, 1) := by decide +kernel
theorem dX5_barAt_3 : decode cX5_barAt 3 = .ok (.istore_n 3, 1) := by decide +kernel
theorem dX5_barAt_4 : decode cX5_barAt 4 = .ok (.iload_n 3, 1) := by decide +kernel
theorem dX5_barAt_5 : decode cX5_barAt 5 = .ok (.aload_n 0, 1) := by decide +kernel
theorem dX5_barAt_6 : decode cX5_barAt 6 = .ok (.getfield 30, 3) := by decide +kernel
theorem dX5_barAt_9 : decode cX5_barAt 9 = .ok (.if_icmp .ge 31, 3) := by decide +kernel
theorem dX5_barAt_12 : decode cX5_barAt 12 = .ok (.iload_n 2, 1) := by decide +kernel
theorem dX5_barAt_13 : decode cX5_barAt 13 = .ok (.aload_n 0, 1) := by decide +kernel
theorem dX5_barAt_14 : decode cX5_barAt 14 = .ok (.getfield 9, 3) := by decide +kernel
theorem dX5_barAt_17 : decode cX5_barAt 17 = .ok (.iload_n 3, 1) := by decide +kernel
theorem dX5_barAt_18 : decode cX5_barAt 18 = .ok (.invokestatic 54, 3) := by decide +kernel
theorem dX5_barAt_21 : decode cX5_barAt 21 = .ok (.iadd, 1) := by decide +kernel
theorem dX5_barAt_22 : decode cX5_barAt 22 = .ok (.istore_n 2, 1) := by decide +kernel
theorem dX5_barAt_23 : decode cX5_barAt 23 = .ok (.iload_n 1, 1) := by decide +kernel
theorem dX5_barAt_24 : decode cX5_barAt 24 = .ok (.ifCond .lt 10, 3) := by decide +kernel
theorem dX5_barAt_27 : decode cX5_barAt 27 = .ok (.iload_n 1, 1) := by decide +kernel
theorem dX5_barAt_28 : decode cX5_barAt 28 = .ok (.iload_n 2, 1) := by decide +kernel
theorem dX5_barAt_29 : decode cX5_barAt 29 = .ok (.if_icmp .ge 5, 3) := by decide +kernel
theorem dX5_barAt_32 : decode cX5_barAt 32 = .ok (.iload_n 3, 1) := by decide +kernel
theorem dX5_barAt_33 : decode cX5_barAt 33 = .ok (.ireturn, 1) := by decide +kernel
theorem dX5_barAt_34 : decode cX5_barAt 34 = .ok (.iinc 3 1, 3) := by decide +kernel
theorem dX5_barAt_37 : decode cX5_barAt 37 = .ok (.goto (-33), 3) := by decide +kernel
theorem dX5_barAt_40 : decode cX5_barAt 40 = .ok (.iconst (-1), 1) := by decide +kernel
theorem dX5_barAt_41 : decode cX5_barAt 41 = .ok (.ireturn, 1) := by decide +kernel
theorem dX5_soundAt_0 : decode cX5_soundAt 0 = .ok (.iconst 0, 1) := by decide +kernel
theorem dX5_soundAt_1 : decode cX5_soundAt 1 = .ok (.istore_n 2, 1) := by decide +kernel
theorem dX5_soundAt_2 : decode cX5_soundAt 2 = .ok (.iconst 0, 1) := by decide +kernel
theorem dX5_soundAt_3 : decode cX5_soundAt 3 = .ok (.istore_n 3, 1) := by decide +kernel
theorem dX5_soundAt_4 : decode cX5_soundAt 4 = .ok (.iload_n 3, 1) := by decide +kernel
theorem dX5_soundAt_5 : decode cX5_soundAt 5 = .ok (.aload_n 0, 1) := by decide +kernel
theorem dX5_soundAt_6 : decode cX5_soundAt 6 = .ok (.getfield 34, 3) := by decide +kernel
theorem dX5_soundAt_9 : decode cX5_soundAt 9 = .ok (.if_icmp .ge 31, 3) := by decide +kernel
theorem dX5_soundAt_12 : decode cX5_soundAt 12 = .ok (.iload_n 2, 1) := by decide +kernel
theorem dX5_soundAt_13 : decode cX5_soundAt 13 = .ok (.aload_n 0, 1) := by decide +kernel
theorem dX5_soundAt_14 : decode cX5_soundAt 14 = .ok (.getfield 27, 3) := by decide +kernel
theorem dX5_soundAt_17 : decode cX5_soundAt 17 = .ok (.iload_n 3, 1) := by decide +kernel
theorem dX5_soundAt_18 : decode cX5_soundAt 18 = .ok (.invokestatic 54, 3) := by decide +kernel
theorem dX5_soundAt_21 : decode cX5_soundAt 21 = .ok (.iadd, 1) := by decide +kernel
theorem dX5_soundAt_22 : decode cX5_soundAt 22 = .ok (.istore_n 2, 1) := by decide +kernel
theorem dX5_soundAt_23 : decode cX5_soundAt 23 = .ok (.iload_n 1, 1) := by decide +kernel
theorem dX5_soundAt_24 : decode cX5_soundAt 24 = .ok (.ifCond .lt 10, 3) := by decide +kernel
theorem dX5_soundAt_27 : decode cX5_soundAt 27 = .ok (.iload_n 1, 1) := by decide +kernel
theorem dX5_soundAt_28 : decode cX5_soundAt 28 = .ok (.iload_n 2, 1) := by decide +kernel
theorem dX5_soundAt_29 : decode cX5_soundAt 29 = .ok (.if_icmp .ge 5, 3) := by decide +kernel
theorem dX5_soundAt_32 : decode cX5_soundAt 32 = .ok (.iload_n 3, 1) := by decide +kernel
theorem dX5_soundAt_33 : decode cX5_soundAt 33 = .ok (.ireturn, 1) := by decide +kernel
theorem dX5_soundAt_34 : decode cX5_soundAt 34 = .ok (.iinc 3 1, 3) := by decide +kernel
theorem dX5_soundAt_37 : decode cX5_soundAt 37 = .ok (.goto (-33), 3) := by decide +kernel
theorem dX5_soundAt_40 : decode cX5_soundAt 40 = .ok (.iconst (-1), 1) := by decide +kernel
theorem dX5_soundAt_41 : decode cX5_soundAt 41 = .ok (.ireturn, 1) := by decide +kernel
theorem dX5_overlap_0 : decode cX5_overlap 0 = .ok (.aload_n 0, 1) := by decide +kernel
theorem dX5_overlap_1 : decode cX5_overlap 1 = .ok (.iload_n 2, 1) := by decide +kernel
theorem dX5_overlap_2 : decode cX5_overlap 2 = .ok (.invokevirtual 66, 3) := by decide +kernel
theorem dX5_overlap_5 : decode cX5_overlap 5 = .ok (.istore_n 3, 1) := by decide +kernel
theorem dX5_overlap_6 : decode cX5_overlap 6 = .ok (.aload_n 0, 1) := by decide +kernel
theorem dX5_overlap_7 : decode cX5_overlap 7 = .ok (.iload_n 1, 1) := by decide +kernel
theorem dX5_overlap_8 : decode cX5_overlap 8 = .ok (.invokevirtual 70, 3) := by decide +kernel
theorem dX5_overlap_11 : decode cX5_overlap 11 = .ok (.istore 4, 2) := by decide +kernel
theorem dX5_overlap_13 : decode cX5_overlap 13 = .ok (.iload_n 3, 1) := by decide +kernel
theorem dX5_overlap_14 : decode cX5_overlap 14 = .ok (.aload_n 0, 1) := by decide +kernel
theorem dX5_overlap_15 : decode cX5_overlap 15 = .ok (.getfield 9, 3) := by decide +kernel
theorem dX5_overlap_18 : decode cX5_overlap 18 = .ok (.iload_n 2, 1) := by decide +kernel
theorem dX5_overlap_19 : decode cX5_overlap 19 = .ok (.invokestatic 54, 3) := by decide +kernel
theorem dX5_overlap_22 : decode cX5_overlap 22 = .ok (.iadd, 1) := by decide +kernel
theorem dX5_overlap_23 : decode cX5_overlap 23 = .ok (.istore 5, 2) := by decide +kernel
theorem dX5_overlap_25 : decode cX5_overlap 25 = .ok (.iload 4, 2) := by decide +kernel
theorem dX5_overlap_27 : decode cX5_overlap 27 = .ok (.aload_n 0, 1) := by decide +kernel
theorem dX5_overlap_28 : decode cX5_overlap 28 = .ok (.getfield 27, 3) := by decide +kernel
theorem dX5_overlap_31 : decode cX5_overlap 31 = .ok (.iload_n 1, 1) := by decide +kernel
theorem dX5_overlap_32 : decode cX5_overlap 32 = .ok (.invokestatic 54, 3) := by decide +kernel
theorem dX5_overlap_35 : decode cX5_overlap 35 = .ok (.iadd, 1) := by decide +kernel
theorem dX5_overlap_36 : decode cX5_overlap 36 = .ok (.istore 6, 2) := by decide +kernel
theorem dX5_overlap_38 : decode cX5_overlap 38 = .ok (.iconst 0, 1) := by decide +kernel
theorem dX5_overlap_39 : decode cX5_overlap 39 = .ok (.iload 5, 2) := by decide +kernel
theorem dX5_overlap_41 : decode cX5_overlap 41 = .ok (.iload 6, 2) := by decide +kernel
theorem dX5_overlap_43 : decode cX5_overlap 43 = .ok (.invokestatic 73, 3) := by decide +kernel
theorem dX5_overlap_46 : decode cX5_overlap 46 = .ok (.iload_n 3, 1) := by decide +kernel
theorem dX5_overlap_47 : decode cX5_overlap 47 = .ok (.iload 4, 2) := by decide +kernel
theorem dX5_overlap_49 : decode cX5_overlap 49 = .ok (.invokestatic 79, 3) := by decide +kernel
theorem dX5_overlap_52 : decode cX5_overlap 52 = .ok (.isub, 1) := by decide +kernel
theorem dX5_overlap_53 : decode cX5_overlap 53 = .ok (.invokestatic 79, 3) := by decide +kernel
theorem dX5_overlap_56 : decode cX5_overlap 56 = .ok (.ireturn, 1) := by decide +kernel
theorem dX5_isTied_0 : decode cX5_isTied 0 = .ok (.aload_n 0, 1) := by decide +kernel
theorem dX5_isTied_1 : decode cX5_isTied 1 = .ok (.iload_n 1, 1) := by decide +kernel
theorem dX5_isTied_2 : decode cX5_isTied 2 = .ok (.invokevirtual 70, 3) := by decide +kernel
theorem dX5_isTied_5 : decode cX5_isTied 5 = .ok (.aload_n 0, 1) := by decide +kernel
theorem dX5_isTied_6 : decode cX5_isTied 6 = .ok (.iload_n 2, 1) := by decide +kernel
theorem dX5_isTied_7 : decode cX5_isTied 7 = .ok (.invokevirtual 66, 3) := by decide +kernel
theorem dX5_isTied_10 : decode cX5_isTied 10 = .ok (.if_icmp .ge 7, 3) := by decide +kernel
theorem dX5_isTied_13 : decode cX5_isTied 13 = .ok (.iconst 1, 1) := by decide +kernel
theorem dX5_isTied_14 : decode cX5_isTied 14 = .ok (.goto 4, 3) := by decide +kernel
theorem dX5_isTied_17 : decode cX5_isTied 17 = .ok (.iconst 0, 1) := by decide +kernel
theorem dX5_isTied_18 : decode cX5_isTied 18 = .ok (.ireturn, 1) := by decide +kernel
theorem dX5_partsOfSound_0 : decode cX5_partsOfSound 0 = .ok (.aload_n 0, 1) := by decide +kernel
theorem dX5_partsOfSound_1 : decode cX5_partsOfSound 1 = .ok (.iload_n 1, 1) := by decide +kernel
theorem dX5_partsOfSound_2 : decode cX5_partsOfSound 2 = .ok (.invokevirtual 70, 3) := by decide +kernel
theorem dX5_partsOfSound_5 : decode cX5_partsOfSound 5 = .ok (.istore_n 2, 1) := by decide +kernel
theorem dX5_partsOfSound_6 : decode cX5_partsOfSound 6 = .ok (.aload_n 0, 1) := by decide +kernel
theorem dX5_partsOfSound_7 : decode cX5_partsOfSound 7 = .ok (.iload_n 2, 1) := by decide +kernel
theorem dX5_partsOfSound_8 : decode cX5_partsOfSound 8 = .ok (.aload_n 0, 1) := by decide +kernel
theorem dX5_partsOfSound_9 : decode cX5_partsOfSound 9 = .ok (.getfield 27, 3) := by decide +kernel
theorem dX5_partsOfSound_12 : decode cX5_partsOfSound 12 = .ok (.iload_n 1, 1) := by decide +kernel
theorem dX5_partsOfSound_13 : decode cX5_partsOfSound 13 = .ok (.invokestatic 54, 3) := by decide +kernel
theorem dX5_partsOfSound_16 : decode cX5_partsOfSound 16 = .ok (.iadd, 1) := by decide +kernel
theorem dX5_partsOfSound_17 : decode cX5_partsOfSound 17 = .ok (.iconst 1, 1) := by decide +kernel
theorem dX5_partsOfSound_18 : decode cX5_partsOfSound 18 = .ok (.isub, 1) := by decide +kernel
theorem dX5_partsOfSound_19 : decode cX5_partsOfSound 19 = .ok (.invokevirtual 82, 3) := by decide +kernel
theorem dX5_partsOfSound_22 : decode cX5_partsOfSound 22 = .ok (.aload_n 0, 1) := by decide +kernel
theorem dX5_partsOfSound_23 : decode cX5_partsOfSound 23 = .ok (.iload_n 2, 1) := by decide +kernel
theorem dX5_partsOfSound_24 : decode cX5_partsOfSound 24 = .ok (.invokevirtual 82, 3) := by decide +kernel
theorem dX5_partsOfSound_27 : decode cX5_partsOfSound 27 = .ok (.isub, 1) := by decide +kernel
theorem dX5_partsOfSound_28 : decode cX5_partsOfSound 28 = .ok (.iconst 1, 1) := by decide +kernel
theorem dX5_partsOfSound_29 : decode cX5_partsOfSound 29 = .ok (.iadd, 1) := by decide +kernel
theorem dX5_partsOfSound_30 : decode cX5_partsOfSound 30 = .ok (.ireturn, 1) := by decide +kernel
theorem dX5_partsOfBar_0 : decode cX5_partsOfBar 0 = .ok (.iconst 0, 1) := by decide +kernel
theorem dX5_partsOfBar_1 : decode cX5_partsOfBar 1 = .ok (.istore_n 2, 1) := by decide +kernel
theorem dX5_partsOfBar_2 : decode cX5_partsOfBar 2 = .ok (.iconst 0, 1) := by decide +kernel
theorem dX5_partsOfBar_3 : decode cX5_partsOfBar 3 = .ok (.istore_n 3, 1) := by decide +kernel
theorem dX5_partsOfBar_4 : decode cX5_partsOfBar 4 = .ok (.iload_n 3, 1) := by decide +kernel
theorem dX5_partsOfBar_5 : decode cX5_partsOfBar 5 = .ok (.aload_n 0, 1) := by decide +kernel
theorem dX5_partsOfBar_6 : decode cX5_partsOfBar 6 = .ok (.getfield 34, 3) := by decide +kernel
theorem dX5_partsOfBar_9 : decode cX5_partsOfBar 9 = .ok (.if_icmp .ge 26, 3) := by decide +kernel
theorem dX5_partsOfBar_12 : decode cX5_partsOfBar 12 = .ok (.iload_n 2, 1) := by decide +kernel
theorem dX5_partsOfBar_13 : decode cX5_partsOfBar 13 = .ok (.aload_n 0, 1) := by decide +kernel
theorem dX5_partsOfBar_14 : decode cX5_partsOfBar 14 = .ok (.iload_n 3, 1) := by decide +kernel
theorem dX5_partsOfBar_15 : decode cX5_partsOfBar 15 = .ok (.iload_n 1, 1) := by decide +kernel
theorem dX5_partsOfBar_16 : decode cX5_partsOfBar 16 = .ok (.invokevirtual 85, 3) := by decide +kernel
theorem dX5_partsOfBar_19 : decode cX5_partsOfBar 19 = .ok (.ifCond .le 7, 3) := by decide +kernel
theorem dX5_partsOfBar_22 : decode cX5_partsOfBar 22 = .ok (.iconst 1, 1) := by decide +kernel
theorem dX5_partsOfBar_23 : decode cX5_partsOfBar 23 = .ok (.goto 4, 3) := by decide +kernel
theorem dX5_partsOfBar_26 : decode cX5_partsOfBar 26 = .ok (.iconst 0, 1) := by decide +kernel
theorem dX5_partsOfBar_27 : decode cX5_partsOfBar 27 = .ok (.iadd, 1) := by decide +kernel
theorem dX5_partsOfBar_28 : decode cX5_partsOfBar 28 = .ok (.istore_n 2, 1) := by decide +kernel
theorem dX5_partsOfBar_29 : decode cX5_partsOfBar 29 = .ok (.iinc 3 1, 3) := by decide +kernel
theorem dX5_partsOfBar_32 : decode cX5_partsOfBar 32 = .ok (.goto (-28), 3) := by decide +kernel
theorem dX5_partsOfBar_35 : decode cX5_partsOfBar 35 = .ok (.iload_n 2, 1) := by decide +kernel
theorem dX5_partsOfBar_36 : decode cX5_partsOfBar 36 = .ok (.ireturn, 1) := by decide +kernel
theorem dX5_allParts_0 : decode cX5_allParts 0 = .ok (.iconst 0, 1) := by decide +kernel
theorem dX5_allParts_1 : decode cX5_allParts 1 = .ok (.istore_n 1, 1) := by decide +kernel
theorem dX5_allParts_2 : decode cX5_allParts 2 = .ok (.iconst 0, 1) := by decide +kernel
theorem dX5_allParts_3 : decode cX5_allParts 3 = .ok (.istore_n 2, 1) := by decide +kernel
theorem dX5_allParts_4 : decode cX5_allParts 4 = .ok (.iload_n 2, 1) := by decide +kernel
theorem dX5_allParts_5 : decode cX5_allParts 5 = .ok (.aload_n 0, 1) := by decide +kernel
theorem dX5_allParts_6 : decode cX5_allParts 6 = .ok (.getfield 30, 3) := by decide +kernel
theorem dX5_allParts_9 : decode cX5_allParts 9 = .ok (.if_icmp .ge 17, 3) := by decide +kernel
theorem dX5_allParts_12 : decode cX5_allParts 12 = .ok (.iload_n 1, 1) := by decide +kernel
theorem dX5_allParts_13 : decode cX5_allParts 13 = .ok (.aload_n 0, 1) := by decide +kernel
theorem dX5_allParts_14 : decode cX5_allParts 14 = .ok (.iload_n 2, 1) := by decide +kernel
theorem dX5_allParts_15 : decode cX5_allParts 15 = .ok (.invokevirtual 88, 3) := by decide +kernel
theorem dX5_allParts_18 : decode cX5_allParts 18 = .ok (.iadd, 1) := by decide +kernel
theorem dX5_allParts_19 : decode cX5_allParts 19 = .ok (.istore_n 1, 1) := by decide +kernel
theorem dX5_allParts_20 : decode cX5_allParts 20 = .ok (.iinc 2 1, 3) := by decide +kernel
theorem dX5_allParts_23 : decode cX5_allParts 23 = .ok (.goto (-19), 3) := by decide +kernel
theorem dX5_allParts_26 : decode cX5_allParts 26 = .ok (.iload_n 1, 1) := by decide +kernel
theorem dX5_allParts_27 : decode cX5_allParts 27 = .ok (.ireturn, 1) := by decide +kernel
theorem dX5_beginningsIn_0 : decode cX5_beginningsIn 0 = .ok (.iconst 0, 1) := by decide +kernel
theorem dX5_beginningsIn_1 : decode cX5_beginningsIn 1 = .ok (.istore_n 2, 1) := by decide +kernel
theorem dX5_beginningsIn_2 : decode cX5_beginningsIn 2 = .ok (.iconst 0, 1) := by decide +kernel
theorem dX5_beginningsIn_3 : decode cX5_beginningsIn 3 = .ok (.istore_n 3, 1) := by decide +kernel
theorem dX5_beginningsIn_4 : decode cX5_beginningsIn 4 = .ok (.iload_n 3, 1) := by decide +kernel
theorem dX5_beginningsIn_5 : decode cX5_beginningsIn 5 = .ok (.aload_n 0, 1) := by decide +kernel
theorem dX5_beginningsIn_6 : decode cX5_beginningsIn 6 = .ok (.getfield 34, 3) := by decide +kernel
theorem dX5_beginningsIn_9 : decode cX5_beginningsIn 9 = .ok (.if_icmp .ge 30, 3) := by decide +kernel
theorem dX5_beginningsIn_12 : decode cX5_beginningsIn 12 = .ok (.iload_n 2, 1) := by decide +kernel
theorem dX5_beginningsIn_13 : decode cX5_beginningsIn 13 = .ok (.aload_n 0, 1) := by decide +kernel
theorem dX5_beginningsIn_14 : decode cX5_beginningsIn 14 = .ok (.aload_n 0, 1) := by decide +kernel
theorem dX5_beginningsIn_15 : decode cX5_beginningsIn 15 = .ok (.iload_n 3, 1) := by decide +kernel
theorem dX5_beginningsIn_16 : decode cX5_beginningsIn 16 = .ok (.invokevirtual 70, 3) := by decide +kernel
theorem dX5_beginningsIn_19 : decode cX5_beginningsIn 19 = .ok (.invokevirtual 82, 3) := by decide +kernel
theorem dX5_beginningsIn_22 : decode cX5_beginningsIn 22 = .ok (.iload_n 1, 1) := by decide +kernel
theorem dX5_beginningsIn_23 : decode cX5_beginningsIn 23 = .ok (.if_icmp .ne 7, 3) := by decide +kernel
theorem dX5_beginningsIn_26 : decode cX5_beginningsIn 26 = .ok (.iconst 1, 1) := by decide +kernel
theorem dX5_beginningsIn_27 : decode cX5_beginningsIn 27 = .ok (.goto 4, 3) := by decide +kernel
theorem dX5_beginningsIn_30 : decode cX5_beginningsIn 30 = .ok (.iconst 0, 1) := by decide +kernel
theorem dX5_beginningsIn_31 : decode cX5_beginningsIn 31 = .ok (.iadd, 1) := by decide +kernel
theorem dX5_beginningsIn_32 : decode cX5_beginningsIn 32 = .ok (.istore_n 2, 1) := by decide +kernel
theorem dX5_beginningsIn_33 : decode cX5_beginningsIn 33 = .ok (.iinc 3 1, 3) := by decide +kernel
theorem dX5_beginningsIn_36 : decode cX5_beginningsIn 36 = .ok (.goto (-32), 3) := by decide +kernel
theorem dX5_beginningsIn_39 : decode cX5_beginningsIn 39 = .ok (.iload_n 2, 1) := by decide +kernel
theorem dX5_beginningsIn_40 : decode cX5_beginningsIn 40 = .ok (.ireturn, 1) := by decide +kernel
theorem dX5_filledOfBar_0 : decode cX5_filledOfBar 0 = .ok (.aload_n 0, 1) := by decide +kernel
theorem dX5_filledOfBar_1 : decode cX5_filledOfBar 1 = .ok (.invokevirtual 91, 3) := by decide +kernel
theorem dX5_filledOfBar_4 : decode cX5_filledOfBar 4 = .ok (.aload_n 0, 1) := by decide +kernel
theorem dX5_filledOfBar_5 : decode cX5_filledOfBar 5 = .ok (.iload_n 1, 1) := by decide +kernel
theorem dX5_filledOfBar_6 : decode cX5_filledOfBar 6 = .ok (.invokevirtual 66, 3) := by decide +kernel
theorem dX5_filledOfBar_9 : decode cX5_filledOfBar 9 = .ok (.isub, 1) := by decide +kernel
theorem dX5_filledOfBar_10 : decode cX5_filledOfBar 10 = .ok (.istore_n 2, 1) := by decide +kernel
theorem dX5_filledOfBar_11 : decode cX5_filledOfBar 11 = .ok (.iconst 0, 1) := by decide +kernel
theorem dX5_filledOfBar_12 : decode cX5_filledOfBar 12 = .ok (.iload_n 2, 1) := by decide +kernel
theorem dX5_filledOfBar_13 : decode cX5_filledOfBar 13 = .ok (.aload_n 0, 1) := by decide +kernel
theorem dX5_filledOfBar_14 : decode cX5_filledOfBar 14 = .ok (.getfield 9, 3) := by decide +kernel
theorem dX5_filledOfBar_17 : decode cX5_filledOfBar 17 = .ok (.iload_n 1, 1) := by decide +kernel
theorem dX5_filledOfBar_18 : decode cX5_filledOfBar 18 = .ok (.invokestatic 54, 3) := by decide +kernel
theorem dX5_filledOfBar_21 : decode cX5_filledOfBar 21 = .ok (.invokestatic 73, 3) := by decide +kernel
theorem dX5_filledOfBar_24 : decode cX5_filledOfBar 24 = .ok (.invokestatic 79, 3) := by decide +kernel
theorem dX5_filledOfBar_27 : decode cX5_filledOfBar 27 = .ok (.ireturn, 1) := by decide +kernel
theorem dX5_soundOfPart_0 : decode cX5_soundOfPart 0 = .ok (.iconst 0, 1) := by decide +kernel
theorem dX5_soundOfPart_1 : decode cX5_soundOfPart 1 = .ok (.istore_n 3, 1) := by decide +kernel
theorem dX5_soundOfPart_2 : decode cX5_soundOfPart 2 = .ok (.iconst 0, 1) := by decide +kernel
theorem dX5_soundOfPart_3 : decode cX5_soundOfPart 3 = .ok (.istore 4, 2) := by decide +kernel
theorem dX5_soundOfPart_5 : decode cX5_soundOfPart 5 = .ok (.iload 4, 2) := by decide +kernel
theorem dX5_soundOfPart_7 : decode cX5_soundOfPart 7 = .ok (.aload_n 0, 1) := by decide +kernel
theorem dX5_soundOfPart_8 : decode cX5_soundOfPart 8 = .ok (.getfield 34, 3) := by decide +kernel
theorem dX5_soundOfPart_11 : decode cX5_soundOfPart 11 = .ok (.if_icmp .ge 30, 3) := by decide +kernel
theorem dX5_soundOfPart_14 : decode cX5_soundOfPart 14 = .ok (.aload_n 0, 1) := by decide +kernel
theorem dX5_soundOfPart_15 : decode cX5_soundOfPart 15 = .ok (.iload 4, 2) := by decide +kernel
theorem dX5_soundOfPart_17 : decode cX5_soundOfPart 17 = .ok (.iload_n 1, 1) := by decide +kernel
theorem dX5_soundOfPart_18 : decode cX5_soundOfPart 18 = .ok (.invokevirtual 85, 3) := by decide +kernel
theorem dX5_soundOfPart_21 : decode cX5_soundOfPart 21 = .ok (.ifCond .le 14, 3) := by decide +kernel
theorem dX5_soundOfPart_24 : decode cX5_soundOfPart 24 = .ok (.iload_n 3, 1) := by decide +kernel
theorem dX5_soundOfPart_25 : decode cX5_soundOfPart 25 = .ok (.iload_n 2, 1) := by decide +kernel
theorem dX5_soundOfPart_26 : decode cX5_soundOfPart 26 = .ok (.if_icmp .ne 6, 3) := by decide +kernel
theorem dX5_soundOfPart_29 : decode cX5_soundOfPart 29 = .ok (.iload 4, 2) := by decide +kernel
theorem dX5_soundOfPart_31 : decode cX5_soundOfPart 31 = .ok (.ireturn, 1) := by decide +kernel
theorem dX5_soundOfPart_32 : decode cX5_soundOfPart 32 = .ok (.iinc 3 1, 3) := by decide +kernel
theorem dX5_soundOfPart_35 : decode cX5_soundOfPart 35 = .ok (.iinc 4 1, 3) := by decide +kernel
theorem dX5_soundOfPart_38 : decode cX5_soundOfPart 38 = .ok (.goto (-33), 3) := by decide +kernel
theorem dX5_soundOfPart_41 : decode cX5_soundOfPart 41 = .ok (.iconst (-1), 1) := by decide +kernel
theorem dX5_soundOfPart_42 : decode cX5_soundOfPart 42 = .ok (.ireturn, 1) := by decide +kernel
theorem dX5_arePartsWhole_0 : decode cX5_arePartsWhole 0 = .ok (.iconst 0, 1) := by decide +kernel
theorem dX5_arePartsWhole_1 : decode cX5_arePartsWhole 1 = .ok (.istore_n 1, 1) := by decide +kernel
theorem dX5_arePartsWhole_2 : decode cX5_arePartsWhole 2 = .ok (.iload_n 1, 1) := by decide +kernel
theorem dX5_arePartsWhole_3 : decode cX5_arePartsWhole 3 = .ok (.aload_n 0, 1) := by decide +kernel
theorem dX5_arePartsWhole_4 : decode cX5_arePartsWhole 4 = .ok (.getfield 34, 3) := by decide +kernel
theorem dX5_arePartsWhole_7 : decode cX5_arePartsWhole 7 = .ok (.if_icmp .ge 50, 3) := by decide +kernel
theorem dX5_arePartsWhole_10 : decode cX5_arePartsWhole 10 = .ok (.iconst 0, 1) := by decide +kernel
theorem dX5_arePartsWhole_11 : decode cX5_arePartsWhole 11 = .ok (.istore_n 2, 1) := by decide +kernel
theorem dX5_arePartsWhole_12 : decode cX5_arePartsWhole 12 = .ok (.iconst 0, 1) := by decide +kernel
theorem dX5_arePartsWhole_13 : decode cX5_arePartsWhole 13 = .ok (.istore_n 3, 1) := by decide +kernel
theorem dX5_arePartsWhole_14 : decode cX5_arePartsWhole 14 = .ok (.iload_n 3, 1) := by decide +kernel
theorem dX5_arePartsWhole_15 : decode cX5_arePartsWhole 15 = .ok (.aload_n 0, 1) := by decide +kernel
theorem dX5_arePartsWhole_16 : decode cX5_arePartsWhole 16 = .ok (.getfield 30, 3) := by decide +kernel
theorem dX5_arePartsWhole_19 : decode cX5_arePartsWhole 19 = .ok (.if_icmp .ge 18, 3) := by decide +kernel
theorem dX5_arePartsWhole_22 : decode cX5_arePartsWhole 22 = .ok (.iload_n 2, 1) := by decide +kernel
theorem dX5_arePartsWhole_23 : decode cX5_arePartsWhole 23 = .ok (.aload_n 0, 1) := by decide +kernel
theorem dX5_arePartsWhole_24 : decode cX5_arePartsWhole 24 = .ok (.iload_n 1, 1) := by decide +kernel
theorem dX5_arePartsWhole_25 : decode cX5_arePartsWhole 25 = .ok (.iload_n 3, 1) := by decide +kernel
theorem dX5_arePartsWhole_26 : decode cX5_arePartsWhole 26 = .ok (.invokevirtual 85, 3) := by decide +kernel
theorem dX5_arePartsWhole_29 : decode cX5_arePartsWhole 29 = .ok (.iadd, 1) := by decide +kernel
theorem dX5_arePartsWhole_30 : decode cX5_arePartsWhole 30 = .ok (.istore_n 2, 1) := by decide +kernel
theorem dX5_arePartsWhole_31 : decode cX5_arePartsWhole 31 = .ok (.iinc 3 1, 3) := by decide +kernel
theorem dX5_arePartsWhole_34 : decode cX5_arePartsWhole 34 = .ok (.goto (-20), 3) := by decide +kernel
theorem dX5_arePartsWhole_37 : decode cX5_arePartsWhole 37 = .ok (.iload_n 2, 1) := by decide +kernel
theorem dX5_arePartsWhole_38 : decode cX5_arePartsWhole 38 = .ok (.aload_n 0, 1) := by decide +kernel
theorem dX5_arePartsWhole_39 : decode cX5_arePartsWhole 39 = .ok (.getfield 27, 3) := by decide +kernel
theorem dX5_arePartsWhole_42 : decode cX5_arePartsWhole 42 = .ok (.iload_n 1, 1) := by decide +kernel
theorem dX5_arePartsWhole_43 : decode cX5_arePartsWhole 43 = .ok (.invokestatic 54, 3) := by decide +kernel
theorem dX5_arePartsWhole_46 : decode cX5_arePartsWhole 46 = .ok (.if_icmp .eq 5, 3) := by decide +kernel
theorem dX5_arePartsWhole_49 : decode cX5_arePartsWhole 49 = .ok (.iconst 0, 1) := by decide +kernel
theorem dX5_arePartsWhole_50 : decode cX5_arePartsWhole 50 = .ok (.ireturn, 1) := by decide +kernel
theorem dX5_arePartsWhole_51 : decode cX5_arePartsWhole 51 = .ok (.iinc 1 1, 3) := by decide +kernel
theorem dX5_arePartsWhole_54 : decode cX5_arePartsWhole 54 = .ok (.goto (-52), 3) := by decide +kernel
theorem dX5_arePartsWhole_57 : decode cX5_arePartsWhole 57 = .ok (.iconst 1, 1) := by decide +kernel
theorem dX5_arePartsWhole_58 : decode cX5_arePartsWhole 58 = .ok (.ireturn, 1) := by decide +kernel
theorem dX5_areBarsInBounds_0 : decode cX5_areBarsInBounds 0 = .ok (.iconst 0, 1) := by decide +kernel
theorem dX5_areBarsInBounds_1 : decode cX5_areBarsInBounds 1 = .ok (.istore_n 1, 1) := by decide +kernel
theorem dX5_areBarsInBounds_2 : decode cX5_areBarsInBounds 2 = .ok (.iload_n 1, 1) := by decide +kernel
theorem dX5_areBarsInBounds_3 : decode cX5_areBarsInBounds 3 = .ok (.aload_n 0, 1) := by decide +kernel
theorem dX5_areBarsInBounds_4 : decode cX5_areBarsInBounds 4 = .ok (.getfield 30, 3) := by decide +kernel
theorem dX5_areBarsInBounds_7 : decode cX5_areBarsInBounds 7 = .ok (.if_icmp .ge 50, 3) := by decide +kernel
theorem dX5_areBarsInBounds_10 : decode cX5_areBarsInBounds 10 = .ok (.iconst 0, 1) := by decide +kernel
theorem dX5_areBarsInBounds_11 : decode cX5_areBarsInBounds 11 = .ok (.istore_n 2, 1) := by decide +kernel
theorem dX5_areBarsInBounds_12 : decode cX5_areBarsInBounds 12 = .ok (.iconst 0, 1) := by decide +kernel
theorem dX5_areBarsInBounds_13 : decode cX5_areBarsInBounds 13 = .ok (.istore_n 3, 1) := by decide +kernel
theorem dX5_areBarsInBounds_14 : decode cX5_areBarsInBounds 14 = .ok (.iload_n 3, 1) := by decide +kernel
theorem dX5_areBarsInBounds_15 : decode cX5_areBarsInBounds 15 = .ok (.aload_n 0, 1) := by decide +kernel
theorem dX5_areBarsInBounds_16 : decode cX5_areBarsInBounds 16 = .ok (.getfield 34, 3) := by decide +kernel
theorem dX5_areBarsInBounds_19 : decode cX5_areBarsInBounds 19 = .ok (.if_icmp .ge 18, 3) := by decide +kernel
theorem dX5_areBarsInBounds_22 : decode cX5_areBarsInBounds 22 = .ok (.iload_n 2, 1) := by decide +kernel
theorem dX5_areBarsInBounds_23 : decode cX5_areBarsInBounds 23 = .ok (.aload_n 0, 1) := by decide +kernel
theorem dX5_areBarsInBounds_24 : decode cX5_areBarsInBounds 24 = .ok (.iload_n 3, 1) := by decide +kernel
theorem dX5_areBarsInBounds_25 : decode cX5_areBarsInBounds 25 = .ok (.iload_n 1, 1) := by decide +kernel
theorem dX5_areBarsInBounds_26 : decode cX5_areBarsInBounds 26 = .ok (.invokevirtual 85, 3) := by decide +kernel
theorem dX5_areBarsInBounds_29 : decode cX5_areBarsInBounds 29 = .ok (.iadd, 1) := by decide +kernel
theorem dX5_areBarsInBounds_30 : decode cX5_areBarsInBounds 30 = .ok (.istore_n 2, 1) := by decide +kernel
theorem dX5_areBarsInBounds_31 : decode cX5_areBarsInBounds 31 = .ok (.iinc 3 1, 3) := by decide +kernel
theorem dX5_areBarsInBounds_34 : decode cX5_areBarsInBounds 34 = .ok (.goto (-20), 3) := by decide +kernel
theorem dX5_areBarsInBounds_37 : decode cX5_areBarsInBounds 37 = .ok (.iload_n 2, 1) := by decide +kernel
theorem dX5_areBarsInBounds_38 : decode cX5_areBarsInBounds 38 = .ok (.aload_n 0, 1) := by decide +kernel
theorem dX5_areBarsInBounds_39 : decode cX5_areBarsInBounds 39 = .ok (.getfield 9, 3) := by decide +kernel
theorem dX5_areBarsInBounds_42 : decode cX5_areBarsInBounds 42 = .ok (.iload_n 1, 1) := by decide +kernel
theorem dX5_areBarsInBounds_43 : decode cX5_areBarsInBounds 43 = .ok (.invokestatic 54, 3) := by decide +kernel
theorem dX5_areBarsInBounds_46 : decode cX5_areBarsInBounds 46 = .ok (.if_icmp .le 5, 3) := by decide +kernel
theorem dX5_areBarsInBounds_49 : decode cX5_areBarsInBounds 49 = .ok (.iconst 0, 1) := by decide +kernel
theorem dX5_areBarsInBounds_50 : decode cX5_areBarsInBounds 50 = .ok (.ireturn, 1) := by decide +kernel
theorem dX5_areBarsInBounds_51 : decode cX5_areBarsInBounds 51 = .ok (.iinc 1 1, 3) := by decide +kernel
theorem dX5_areBarsInBounds_54 : decode cX5_areBarsInBounds 54 = .ok (.goto (-52), 3) := by decide +kernel
theorem dX5_areBarsInBounds_57 : decode cX5_areBarsInBounds 57 = .ok (.iconst 1, 1) := by decide +kernel
theorem dX5_areBarsInBounds_58 : decode cX5_areBarsInBounds 58 = .ok (.ireturn, 1) := by decide +kernel
theorem dX6_init_0 : decode cX6_init 0 = .ok (.aload_n 0, 1) := by decide +kernel
theorem dX6_init_1 : decode cX6_init 1 = .ok (.invokespecial 3, 3) := by decide +kernel
theorem dX6_init_4 : decode cX6_init 4 = .ok (.aload_n 0, 1) := by decide +kernel
theorem dX6_init_5 : decode cX6_init 5 = .ok (.aload_n 1, 1) := by decide +kernel
theorem dX6_init_6 : decode cX6_init 6 = .ok (.putfield 9, 3) := by decide +kernel
theorem dX6_init_9 : decode cX6_init 9 = .ok (.return_, 1) := by decide +kernel
theorem dX6_isFault_0 : decode cX6_isFault 0 = .ok (.iload_n 1, 1) := by decide +kernel
theorem dX6_isFault_1 : decode cX6_isFault 1 = .ok (.iconst 3, 1) := by decide +kernel
theorem dX6_isFault_2 : decode cX6_isFault 2 = .ok (.if_icmp .ne 41, 3) := by decide +kernel
theorem dX6_isFault_5 : decode cX6_isFault 5 = .ok (.aload_n 0, 1) := by decide +kernel
theorem dX6_isFault_6 : decode cX6_isFault 6 = .ok (.getfield 9, 3) := by decide +kernel
theorem dX6_isFault_9 : decode cX6_isFault 9 = .ok (.aload_n 0, 1) := by decide +kernel
theorem dX6_isFault_10 : decode cX6_isFault 10 = .ok (.getfield 9, 3) := by decide +kernel
theorem dX6_isFault_13 : decode cX6_isFault 13 = .ok (.iload_n 2, 1) := by decide +kernel
theorem dX6_isFault_14 : decode cX6_isFault 14 = .ok (.invokevirtual 15, 3) := by decide +kernel
theorem dX6_isFault_17 : decode cX6_isFault 17 = .ok (.invokevirtual 21, 3) := by decide +kernel
theorem dX6_isFault_20 : decode cX6_isFault 20 = .ok (.istore_n 3, 1) := by decide +kernel
theorem dX6_isFault_21 : decode cX6_isFault 21 = .ok (.iload_n 3, 1) := by decide +kernel
theorem dX6_isFault_22 : decode cX6_isFault 22 = .ok (.iconst (-1), 1) := by decide +kernel
theorem dX6_isFault_23 : decode cX6_isFault 23 = .ok (.if_icmp .eq 18, 3) := by decide +kernel
theorem dX6_isFault_26 : decode cX6_isFault 26 = .ok (.aload_n 0, 1) := by decide +kernel
theorem dX6_isFault_27 : decode cX6_isFault 27 = .ok (.getfield 9, 3) := by decide +kernel
theorem dX6_isFault_30 : decode cX6_isFault 30 = .ok (.iload_n 3, 1) := by decide +kernel
theorem dX6_isFault_31 : decode cX6_isFault 31 = .ok (.invokevirtual 24, 3) := by decide +kernel
theorem dX6_isFault_34 : decode cX6_isFault 34 = .ok (.ifCond .eq 7, 3) := by decide +kernel
theorem dX6_isFault_37 : decode cX6_isFault 37 = .ok (.iconst 1, 1) := by decide +kernel
theorem dX6_isFault_38 : decode cX6_isFault 38 = .ok (.goto 4, 3) := by decide +kernel
theorem dX6_isFault_41 : decode cX6_isFault 41 = .ok (.iconst 0, 1) := by decide +kernel
theorem dX6_isFault_42 : decode cX6_isFault 42 = .ok (.ireturn, 1) := by decide +kernel
theorem dX6_isFault_43 : decode cX6_isFault 43 = .ok (.aload_n 0, 1) := by decide +kernel
theorem dX6_isFault_44 : decode cX6_isFault 44 = .ok (.getfield 9, 3) := by decide +kernel
theorem dX6_isFault_47 : decode cX6_isFault 47 = .ok (.iload_n 2, 1) := by decide +kernel
theorem dX6_isFault_48 : decode cX6_isFault 48 = .ok (.invokevirtual 24, 3) := by decide +kernel
theorem dX6_isFault_51 : decode cX6_isFault 51 = .ok (.istore_n 3, 1) := by decide +kernel
theorem dX6_isFault_52 : decode cX6_isFault 52 = .ok (.iload_n 1, 1) := by decide +kernel
theorem dX6_isFault_53 : decode cX6_isFault 53 = .ok (.iconst 1, 1) := by decide +kernel
theorem dX6_isFault_54 : decode cX6_isFault 54 = .ok (.if_icmp .ne 21, 3) := by decide +kernel
theorem dX6_isFault_57 : decode cX6_isFault 57 = .ok (.iload_n 3, 1) := by decide +kernel
theorem dX6_isFault_58 : decode cX6_isFault 58 = .ok (.ifCond .ne 15, 3) := by decide +kernel
theorem dX6_isFault_61 : decode cX6_isFault 61 = .ok (.aload_n 0, 1) := by decide +kernel
theorem dX6_isFault_62 : decode cX6_isFault 62 = .ok (.iload_n 2, 1) := by decide +kernel
theorem dX6_isFault_63 : decode cX6_isFault 63 = .ok (.invokevirtual 28, 3) := by decide +kernel
theorem dX6_isFault_66 : decode cX6_isFault 66 = .ok (.ifCond .eq 7, 3) := by decide +kernel
theorem dX6_isFault_69 : decode cX6_isFault 69 = .ok (.iconst 1, 1) := by decide +kernel
theorem dX6_isFault_70 : decode cX6_isFault 70 = .ok (.goto 4, 3) := by decide +kernel
theorem dX6_isFault_73 : decode cX6_isFault 73 = .ok (.iconst 0, 1) := by decide +kernel
theorem dX6_isFault_74 : decode cX6_isFault 74 = .ok (.ireturn, 1) := by decide +kernel
theorem dX6_isFault_75 : decode cX6_isFault 75 = .ok (.iload_n 1, 1) := by decide +kernel
theorem dX6_isFault_76 : decode cX6_isFault 76 = .ok (.iconst 2, 1) := by decide +kernel
theorem dX6_isFault_77 : decode cX6_isFault 77 = .ok (.if_icmp .ne 36, 3) := by decide +kernel
theorem dX6_isFault_80 : decode cX6_isFault 80 = .ok (.iload_n 3, 1) := by decide +kernel
theorem dX6_isFault_81 : decode cX6_isFault 81 = .ok (.ifCond .ne 30, 3) := by decide +kernel
theorem dX6_isFault_84 : decode cX6_isFault 84 = .ok (.aload_n 0, 1) := by decide +kernel
theorem dX6_isFault_85 : decode cX6_isFault 85 = .ok (.iload_n 2, 1) := by decide +kernel
theorem dX6_isFault_86 : decode cX6_isFault 86 = .ok (.invokevirtual 31, 3) := by decide +kernel
theorem dX6_isFault_89 : decode cX6_isFault 89 = .ok (.ifCond .eq 22, 3) := by decide +kernel
theorem dX6_isFault_92 : decode cX6_isFault 92 = .ok (.aload_n 0, 1) := by decide +kernel
theorem dX6_isFault_93 : decode cX6_isFault 93 = .ok (.aload_n 0, 1) := by decide +kernel
theorem dX6_isFault_94 : decode cX6_isFault 94 = .ok (.getfield 9, 3) := by decide +kernel
theorem dX6_isFault_97 : decode cX6_isFault 97 = .ok (.iload_n 2, 1) := by decide +kernel
theorem dX6_isFault_98 : decode cX6_isFault 98 = .ok (.invokevirtual 34, 3) := by decide +kernel
theorem dX6_isFault_101 : decode cX6_isFault 101 = .ok (.invokevirtual 31, 3) := by decide +kernel
theorem dX6_isFault_104 : decode cX6_isFault 104 = .ok (.ifCond .eq 7, 3) := by decide +kernel
theorem dX6_isFault_107 : decode cX6_isFault 107 = .ok (.iconst 1, 1) := by decide +kernel
theorem dX6_isFault_108 : decode cX6_isFault 108 = .ok (.goto 4, 3) := by decide +kernel
theorem dX6_isFault_111 : decode cX6_isFault 111 = .ok (.iconst 0, 1) := by decide +kernel
theorem dX6_isFault_112 : decode cX6_isFault 112 = .ok (.ireturn, 1) := by decide +kernel
theorem dX6_isFault_113 : decode cX6_isFault 113 = .ok (.aload_n 0, 1) := by decide +kernel
theorem dX6_isFault_114 : decode cX6_isFault 114 = .ok (.getfield 9, 3) := by decide +kernel
theorem dX6_isFault_117 : decode cX6_isFault 117 = .ok (.iload_n 2, 1) := by decide +kernel
theorem dX6_isFault_118 : decode cX6_isFault 118 = .ok (.invokevirtual 37, 3) := by decide +kernel
theorem dX6_isFault_121 : decode cX6_isFault 121 = .ok (.iload_n 3, 1) := by decide +kernel
theorem dX6_isFault_122 : decode cX6_isFault 122 = .ok (.invokestatic 40, 3) := by decide +kernel
theorem dX6_isFault_125 : decode cX6_isFault 125 = .ok (.if_icmp .le 7, 3) := by decide +kernel
theorem dX6_isFault_128 : decode cX6_isFault 128 = .ok (.iconst 1, 1) := by decide +kernel
theorem dX6_isFault_129 : decode cX6_isFault 129 = .ok (.goto 4, 3) := by decide +kernel
theorem dX6_isFault_132 : decode cX6_isFault 132 = .ok (.iconst 0, 1) := by decide +kernel
theorem dX6_isFault_133 : decode cX6_isFault 133 = .ok (.ireturn, 1) := by decide +kernel
theorem dX6_isFar_0 : decode cX6_isFar 0 = .ok (.aload_n 0, 1) := by decide +kernel
theorem dX6_isFar_1 : decode cX6_isFar 1 = .ok (.getfield 9, 3) := by decide +kernel
theorem dX6_isFar_4 : decode cX6_isFar 4 = .ok (.iload_n 1, 1) := by decide +kernel
theorem dX6_isFar_5 : decode cX6_isFar 5 = .ok (.invokevirtual 34, 3) := by decide +kernel
theorem dX6_isFar_8 : decode cX6_isFar 8 = .ok (.istore_n 2, 1) := by decide +kernel
theorem dX6_isFar_9 : decode cX6_isFar 9 = .ok (.iload_n 2, 1) := by decide +kernel
theorem dX6_isFar_10 : decode cX6_isFar 10 = .ok (.iconst (-1), 1) := by decide +kernel
theorem dX6_isFar_11 : decode cX6_isFar 11 = .ok (.if_icmp .eq 37, 3) := by decide +kernel
theorem dX6_isFar_14 : decode cX6_isFar 14 = .ok (.aload_n 0, 1) := by decide +kernel
theorem dX6_isFar_15 : decode cX6_isFar 15 = .ok (.getfield 9, 3) := by decide +kernel
theorem dX6_isFar_18 : decode cX6_isFar 18 = .ok (.iload_n 1, 1) := by decide +kernel
theorem dX6_isFar_19 : decode cX6_isFar 19 = .ok (.invokevirtual 44, 3) := by decide +kernel
theorem dX6_isFar_22 : decode cX6_isFar 22 = .ok (.aload_n 0, 1) := by decide +kernel
theorem dX6_isFar_23 : decode cX6_isFar 23 = .ok (.getfield 9, 3) := by decide +kernel
theorem dX6_isFar_26 : decode cX6_isFar 26 = .ok (.iload_n 2, 1) := by decide +kernel
theorem dX6_isFar_27 : decode cX6_isFar 27 = .ok (.invokevirtual 44, 3) := by decide +kernel
theorem dX6_isFar_30 : decode cX6_isFar 30 = .ok (.isub, 1) := by decide +kernel
theorem dX6_isFar_31 : decode cX6_isFar 31 = .ok (.invokestatic 47, 3) := by decide +kernel
theorem dX6_isFar_34 : decode cX6_isFar 34 = .ok (.aload_n 0, 1) := by decide +kernel
theorem dX6_isFar_35 : decode cX6_isFar 35 = .ok (.getfield 9, 3) := by decide +kernel
theorem dX6_isFar_38 : decode cX6_isFar 38 = .ok (.invokevirtual 52, 3) := by decide +kernel
theorem dX6_isFar_41 : decode cX6_isFar 41 = .ok (.if_icmp .le 7, 3) := by decide +kernel
theorem dX6_isFar_44 : decode cX6_isFar 44 = .ok (.iconst 1, 1) := by decide +kernel
theorem dX6_isFar_45 : decode cX6_isFar 45 = .ok (.goto 4, 3) := by decide +kernel
theorem dX6_isFar_48 : decode cX6_isFar 48 = .ok (.iconst 0, 1) := by decide +kernel
theorem dX6_isFar_49 : decode cX6_isFar 49 = .ok (.ireturn, 1) := by decide +kernel
theorem dX6_isSame_0 : decode cX6_isSame 0 = .ok (.aload_n 0, 1) := by decide +kernel
theorem dX6_isSame_1 : decode cX6_isSame 1 = .ok (.getfield 9, 3) := by decide +kernel
theorem dX6_isSame_4 : decode cX6_isSame 4 = .ok (.iload_n 1, 1) := by decide +kernel
theorem dX6_isSame_5 : decode cX6_isSame 5 = .ok (.invokevirtual 34, 3) := by decide +kernel
theorem dX6_isSame_8 : decode cX6_isSame 8 = .ok (.istore_n 2, 1) := by decide +kernel
theorem dX6_isSame_9 : decode cX6_isSame 9 = .ok (.iload_n 2, 1) := by decide +kernel
theorem dX6_isSame_10 : decode cX6_isSame 10 = .ok (.iconst (-1), 1) := by decide +kernel
theorem dX6_isSame_11 : decode cX6_isSame 11 = .ok (.if_icmp .eq 26, 3) := by decide +kernel
theorem dX6_isSame_14 : decode cX6_isSame 14 = .ok (.aload_n 0, 1) := by decide +kernel
theorem dX6_isSame_15 : decode cX6_isSame 15 = .ok (.getfield 9, 3) := by decide +kernel
theorem dX6_isSame_18 : decode cX6_isSame 18 = .ok (.iload_n 1, 1) := by decide +kernel
theorem dX6_isSame_19 : decode cX6_isSame 19 = .ok (.invokevirtual 44, 3) := by decide +kernel
theorem dX6_isSame_22 : decode cX6_isSame 22 = .ok (.aload_n 0, 1) := by decide +kernel
theorem dX6_isSame_23 : decode cX6_isSame 23 = .ok (.getfield 9, 3) := by decide +kernel
theorem dX6_isSame_26 : decode cX6_isSame 26 = .ok (.iload_n 2, 1) := by decide +kernel
theorem dX6_isSame_27 : decode cX6_isSame 27 = .ok (.invokevirtual 44, 3) := by decide +kernel
theorem dX6_isSame_30 : decode cX6_isSame 30 = .ok (.if_icmp .ne 7, 3) := by decide +kernel
theorem dX6_isSame_33 : decode cX6_isSame 33 = .ok (.iconst 1, 1) := by decide +kernel
theorem dX6_isSame_34 : decode cX6_isSame 34 = .ok (.goto 4, 3) := by decide +kernel
theorem dX6_isSame_37 : decode cX6_isSame 37 = .ok (.iconst 0, 1) := by decide +kernel
theorem dX6_isSame_38 : decode cX6_isSame 38 = .ok (.ireturn, 1) := by decide +kernel
theorem dX6_mostParts_0 : decode cX6_mostParts 0 = .ok (.iload_n 0, 1) := by decide +kernel
theorem dX6_mostParts_1 : decode cX6_mostParts 1 = .ok (.ifCond .eq 7, 3) := by decide +kernel
theorem dX6_mostParts_4 : decode cX6_mostParts 4 = .ok (.iconst 1, 1) := by decide +kernel
theorem dX6_mostParts_5 : decode cX6_mostParts 5 = .ok (.goto 4, 3) := by decide +kernel
theorem dX6_mostParts_8 : decode cX6_mostParts 8 = .ok (.iconst 2, 1) := by decide +kernel
theorem dX6_mostParts_9 : decode cX6_mostParts 9 = .ok (.ireturn, 1) := by decide +kernel
theorem dX6_places_0 : decode cX6_places 0 = .ok (.iload_n 1, 1) := by decide +kernel
theorem dX6_places_1 : decode cX6_places 1 = .ok (.iconst 3, 1) := by decide +kernel
theorem dX6_places_2 : decode cX6_places 2 = .ok (.if_icmp .ne 13, 3) := by decide +kernel
theorem dX6_places_5 : decode cX6_places 5 = .ok (.aload_n 0, 1) := by decide +kernel
theorem dX6_places_6 : decode cX6_places 6 = .ok (.getfield 9, 3) := by decide +kernel
theorem dX6_places_9 : decode cX6_places 9 = .ok (.invokevirtual 56, 3) := by decide +kernel
theorem dX6_places_12 : decode cX6_places 12 = .ok (.goto 10, 3) := by decide +kernel
theorem dX6_places_15 : decode cX6_places 15 = .ok (.aload_n 0, 1) := by decide +kernel
theorem dX6_places_16 : decode cX6_places 16 = .ok (.getfield 9, 3) := by decide +kernel
theorem dX6_places_19 : decode cX6_places 19 = .ok (.invokevirtual 59, 3) := by decide +kernel
theorem dX6_places_22 : decode cX6_places 22 = .ok (.ireturn, 1) := by decide +kernel
theorem dX6_count_0 : decode cX6_count 0 = .ok (.iconst 0, 1) := by decide +kernel
theorem dX6_count_1 : decode cX6_count 1 = .ok (.istore_n 2, 1) := by decide +kernel
theorem dX6_count_2 : decode cX6_count 2 = .ok (.aload_n 0, 1) := by decide +kernel
theorem dX6_count_3 : decode cX6_count 3 = .ok (.iload_n 1, 1) := by decide +kernel
theorem dX6_count_4 : decode cX6_count 4 = .ok (.invokevirtual 62, 3) := by decide +kernel
theorem dX6_count_7 : decode cX6_count 7 = .ok (.istore_n 3, 1) := by decide +kernel
theorem dX6_count_8 : decode cX6_count 8 = .ok (.iconst 0, 1) := by decide +kernel
theorem dX6_count_9 : decode cX6_count 9 = .ok (.istore 4, 2) := by decide +kernel
theorem dX6_count_11 : decode cX6_count 11 = .ok (.iload 4, 2) := by decide +kernel
theorem dX6_count_13 : decode cX6_count 13 = .ok (.iload_n 3, 1) := by decide +kernel
theorem dX6_count_14 : decode cX6_count 14 = .ok (.if_icmp .ge 27, 3) := by decide +kernel
theorem dX6_count_17 : decode cX6_count 17 = .ok (.iload_n 2, 1) := by decide +kernel
theorem dX6_count_18 : decode cX6_count 18 = .ok (.aload_n 0, 1) := by decide +kernel
theorem dX6_count_19 : decode cX6_count 19 = .ok (.iload_n 1, 1) := by decide +kernel
theorem dX6_count_20 : decode cX6_count 20 = .ok (.iload 4, 2) := by decide +kernel
theorem dX6_count_22 : decode cX6_count 22 = .ok (.invokevirtual 65, 3) := by decide +kernel
theorem dX6_count_25 : decode cX6_count 25 = .ok (.ifCond .eq 7, 3) := by decide +kernel
theorem dX6_count_28 : decode cX6_count 28 = .ok (.iconst 1, 1) := by decide +kernel
theorem dX6_count_29 : decode cX6_count 29 = .ok (.goto 4, 3) := by decide +kernel
theorem dX6_count_32 : decode cX6_count 32 = .ok (.iconst 0, 1) := by decide +kernel
theorem dX6_count_33 : decode cX6_count 33 = .ok (.iadd, 1) := by decide +kernel
theorem dX6_count_34 : decode cX6_count 34 = .ok (.istore_n 2, 1) := by decide +kernel
theorem dX6_count_35 : decode cX6_count 35 = .ok (.iinc 4 1, 3) := by decide +kernel
theorem dX6_count_38 : decode cX6_count 38 = .ok (.goto (-27), 3) := by decide +kernel
theorem dX6_count_41 : decode cX6_count 41 = .ok (.iload_n 2, 1) := by decide +kernel
theorem dX6_count_42 : decode cX6_count 42 = .ok (.ireturn, 1) := by decide +kernel
theorem dX6_first_0 : decode cX6_first 0 = .ok (.aload_n 0, 1) := by decide +kernel
theorem dX6_first_1 : decode cX6_first 1 = .ok (.iload_n 1, 1) := by decide +kernel
theorem dX6_first_2 : decode cX6_first 2 = .ok (.invokevirtual 62, 3) := by decide +kernel
theorem dX6_first_5 : decode cX6_first 5 = .ok (.istore_n 2, 1) := by decide +kernel
theorem dX6_first_6 : decode cX6_first 6 = .ok (.iconst 0, 1) := by decide +kernel
theorem dX6_first_7 : decode cX6_first 7 = .ok (.istore_n 3, 1) := by decide +kernel
theorem dX6_first_8 : decode cX6_first 8 = .ok (.iload_n 3, 1) := by decide +kernel
theorem dX6_first_9 : decode cX6_first 9 = .ok (.iload_n 2, 1) := by decide +kernel
theorem dX6_first_10 : decode cX6_first 10 = .ok (.if_icmp .ge 20, 3) := by decide +kernel
theorem dX6_first_13 : decode cX6_first 13 = .ok (.aload_n 0, 1) := by decide +kernel
theorem dX6_first_14 : decode cX6_first 14 = .ok (.iload_n 1, 1) := by decide +kernel
theorem dX6_first_15 : decode cX6_first 15 = .ok (.iload_n 3, 1) := by decide +kernel
theorem dX6_first_16 : decode cX6_first 16 = .ok (.invokevirtual 65, 3) := by decide +kernel
theorem dX6_first_19 : decode cX6_first 19 = .ok (.ifCond .eq 5, 3) := by decide +kernel
theorem dX6_first_22 : decode cX6_first 22 = .ok (.iload_n 3, 1) := by decide +kernel
theorem dX6_first_23 : decode cX6_first 23 = .ok (.ireturn, 1) := by decide +kernel
theorem dX6_first_24 : decode cX6_first 24 = .ok (.iinc 3 1, 3) := by decide +kernel
theorem dX6_first_27 : decode cX6_first 27 = .ok (.goto (-19), 3) := by decide +kernel
theorem dX6_first_30 : decode cX6_first 30 = .ok (.iconst (-1), 1) := by decide +kernel
theorem dX6_first_31 : decode cX6_first 31 = .ok (.ireturn, 1) := by decide +kernel
theorem dX6_countAll_0 : decode cX6_countAll 0 = .ok (.iconst 0, 1) := by decide +kernel
theorem dX6_countAll_1 : decode cX6_countAll 1 = .ok (.istore_n 1, 1) := by decide +kernel
theorem dX6_countAll_2 : decode cX6_countAll 2 = .ok (.iconst 1, 1) := by decide +kernel
theorem dX6_countAll_3 : decode cX6_countAll 3 = .ok (.istore_n 2, 1) := by decide +kernel
theorem dX6_countAll_4 : decode cX6_countAll 4 = .ok (.iload_n 2, 1) := by decide +kernel
theorem dX6_countAll_5 : decode cX6_countAll 5 = .ok (.iconst 4, 1) := by decide +kernel
theorem dX6_countAll_6 : decode cX6_countAll 6 = .ok (.if_icmp .gt 17, 3) := by decide +kernel
theorem dX6_countAll_9 : decode cX6_countAll 9 = .ok (.iload_n 1, 1) := by decide +kernel
theorem dX6_countAll_10 : decode cX6_countAll 10 = .ok (.aload_n 0, 1) := by decide +kernel
theorem dX6_countAll_11 : decode cX6_countAll 11 = .ok (.iload_n 2, 1) := by decide +kernel
theorem dX6_countAll_12 : decode cX6_countAll 12 = .ok (.invokevirtual 69, 3) := by decide +kernel
theorem dX6_countAll_15 : decode cX6_countAll 15 = .ok (.iadd, 1) := by decide +kernel
theorem dX6_countAll_16 : decode cX6_countAll 16 = .ok (.istore_n 1, 1) := by decide +kernel
theorem dX6_countAll_17 : decode cX6_countAll 17 = .ok (.iinc 2 1, 3) := by decide +kernel
theorem dX6_countAll_20 : decode cX6_countAll 20 = .ok (.goto (-16), 3) := by decide +kernel
theorem dX6_countAll_23 : decode cX6_countAll 23 = .ok (.iload_n 1, 1) := by decide +kernel
theorem dX6_countAll_24 : decode cX6_countAll 24 = .ok (.ireturn, 1) := by decide +kernel
theorem dX6_countByBeats_0 : decode cX6_countByBeats 0 = .ok (.iload_n 1, 1) := by decide +kernel
theorem dX6_countByBeats_1 : decode cX6_countByBeats 1 = .ok (.iconst 3, 1) := by decide +kernel
theorem dX6_countByBeats_2 : decode cX6_countByBeats 2 = .ok (.if_icmp .ne 8, 3) := by decide +kernel
theorem dX6_countByBeats_5 : decode cX6_countByBeats 5 = .ok (.aload_n 0, 1) := by decide +kernel
theorem dX6_countByBeats_6 : decode cX6_countByBeats 6 = .ok (.invokevirtual 72, 3) := by decide +kernel
theorem dX6_countByBeats_9 : decode cX6_countByBeats 9 = .ok (.ireturn, 1) := by decide +kernel
theorem dX6_countByBeats_10 : decode cX6_countByBeats 10 = .ok (.iload_n 1, 1) := by decide +kernel
theorem dX6_countByBeats_11 : decode cX6_countByBeats 11 = .ok (.iconst 1, 1) := by decide +kernel
theorem dX6_countByBeats_12 : decode cX6_countByBeats 12 = .ok (.if_icmp .eq 8, 3) := by decide +kernel
theorem dX6_countByBeats_15 : decode cX6_countByBeats 15 = .ok (.iload_n 1, 1) := by decide +kernel
theorem dX6_countByBeats_16 : decode cX6_countByBeats 16 = .ok (.iconst 2, 1) := by decide +kernel
theorem dX6_countByBeats_17 : decode cX6_countByBeats 17 = .ok (.if_icmp .ne 11, 3) := by decide +kernel
theorem dX6_countByBeats_20 : decode cX6_countByBeats 20 = .ok (.aload_n 0, 1) := by decide +kernel
theorem dX6_countByBeats_21 : decode cX6_countByBeats 21 = .ok (.iload_n 1, 1) := by decide +kernel
theorem dX6_countByBeats_22 : decode cX6_countByBeats 22 = .ok (.invokevirtual 75, 3) := by decide +kernel
theorem dX6_countByBeats_25 : decode cX6_countByBeats 25 = .ok (.goto 7, 3) := by decide +kernel
theorem dX6_countByBeats_28 : decode cX6_countByBeats 28 = .ok (.aload_n 0, 1) := by decide +kernel
theorem dX6_countByBeats_29 : decode cX6_countByBeats 29 = .ok (.invokevirtual 78, 3) := by decide +kernel
theorem dX6_countByBeats_32 : decode cX6_countByBeats 32 = .ok (.ireturn, 1) := by decide +kernel
theorem dX6_pitchesByBeats_0 : decode cX6_pitchesByBeats 0 = .ok (.iconst 0, 1) := by decide +kernel
theorem dX6_pitchesByBeats_1 : decode cX6_pitchesByBeats 1 = .ok (.istore_n 2, 1) := by decide +kernel
theorem dX6_pitchesByBeats_2 : decode cX6_pitchesByBeats 2 = .ok (.iconst (-1), 1) := by decide +kernel
theorem dX6_pitchesByBeats_3 : decode cX6_pitchesByBeats 3 = .ok (.istore_n 3, 1) := by decide +kernel
theorem dX6_pitchesByBeats_4 : decode cX6_pitchesByBeats 4 = .ok (.iconst (-1), 1) := by decide +kernel
theorem dX6_pitchesByBeats_5 : decode cX6_pitchesByBeats 5 = .ok (.istore 4, 2) := by decide +kernel
theorem dX6_pitchesByBeats_7 : decode cX6_pitchesByBeats 7 = .ok (.aload_n 0, 1) := by decide +kernel
theorem dX6_pitchesByBeats_8 : decode cX6_pitchesByBeats 8 = .ok (.getfield 9, 3) := by decide +kernel
theorem dX6_pitchesByBeats_11 : decode cX6_pitchesByBeats 11 = .ok (.invokevirtual 81, 3) := by decide +kernel
theorem dX6_pitchesByBeats_14 : decode cX6_pitchesByBeats 14 = .ok (.istore 5, 2) := by decide +kernel
theorem dX6_pitchesByBeats_16 : decode cX6_pitchesByBeats 16 = .ok (.iconst 0, 1) := by decide +kernel
theorem dX6_pitchesByBeats_17 : decode cX6_pitchesByBeats 17 = .ok (.istore 6, 2) := by decide +kernel
theorem dX6_pitchesByBeats_19 : decode cX6_pitchesByBeats 19 = .ok (.iload 6, 2) := by decide +kernel
theorem dX6_pitchesByBeats_21 : decode cX6_pitchesByBeats 21 = .ok (.iload 5, 2) := by decide +kernel
theorem dX6_pitchesByBeats_23 : decode cX6_pitchesByBeats 23 = .ok (.if_icmp .ge 143, 3) := by decide +kernel
theorem dX6_pitchesByBeats_26 : decode cX6_pitchesByBeats 26 = .ok (.aload_n 0, 1) := by decide +kernel
theorem dX6_pitchesByBeats_27 : decode cX6_pitchesByBeats 27 = .ok (.getfield 9, 3) := by decide +kernel
theorem dX6_pitchesByBeats_30 : decode cX6_pitchesByBeats 30 = .ok (.iload 6, 2) := by decide +kernel
theorem dX6_pitchesByBeats_32 : decode cX6_pitchesByBeats 32 = .ok (.invokevirtual 21, 3) := by decide +kernel
theorem dX6_pitchesByBeats_35 : decode cX6_pitchesByBeats 35 = .ok (.istore 7, 2) := by decide +kernel
theorem dX6_pitchesByBeats_37 : decode cX6_pitchesByBeats 37 = .ok (.iload 7, 2) := by decide +kernel
theorem dX6_pitchesByBeats_39 : decode cX6_pitchesByBeats 39 = .ok (.aload_n 0, 1) := by decide +kernel
theorem dX6_pitchesByBeats_40 : decode cX6_pitchesByBeats 40 = .ok (.getfield 9, 3) := by decide +kernel
theorem dX6_pitchesByBeats_43 : decode cX6_pitchesByBeats 43 = .ok (.iload 6, 2) := by decide +kernel
theorem dX6_pitchesByBeats_45 : decode cX6_pitchesByBeats 45 = .ok (.iconst 1, 1) := by decide +kernel
theorem dX6_pitchesByBeats_46 : decode cX6_pitchesByBeats 46 = .ok (.isub, 1) := by decide +kernel
theorem dX6_pitchesByBeats_47 : decode cX6_pitchesByBeats 47 = .ok (.invokevirtual 21, 3) := by decide +kernel
theorem dX6_pitchesByBeats_50 : decode cX6_pitchesByBeats 50 = .ok (.if_icmp .eq 110, 3) := by decide +kernel
theorem dX6_pitchesByBeats_53 : decode cX6_pitchesByBeats 53 = .ok (.aload_n 0, 1) := by decide +kernel
theorem dX6_pitchesByBeats_54 : decode cX6_pitchesByBeats 54 = .ok (.getfield 9, 3) := by decide +kernel
theorem dX6_pitchesByBeats_57 : decode cX6_pitchesByBeats 57 = .ok (.iload 7, 2) := by decide +kernel
theorem dX6_pitchesByBeats_59 : decode cX6_pitchesByBeats 59 = .ok (.invokevirtual 24, 3) := by decide +kernel
theorem dX6_pitchesByBeats_62 : decode cX6_pitchesByBeats 62 = .ok (.ifCond .eq 6, 3) := by decide +kernel
theorem dX6_pitchesByBeats_65 : decode cX6_pitchesByBeats 65 = .ok (.goto 95, 3) := by decide +kernel
theorem dX6_pitchesByBeats_68 : decode cX6_pitchesByBeats 68 = .ok (.aload_n 0, 1) := by decide +kernel
theorem dX6_pitchesByBeats_69 : decode cX6_pitchesByBeats 69 = .ok (.getfield 9, 3) := by decide +kernel
theorem dX6_pitchesByBeats_72 : decode cX6_pitchesByBeats 72 = .ok (.iload 7, 2) := by decide +kernel
theorem dX6_pitchesByBeats_74 : decode cX6_pitchesByBeats 74 = .ok (.invokevirtual 44, 3) := by decide +kernel
theorem dX6_pitchesByBeats_77 : decode cX6_pitchesByBeats 77 = .ok (.istore 8, 2) := by decide +kernel
theorem dX6_pitchesByBeats_79 : decode cX6_pitchesByBeats 79 = .ok (.iload_n 3, 1) := by decide +kernel
theorem dX6_pitchesByBeats_80 : decode cX6_pitchesByBeats 80 = .ok (.iconst (-1), 1) := by decide +kernel
theorem dX6_pitchesByBeats_81 : decode cX6_pitchesByBeats 81 = .ok (.if_icmp .eq 24, 3) := by decide +kernel
theorem dX6_pitchesByBeats_84 : decode cX6_pitchesByBeats 84 = .ok (.iload 8, 2) := by decide +kernel
theorem dX6_pitchesByBeats_86 : decode cX6_pitchesByBeats 86 = .ok (.iload_n 3, 1) := by decide +kernel
theorem dX6_pitchesByBeats_87 : decode cX6_pitchesByBeats 87 = .ok (.isub, 1) := by decide +kernel
theorem dX6_pitchesByBeats_88 : decode cX6_pitchesByBeats 88 = .ok (.invokestatic 47, 3) := by decide +kernel
theorem dX6_pitchesByBeats_91 : decode cX6_pitchesByBeats 91 = .ok (.aload_n 0, 1) := by decide +kernel
theorem dX6_pitchesByBeats_92 : decode cX6_pitchesByBeats 92 = .ok (.getfield 9, 3) := by decide +kernel
theorem dX6_pitchesByBeats_95 : decode cX6_pitchesByBeats 95 = .ok (.invokevirtual 52, 3) := by decide +kernel
theorem dX6_pitchesByBeats_98 : decode cX6_pitchesByBeats 98 = .ok (.if_icmp .le 7, 3) := by decide +kernel
theorem dX6_pitchesByBeats_101 : decode cX6_pitchesByBeats 101 = .ok (.iconst 1, 1) := by decide +kernel
theorem dX6_pitchesByBeats_102 : decode cX6_pitchesByBeats 102 = .ok (.goto 4, 3) := by decide +kernel
theorem dX6_pitchesByBeats_105 : decode cX6_pitchesByBeats 105 = .ok (.iconst 0, 1) := by decide +kernel
theorem dX6_pitchesByBeats_106 : decode cX6_pitchesByBeats 106 = .ok (.istore 9, 2) := by decide +kernel
theorem dX6_pitchesByBeats_108 : decode cX6_pitchesByBeats 108 = .ok (.iload 8, 2) := by decide +kernel
theorem dX6_pitchesByBeats_110 : decode cX6_pitchesByBeats 110 = .ok (.iload_n 3, 1) := by decide +kernel
theorem dX6_pitchesByBeats_111 : decode cX6_pitchesByBeats 111 = .ok (.if_icmp .ne 14, 3) := by decide +kernel
theorem dX6_pitchesByBeats_114 : decode cX6_pitchesByBeats 114 = .ok (.iload 8, 2) := by decide +kernel
theorem dX6_pitchesByBeats_116 : decode cX6_pitchesByBeats 116 = .ok (.iload 4, 2) := by decide +kernel
theorem dX6_pitchesByBeats_118 : decode cX6_pitchesByBeats 118 = .ok (.if_icmp .ne 7, 3) := by decide +kernel
theorem dX6_pitchesByBeats_121 : decode cX6_pitchesByBeats 121 = .ok (.iconst 1, 1) := by decide +kernel
theorem dX6_pitchesByBeats_122 : decode cX6_pitchesByBeats 122 = .ok (.goto 4, 3) := by decide +kernel
theorem dX6_pitchesByBeats_125 : decode cX6_pitchesByBeats 125 = .ok (.iconst 0, 1) := by decide +kernel
theorem dX6_pitchesByBeats_126 : decode cX6_pitchesByBeats 126 = .ok (.istore 10, 2) := by decide +kernel
theorem dX6_pitchesByBeats_128 : decode cX6_pitchesByBeats 128 = .ok (.iload_n 2, 1) := by decide +kernel
theorem dX6_pitchesByBeats_129 : decode cX6_pitchesByBeats 129 = .ok (.iload_n 1, 1) := by decide +kernel
theorem dX6_pitchesByBeats_130 : decode cX6_pitchesByBeats 130 = .ok (.iconst 1, 1) := by decide +kernel
theorem dX6_pitchesByBeats_131 : decode cX6_pitchesByBeats 131 = .ok (.if_icmp .ne 11, 3) := by decide +kernel
theorem dX6_pitchesByBeats_134 : decode cX6_pitchesByBeats 134 = .ok (.iload 9, 2) := by decide +kernel
theorem dX6_pitchesByBeats_136 : decode cX6_pitchesByBeats 136 = .ok (.ifCond .eq 15, 3) := by decide +kernel
theorem dX6_pitchesByBeats_139 : decode cX6_pitchesByBeats 139 = .ok (.goto 8, 3) := by decide +kernel
theorem dX6_pitchesByBeats_142 : decode cX6_pitchesByBeats 142 = .ok (.iload 10, 2) := by decide +kernel
theorem dX6_pitchesByBeats_144 : decode cX6_pitchesByBeats 144 = .ok (.ifCond .eq 7, 3) := by decide +kernel
theorem dX6_pitchesByBeats_147 : decode cX6_pitchesByBeats 147 = .ok (.iconst 1, 1) := by decide +kernel
theorem dX6_pitchesByBeats_148 : decode cX6_pitchesByBeats 148 = .ok (.goto 4, 3) := by decide +kernel
theorem dX6_pitchesByBeats_151 : decode cX6_pitchesByBeats 151 = .ok (.iconst 0, 1) := by decide +kernel
theorem dX6_pitchesByBeats_152 : decode cX6_pitchesByBeats 152 = .ok (.iadd, 1) := by decide +kernel
theorem dX6_pitchesByBeats_153 : decode cX6_pitchesByBeats 153 = .ok (.istore_n 2, 1) := by decide +kernel
theorem dX6_pitchesByBeats_154 : decode cX6_pitchesByBeats 154 = .ok (.iload_n 3, 1) := by decide +kernel
theorem dX6_pitchesByBeats_155 : decode cX6_pitchesByBeats 155 = .ok (.istore 4, 2) := by decide +kernel
theorem dX6_pitchesByBeats_157 : decode cX6_pitchesByBeats 157 = .ok (.iload 8, 2) := by decide +kernel
theorem dX6_pitchesByBeats_159 : decode cX6_pitchesByBeats 159 = .ok (.istore_n 3, 1) := by decide +kernel
theorem dX6_pitchesByBeats_160 : decode cX6_pitchesByBeats 160 = .ok (.iinc 6 1, 3) := by decide +kernel
theorem dX6_pitchesByBeats_163 : decode cX6_pitchesByBeats 163 = .ok (.goto (-144), 3) := by decide +kernel
theorem dX6_pitchesByBeats_166 : decode cX6_pitchesByBeats 166 = .ok (.iload_n 2, 1) := by decide +kernel
theorem dX6_pitchesByBeats_167 : decode cX6_pitchesByBeats 167 = .ok (.ireturn, 1) := by decide +kernel
theorem dX6_restsAtBars_0 : decode cX6_restsAtBars 0 = .ok (.iconst 0, 1) := by decide +kernel
theorem dX6_restsAtBars_1 : decode cX6_restsAtBars 1 = .ok (.istore_n 1, 1) := by decide +kernel
theorem dX6_restsAtBars_2 : decode cX6_restsAtBars 2 = .ok (.aload_n 0, 1) := by decide +kernel
theorem dX6_restsAtBars_3 : decode cX6_restsAtBars 3 = .ok (.getfield 9, 3) := by decide +kernel
theorem dX6_restsAtBars_6 : decode cX6_restsAtBars 6 = .ok (.invokevirtual 81, 3) := by decide +kernel
theorem dX6_restsAtBars_9 : decode cX6_restsAtBars 9 = .ok (.istore_n 2, 1) := by decide +kernel
theorem dX6_restsAtBars_10 : decode cX6_restsAtBars 10 = .ok (.iconst 0, 1) := by decide +kernel
theorem dX6_restsAtBars_11 : decode cX6_restsAtBars 11 = .ok (.istore_n 3, 1) := by decide +kernel
theorem dX6_restsAtBars_12 : decode cX6_restsAtBars 12 = .ok (.iload_n 3, 1) := by decide +kernel
theorem dX6_restsAtBars_13 : decode cX6_restsAtBars 13 = .ok (.iload_n 2, 1) := by decide +kernel
theorem dX6_restsAtBars_14 : decode cX6_restsAtBars 14 = .ok (.if_icmp .ge 68, 3) := by decide +kernel
theorem dX6_restsAtBars_17 : decode cX6_restsAtBars 17 = .ok (.aload_n 0, 1) := by decide +kernel
theorem dX6_restsAtBars_18 : decode cX6_restsAtBars 18 = .ok (.getfield 9, 3) := by decide +kernel
theorem dX6_restsAtBars_21 : decode cX6_restsAtBars 21 = .ok (.iload_n 3, 1) := by decide +kernel
theorem dX6_restsAtBars_22 : decode cX6_restsAtBars 22 = .ok (.invokevirtual 84, 3) := by decide +kernel
theorem dX6_restsAtBars_25 : decode cX6_restsAtBars 25 = .ok (.aload_n 0, 1) := by decide +kernel
theorem dX6_restsAtBars_26 : decode cX6_restsAtBars 26 = .ok (.getfield 9, 3) := by decide +kernel
theorem dX6_restsAtBars_29 : decode cX6_restsAtBars 29 = .ok (.iload_n 3, 1) := by decide +kernel
theorem dX6_restsAtBars_30 : decode cX6_restsAtBars 30 = .ok (.iconst 1, 1) := by decide +kernel
theorem dX6_restsAtBars_31 : decode cX6_restsAtBars 31 = .ok (.isub, 1) := by decide +kernel
theorem dX6_restsAtBars_32 : decode cX6_restsAtBars 32 = .ok (.invokevirtual 84, 3) := by decide +kernel
theorem dX6_restsAtBars_35 : decode cX6_restsAtBars 35 = .ok (.if_icmp .eq 7, 3) := by decide +kernel
theorem dX6_restsAtBars_38 : decode cX6_restsAtBars 38 = .ok (.iconst 1, 1) := by decide +kernel
theorem dX6_restsAtBars_39 : decode cX6_restsAtBars 39 = .ok (.goto 4, 3) := by decide +kernel
theorem dX6_restsAtBars_42 : decode cX6_restsAtBars 42 = .ok (.iconst 0, 1) := by decide +kernel
theorem dX6_restsAtBars_43 : decode cX6_restsAtBars 43 = .ok (.istore 4, 2) := by decide +kernel
theorem dX6_restsAtBars_45 : decode cX6_restsAtBars 45 = .ok (.iload_n 1, 1) := by decide +kernel
theorem dX6_restsAtBars_46 : decode cX6_restsAtBars 46 = .ok (.iload 4, 2) := by decide +kernel
theorem dX6_restsAtBars_48 : decode cX6_restsAtBars 48 = .ok (.ifCond .eq 25, 3) := by decide +kernel
theorem dX6_restsAtBars_51 : decode cX6_restsAtBars 51 = .ok (.aload_n 0, 1) := by decide +kernel
theorem dX6_restsAtBars_52 : decode cX6_restsAtBars 52 = .ok (.getfield 9, 3) := by decide +kernel
theorem dX6_restsAtBars_55 : decode cX6_restsAtBars 55 = .ok (.aload_n 0, 1) := by decide +kernel
theorem dX6_restsAtBars_56 : decode cX6_restsAtBars 56 = .ok (.getfield 9, 3) := by decide +kernel
theorem dX6_restsAtBars_59 : decode cX6_restsAtBars 59 = .ok (.iload_n 3, 1) := by decide +kernel
theorem dX6_restsAtBars_60 : decode cX6_restsAtBars 60 = .ok (.invokevirtual 21, 3) := by decide +kernel
theorem dX6_restsAtBars_63 : decode cX6_restsAtBars 63 = .ok (.invokevirtual 24, 3) := by decide +kernel
theorem dX6_restsAtBars_66 : decode cX6_restsAtBars 66 = .ok (.ifCond .eq 7, 3) := by decide +kernel
theorem dX6_restsAtBars_69 : decode cX6_restsAtBars 69 = .ok (.iconst 1, 1) := by decide +kernel
theorem dX6_restsAtBars_70 : decode cX6_restsAtBars 70 = .ok (.goto 4, 3) := by decide +kernel
theorem dX6_restsAtBars_73 : decode cX6_restsAtBars 73 = .ok (.iconst 0, 1) := by decide +kernel
theorem dX6_restsAtBars_74 : decode cX6_restsAtBars 74 = .ok (.iadd, 1) := by decide +kernel
theorem dX6_restsAtBars_75 : decode cX6_restsAtBars 75 = .ok (.istore_n 1, 1) := by decide +kernel
theorem dX6_restsAtBars_76 : decode cX6_restsAtBars 76 = .ok (.iinc 3 1, 3) := by decide +kernel
theorem dX6_restsAtBars_79 : decode cX6_restsAtBars 79 = .ok (.goto (-67), 3) := by decide +kernel
theorem dX6_restsAtBars_82 : decode cX6_restsAtBars 82 = .ok (.iload_n 1, 1) := by decide +kernel
theorem dX6_restsAtBars_83 : decode cX6_restsAtBars 83 = .ok (.ireturn, 1) := by decide +kernel
theorem dX6_tiesByBeats_0 : decode cX6_tiesByBeats 0 = .ok (.iconst 0, 1) := by decide +kernel
theorem dX6_tiesByBeats_1 : decode cX6_tiesByBeats 1 = .ok (.istore_n 1, 1) := by decide +kernel
theorem dX6_tiesByBeats_2 : decode cX6_tiesByBeats 2 = .ok (.iconst 0, 1) := by decide +kernel
theorem dX6_tiesByBeats_3 : decode cX6_tiesByBeats 3 = .ok (.istore_n 2, 1) := by decide +kernel
theorem dX6_tiesByBeats_4 : decode cX6_tiesByBeats 4 = .ok (.aload_n 0, 1) := by decide +kernel
theorem dX6_tiesByBeats_5 : decode cX6_tiesByBeats 5 = .ok (.getfield 9, 3) := by decide +kernel
theorem dX6_tiesByBeats_8 : decode cX6_tiesByBeats 8 = .ok (.invokevirtual 81, 3) := by decide +kernel
theorem dX6_tiesByBeats_11 : decode cX6_tiesByBeats 11 = .ok (.istore_n 3, 1) := by decide +kernel
theorem dX6_tiesByBeats_12 : decode cX6_tiesByBeats 12 = .ok (.iconst 0, 1) := by decide +kernel
theorem dX6_tiesByBeats_13 : decode cX6_tiesByBeats 13 = .ok (.istore 4, 2) := by decide +kernel
theorem dX6_tiesByBeats_15 : decode cX6_tiesByBeats 15 = .ok (.iload 4, 2) := by decide +kernel
theorem dX6_tiesByBeats_17 : decode cX6_tiesByBeats 17 = .ok (.iload_n 3, 1) := by decide +kernel
theorem dX6_tiesByBeats_18 : decode cX6_tiesByBeats 18 = .ok (.if_icmp .ge 113, 3) := by decide +kernel
theorem dX6_tiesByBeats_21 : decode cX6_tiesByBeats 21 = .ok (.aload_n 0, 1) := by decide +kernel
theorem dX6_tiesByBeats_22 : decode cX6_tiesByBeats 22 = .ok (.getfield 9, 3) := by decide +kernel
theorem dX6_tiesByBeats_25 : decode cX6_tiesByBeats 25 = .ok (.iload 4, 2) := by decide +kernel
theorem dX6_tiesByBeats_27 : decode cX6_tiesByBeats 27 = .ok (.invokevirtual 21, 3) := by decide +kernel
theorem dX6_tiesByBeats_30 : decode cX6_tiesByBeats 30 = .ok (.istore 5, 2) := by decide +kernel
theorem dX6_tiesByBeats_32 : decode cX6_tiesByBeats 32 = .ok (.iload 5, 2) := by decide +kernel
theorem dX6_tiesByBeats_34 : decode cX6_tiesByBeats 34 = .ok (.aload_n 0, 1) := by decide +kernel
theorem dX6_tiesByBeats_35 : decode cX6_tiesByBeats 35 = .ok (.getfield 9, 3) := by decide +kernel
theorem dX6_tiesByBeats_38 : decode cX6_tiesByBeats 38 = .ok (.iload 4, 2) := by decide +kernel
theorem dX6_tiesByBeats_40 : decode cX6_tiesByBeats 40 = .ok (.iconst 1, 1) := by decide +kernel
theorem dX6_tiesByBeats_41 : decode cX6_tiesByBeats 41 = .ok (.isub, 1) := by decide +kernel
theorem dX6_tiesByBeats_42 : decode cX6_tiesByBeats 42 = .ok (.invokevirtual 21, 3) := by decide +kernel
theorem dX6_tiesByBeats_45 : decode cX6_tiesByBeats 45 = .ok (.if_icmp .eq 7, 3) := by decide +kernel
theorem dX6_tiesByBeats_48 : decode cX6_tiesByBeats 48 = .ok (.iconst 1, 1) := by decide +kernel
theorem dX6_tiesByBeats_49 : decode cX6_tiesByBeats 49 = .ok (.goto 4, 3) := by decide +kernel
theorem dX6_tiesByBeats_52 : decode cX6_tiesByBeats 52 = .ok (.iconst 0, 1) := by decide +kernel
theorem dX6_tiesByBeats_53 : decode cX6_tiesByBeats 53 = .ok (.istore 6, 2) := by decide +kernel
theorem dX6_tiesByBeats_55 : decode cX6_tiesByBeats 55 = .ok (.iload 6, 2) := by decide +kernel
theorem dX6_tiesByBeats_57 : decode cX6_tiesByBeats 57 = .ok (.ifCond .ne 29, 3) := by decide +kernel
theorem dX6_tiesByBeats_60 : decode cX6_tiesByBeats 60 = .ok (.aload_n 0, 1) := by decide +kernel
theorem dX6_tiesByBeats_61 : decode cX6_tiesByBeats 61 = .ok (.getfield 9, 3) := by decide +kernel
theorem dX6_tiesByBeats_64 : decode cX6_tiesByBeats 64 = .ok (.iload 4, 2) := by decide +kernel
theorem dX6_tiesByBeats_66 : decode cX6_tiesByBeats 66 = .ok (.invokevirtual 84, 3) := by decide +kernel
theorem dX6_tiesByBeats_69 : decode cX6_tiesByBeats 69 = .ok (.aload_n 0, 1) := by decide +kernel
theorem dX6_tiesByBeats_70 : decode cX6_tiesByBeats 70 = .ok (.getfield 9, 3) := by decide +kernel
theorem dX6_tiesByBeats_73 : decode cX6_tiesByBeats 73 = .ok (.iload 4, 2) := by decide +kernel
theorem dX6_tiesByBeats_75 : decode cX6_tiesByBeats 75 = .ok (.iconst 1, 1) := by decide +kernel
theorem dX6_tiesByBeats_76 : decode cX6_tiesByBeats 76 = .ok (.isub, 1) := by decide +kernel
theorem dX6_tiesByBeats_77 : decode cX6_tiesByBeats 77 = .ok (.invokevirtual 84, 3) := by decide +kernel
theorem dX6_tiesByBeats_80 : decode cX6_tiesByBeats 80 = .ok (.if_icmp .ne 6, 3) := by decide +kernel
theorem dX6_tiesByBeats_83 : decode cX6_tiesByBeats 83 = .ok (.goto 42, 3) := by decide +kernel
theorem dX6_tiesByBeats_86 : decode cX6_tiesByBeats 86 = .ok (.iload 6, 2) := by decide +kernel
theorem dX6_tiesByBeats_88 : decode cX6_tiesByBeats 88 = .ok (.ifCond .eq 7, 3) := by decide +kernel
theorem dX6_tiesByBeats_91 : decode cX6_tiesByBeats 91 = .ok (.iconst 1, 1) := by decide +kernel
theorem dX6_tiesByBeats_92 : decode cX6_tiesByBeats 92 = .ok (.goto 6, 3) := by decide +kernel
theorem dX6_tiesByBeats_95 : decode cX6_tiesByBeats 95 = .ok (.iload_n 2, 1) := by decide +kernel
theorem dX6_tiesByBeats_96 : decode cX6_tiesByBeats 96 = .ok (.iconst 1, 1) := by decide +kernel
theorem dX6_tiesByBeats_97 : decode cX6_tiesByBeats 97 = .ok (.iadd, 1) := by decide +kernel
theorem dX6_tiesByBeats_98 : decode cX6_tiesByBeats 98 = .ok (.istore_n 2, 1) := by decide +kernel
theorem dX6_tiesByBeats_99 : decode cX6_tiesByBeats 99 = .ok (.iload_n 1, 1) := by decide +kernel
theorem dX6_tiesByBeats_100 : decode cX6_tiesByBeats 100 = .ok (.iload_n 2, 1) := by decide +kernel
theorem dX6_tiesByBeats_101 : decode cX6_tiesByBeats 101 = .ok (.aload_n 0, 1) := by decide +kernel
theorem dX6_tiesByBeats_102 : decode cX6_tiesByBeats 102 = .ok (.getfield 9, 3) := by decide +kernel
theorem dX6_tiesByBeats_105 : decode cX6_tiesByBeats 105 = .ok (.iload 5, 2) := by decide +kernel
theorem dX6_tiesByBeats_107 : decode cX6_tiesByBeats 107 = .ok (.invokevirtual 24, 3) := by decide +kernel
theorem dX6_tiesByBeats_110 : decode cX6_tiesByBeats 110 = .ok (.invokestatic 40, 3) := by decide +kernel
theorem dX6_tiesByBeats_113 : decode cX6_tiesByBeats 113 = .ok (.iconst 1, 1) := by decide +kernel
theorem dX6_tiesByBeats_114 : decode cX6_tiesByBeats 114 = .ok (.iadd, 1) := by decide +kernel
theorem dX6_tiesByBeats_115 : decode cX6_tiesByBeats 115 = .ok (.if_icmp .ne 7, 3) := by decide +kernel
theorem dX6_tiesByBeats_118 : decode cX6_tiesByBeats 118 = .ok (.iconst 1, 1) := by decide +kernel
theorem dX6_tiesByBeats_119 : decode cX6_tiesByBeats 119 = .ok (.goto 4, 3) := by decide +kernel
theorem dX6_tiesByBeats_122 : decode cX6_tiesByBeats 122 = .ok (.iconst 0, 1) := by decide +kernel
theorem dX6_tiesByBeats_123 : decode cX6_tiesByBeats 123 = .ok (.iadd, 1) := by decide +kernel
theorem dX6_tiesByBeats_124 : decode cX6_tiesByBeats 124 = .ok (.istore_n 1, 1) := by decide +kernel
theorem dX6_tiesByBeats_125 : decode cX6_tiesByBeats 125 = .ok (.iinc 4 1, 3) := by decide +kernel
theorem dX6_tiesByBeats_128 : decode cX6_tiesByBeats 128 = .ok (.goto (-113), 3) := by decide +kernel
theorem dX6_tiesByBeats_131 : decode cX6_tiesByBeats 131 = .ok (.iload_n 1, 1) := by decide +kernel
theorem dX6_tiesByBeats_132 : decode cX6_tiesByBeats 132 = .ok (.ireturn, 1) := by decide +kernel
theorem dX6_countWith_0 : decode cX6_countWith 0 = .ok (.aload_n 0, 1) := by decide +kernel
theorem dX6_countWith_1 : decode cX6_countWith 1 = .ok (.getfield 9, 3) := by decide +kernel
theorem dX6_countWith_4 : decode cX6_countWith 4 = .ok (.iload_n 1, 1) := by decide +kernel
theorem dX6_countWith_5 : decode cX6_countWith 5 = .ok (.iload_n 2, 1) := by decide +kernel
theorem dX6_countWith_6 : decode cX6_countWith 6 = .ok (.invokevirtual 87, 3) := by decide +kernel
theorem dX6_countWith_9 : decode cX6_countWith 9 = .ok (.istore_n 3, 1) := by decide +kernel
theorem dX6_countWith_10 : decode cX6_countWith 10 = .ok (.aload_n 0, 1) := by decide +kernel
theorem dX6_countWith_11 : decode cX6_countWith 11 = .ok (.invokevirtual 91, 3) := by decide +kernel
theorem dX6_countWith_14 : decode cX6_countWith 14 = .ok (.istore 4, 2) := by decide +kernel
theorem dX6_countWith_16 : decode cX6_countWith 16 = .ok (.aload_n 0, 1) := by decide +kernel
theorem dX6_countWith_17 : decode cX6_countWith 17 = .ok (.getfield 9, 3) := by decide +kernel
theorem dX6_countWith_20 : decode cX6_countWith 20 = .ok (.iload_n 1, 1) := by decide +kernel
theorem dX6_countWith_21 : decode cX6_countWith 21 = .ok (.iload_n 3, 1) := by decide +kernel
theorem dX6_countWith_22 : decode cX6_countWith 22 = .ok (.invokevirtual 87, 3) := by decide +kernel
theorem dX6_countWith_25 : decode cX6_countWith 25 = .ok (.pop, 1) := by decide +kernel
theorem dX6_countWith_26 : decode cX6_countWith 26 = .ok (.iload 4, 2) := by decide +kernel
theorem dX6_countWith_28 : decode cX6_countWith 28 = .ok (.ireturn, 1) := by decide +kernel
theorem dX6_isToldAlike_0 : decode cX6_isToldAlike 0 = .ok (.iconst 1, 1) := by decide +kernel
theorem dX6_isToldAlike_1 : decode cX6_isToldAlike 1 = .ok (.istore_n 1, 1) := by decide +kernel
theorem dX6_isToldAlike_2 : decode cX6_isToldAlike 2 = .ok (.iload_n 1, 1) := by decide +kernel
theorem dX6_isToldAlike_3 : decode cX6_isToldAlike 3 = .ok (.iconst 4, 1) := by decide +kernel
theorem dX6_isToldAlike_4 : decode cX6_isToldAlike 4 = .ok (.if_icmp .gt 24, 3) := by decide +kernel
theorem dX6_isToldAlike_7 : decode cX6_isToldAlike 7 = .ok (.aload_n 0, 1) := by decide +kernel
theorem dX6_isToldAlike_8 : decode cX6_isToldAlike 8 = .ok (.iload_n 1, 1) := by decide +kernel
theorem dX6_isToldAlike_9 : decode cX6_isToldAlike 9 = .ok (.invokevirtual 69, 3) := by decide +kernel
theorem dX6_isToldAlike_12 : decode cX6_isToldAlike 12 = .ok (.aload_n 0, 1) := by decide +kernel
theorem dX6_isToldAlike_13 : decode cX6_isToldAlike 13 = .ok (.iload_n 1, 1) := by decide +kernel
theorem dX6_isToldAlike_14 : decode cX6_isToldAlike 14 = .ok (.invokevirtual 94, 3) := by decide +kernel
theorem dX6_isToldAlike_17 : decode cX6_isToldAlike 17 = .ok (.if_icmp .eq 5, 3) := by decide +kernel
theorem dX6_isToldAlike_20 : decode cX6_isToldAlike 20 = .ok (.iconst 0, 1) := by decide +kernel
theorem dX6_isToldAlike_21 : decode cX6_isToldAlike 21 = .ok (.ireturn, 1) := by decide +kernel
theorem dX6_isToldAlike_22 : decode cX6_isToldAlike 22 = .ok (.iinc 1 1, 3) := by decide +kernel
theorem dX6_isToldAlike_25 : decode cX6_isToldAlike 25 = .ok (.goto (-23), 3) := by decide +kernel
theorem dX6_isToldAlike_28 : decode cX6_isToldAlike 28 = .ok (.iconst 1, 1) := by decide +kernel
theorem dX6_isToldAlike_29 : decode cX6_isToldAlike 29 = .ok (.ireturn, 1) := by decide +kernel
theorem dX7_init_0 : decode cX7_init 0 = .ok (.aload_n 0, 1) := by decide +kernel
theorem dX7_init_1 : decode cX7_init 1 = .ok (.invokespecial 3, 3) := by decide +kernel
theorem dX7_init_4 : decode cX7_init 4 = .ok (.aload_n 0, 1) := by decide +kernel
theorem dX7_init_5 : decode cX7_init 5 = .ok (.aload_n 1, 1) := by decide +kernel
theorem dX7_init_6 : decode cX7_init 6 = .ok (.putfield 9, 3) := by decide +kernel
theorem dX7_init_9 : decode cX7_init 9 = .ok (.return_, 1) := by decide +kernel
theorem dX7_tinAt_0 : decode cX7_tinAt 0 = .ok (.iconst 0, 1) := by decide +kernel
theorem dX7_tinAt_1 : decode cX7_tinAt 1 = .ok (.istore_n 2, 1) := by decide +kernel
theorem dX7_tinAt_2 : decode cX7_tinAt 2 = .ok (.iload_n 2, 1) := by decide +kernel
theorem dX7_tinAt_3 : decode cX7_tinAt 3 = .ok (.iconst 4, 1) := by decide +kernel
theorem dX7_tinAt_4 : decode cX7_tinAt 4 = .ok (.if_icmp .ge 20, 3) := by decide +kernel
theorem dX7_tinAt_7 : decode cX7_tinAt 7 = .ok (.aload_n 0, 1) := by decide +kernel
theorem dX7_tinAt_8 : decode cX7_tinAt 8 = .ok (.iload_n 2, 1) := by decide +kernel
theorem dX7_tinAt_9 : decode cX7_tinAt 9 = .ok (.invokevirtual 15, 3) := by decide +kernel
theorem dX7_tinAt_12 : decode cX7_tinAt 12 = .ok (.iload_n 1, 1) := by decide +kernel
theorem dX7_tinAt_13 : decode cX7_tinAt 13 = .ok (.if_icmp .ne 5, 3) := by decide +kernel
theorem dX7_tinAt_16 : decode cX7_tinAt 16 = .ok (.iload_n 2, 1) := by decide +kernel
theorem dX7_tinAt_17 : decode cX7_tinAt 17 = .ok (.ireturn, 1) := by decide +kernel
theorem dX7_tinAt_18 : decode cX7_tinAt 18 = .ok (.iinc 2 1, 3) := by decide +kernel
theorem dX7_tinAt_21 : decode cX7_tinAt 21 = .ok (.goto (-19), 3) := by decide +kernel
theorem dX7_tinAt_24 : decode cX7_tinAt 24 = .ok (.iconst (-1), 1) := by decide +kernel
theorem dX7_tinAt_25 : decode cX7_tinAt 25 = .ok (.ireturn, 1) := by decide +kernel
theorem dX7_placeOfTin_0 : decode cX7_placeOfTin 0 = .ok (.iconst 0, 1) := by decide +kernel
theorem dX7_placeOfTin_1 : decode cX7_placeOfTin 1 = .ok (.istore_n 2, 1) := by decide +kernel
theorem dX7_placeOfTin_2 : decode cX7_placeOfTin 2 = .ok (.iconst 0, 1) := by decide +kernel
theorem dX7_placeOfTin_3 : decode cX7_placeOfTin 3 = .ok (.istore_n 3, 1) := by decide +kernel
theorem dX7_placeOfTin_4 : decode cX7_placeOfTin 4 = .ok (.iload_n 3, 1) := by decide +kernel
theorem dX7_placeOfTin_5 : decode cX7_placeOfTin 5 = .ok (.iconst 4, 1) := by decide +kernel
theorem dX7_placeOfTin_6 : decode cX7_placeOfTin 6 = .ok (.if_icmp .ge 26, 3) := by decide +kernel
theorem dX7_placeOfTin_9 : decode cX7_placeOfTin 9 = .ok (.iload_n 2, 1) := by decide +kernel
theorem dX7_placeOfTin_10 : decode cX7_placeOfTin 10 = .ok (.aload_n 0, 1) := by decide +kernel
theorem dX7_placeOfTin_11 : decode cX7_placeOfTin 11 = .ok (.iload_n 3, 1) := by decide +kernel
theorem dX7_placeOfTin_12 : decode cX7_placeOfTin 12 = .ok (.iload_n 1, 1) := by decide +kernel
theorem dX7_placeOfTin_13 : decode cX7_placeOfTin 13 = .ok (.invokevirtual 19, 3) := by decide +kernel
theorem dX7_placeOfTin_16 : decode cX7_placeOfTin 16 = .ok (.ifCond .eq 7, 3) := by decide +kernel
theorem dX7_placeOfTin_19 : decode cX7_placeOfTin 19 = .ok (.iconst 1, 1) := by decide +kernel
theorem dX7_placeOfTin_20 : decode cX7_placeOfTin 20 = .ok (.goto 4, 3) := by decide +kernel
theorem dX7_placeOfTin_23 : decode cX7_placeOfTin 23 = .ok (.iconst 0, 1) := by decide +kernel
theorem dX7_placeOfTin_24 : decode cX7_placeOfTin 24 = .ok (.iadd, 1) := by decide +kernel
theorem dX7_placeOfTin_25 : decode cX7_placeOfTin 25 = .ok (.istore_n 2, 1) := by decide +kernel
theorem dX7_placeOfTin_26 : decode cX7_placeOfTin 26 = .ok (.iinc 3 1, 3) := by decide +kernel
theorem dX7_placeOfTin_29 : decode cX7_placeOfTin 29 = .ok (.goto (-25), 3) := by decide +kernel
theorem dX7_placeOfTin_32 : decode cX7_placeOfTin 32 = .ok (.iload_n 2, 1) := by decide +kernel
theorem dX7_placeOfTin_33 : decode cX7_placeOfTin 33 = .ok (.ireturn, 1) := by decide +kernel
theorem dX7_isTinAhead_0 : decode cX7_isTinAhead 0 = .ok (.aload_n 0, 1) := by decide +kernel
theorem dX7_isTinAhead_1 : decode cX7_isTinAhead 1 = .ok (.getfield 9, 3) := by decide +kernel
theorem dX7_isTinAhead_4 : decode cX7_isTinAhead 4 = .ok (.iload_n 1, 1) := by decide +kernel
theorem dX7_isTinAhead_5 : decode cX7_isTinAhead 5 = .ok (.invokevirtual 23, 3) := by decide +kernel
theorem dX7_isTinAhead_8 : decode cX7_isTinAhead 8 = .ok (.aload_n 0, 1) := by decide +kernel
theorem dX7_isTinAhead_9 : decode cX7_isTinAhead 9 = .ok (.getfield 9, 3) := by decide +kernel
theorem dX7_isTinAhead_12 : decode cX7_isTinAhead 12 = .ok (.iload_n 2, 1) := by decide +kernel
theorem dX7_isTinAhead_13 : decode cX7_isTinAhead 13 = .ok (.invokevirtual 23, 3) := by decide +kernel
theorem dX7_isTinAhead_16 : decode cX7_isTinAhead 16 = .ok (.isub, 1) := by decide +kernel
theorem dX7_isTinAhead_17 : decode cX7_isTinAhead 17 = .ok (.istore_n 3, 1) := by decide +kernel
theorem dX7_isTinAhead_18 : decode cX7_isTinAhead 18 = .ok (.iload_n 3, 1) := by decide +kernel
theorem dX7_isTinAhead_19 : decode cX7_isTinAhead 19 = .ok (.ifCond .eq 13, 3) := by decide +kernel
theorem dX7_isTinAhead_22 : decode cX7_isTinAhead 22 = .ok (.iload_n 3, 1) := by decide +kernel
theorem dX7_isTinAhead_23 : decode cX7_isTinAhead 23 = .ok (.ifCond .le 7, 3) := by decide +kernel
theorem dX7_isTinAhead_26 : decode cX7_isTinAhead 26 = .ok (.iconst 1, 1) := by decide +kernel
theorem dX7_isTinAhead_27 : decode cX7_isTinAhead 27 = .ok (.goto 4, 3) := by decide +kernel
theorem dX7_isTinAhead_30 : decode cX7_isTinAhead 30 = .ok (.iconst 0, 1) := by decide +kernel
theorem dX7_isTinAhead_31 : decode cX7_isTinAhead 31 = .ok (.ireturn, 1) := by decide +kernel
theorem dX7_isTinAhead_32 : decode cX7_isTinAhead 32 = .ok (.aload_n 0, 1) := by decide +kernel
theorem dX7_isTinAhead_33 : decode cX7_isTinAhead 33 = .ok (.getfield 9, 3) := by decide +kernel
theorem dX7_isTinAhead_36 : decode cX7_isTinAhead 36 = .ok (.iload_n 1, 1) := by decide +kernel
theorem dX7_isTinAhead_37 : decode cX7_isTinAhead 37 = .ok (.invokevirtual 28, 3) := by decide +kernel
theorem dX7_isTinAhead_40 : decode cX7_isTinAhead 40 = .ok (.aload_n 0, 1) := by decide +kernel
theorem dX7_isTinAhead_41 : decode cX7_isTinAhead 41 = .ok (.getfield 9, 3) := by decide +kernel
theorem dX7_isTinAhead_44 : decode cX7_isTinAhead 44 = .ok (.iload_n 2, 1) := by decide +kernel
theorem dX7_isTinAhead_45 : decode cX7_isTinAhead 45 = .ok (.invokevirtual 28, 3) := by decide +kernel
theorem dX7_isTinAhead_48 : decode cX7_isTinAhead 48 = .ok (.isub, 1) := by decide +kernel
theorem dX7_isTinAhead_49 : decode cX7_isTinAhead 49 = .ok (.istore 4, 2) := by decide +kernel
theorem dX7_isTinAhead_51 : decode cX7_isTinAhead 51 = .ok (.iload 4, 2) := by decide +kernel
theorem dX7_isTinAhead_53 : decode cX7_isTinAhead 53 = .ok (.ifCond .eq 16, 3) := by decide +kernel
theorem dX7_isTinAhead_56 : decode cX7_isTinAhead 56 = .ok (.iload 4, 2) := by decide +kernel
theorem dX7_isTinAhead_58 : decode cX7_isTinAhead 58 = .ok (.ifCond .le 7, 3) := by decide +kernel
theorem dX7_isTinAhead_61 : decode cX7_isTinAhead 61 = .ok (.iconst 1, 1) := by decide +kernel
theorem dX7_isTinAhead_62 : decode cX7_isTinAhead 62 = .ok (.goto 17, 3) := by decide +kernel
theorem dX7_isTinAhead_65 : decode cX7_isTinAhead 65 = .ok (.iconst 0, 1) := by decide +kernel
theorem dX7_isTinAhead_66 : decode cX7_isTinAhead 66 = .ok (.goto 13, 3) := by decide +kernel
theorem dX7_isTinAhead_69 : decode cX7_isTinAhead 69 = .ok (.iload_n 1, 1) := by decide +kernel
theorem dX7_isTinAhead_70 : decode cX7_isTinAhead 70 = .ok (.iload_n 2, 1) := by decide +kernel
theorem dX7_isTinAhead_71 : decode cX7_isTinAhead 71 = .ok (.if_icmp .ge 7, 3) := by decide +kernel
theorem dX7_isTinAhead_74 : decode cX7_isTinAhead 74 = .ok (.iconst 1, 1) := by decide +kernel
theorem dX7_isTinAhead_75 : decode cX7_isTinAhead 75 = .ok (.goto 4, 3) := by decide +kernel
theorem dX7_isTinAhead_78 : decode cX7_isTinAhead 78 = .ok (.iconst 0, 1) := by decide +kernel
theorem dX7_isTinAhead_79 : decode cX7_isTinAhead 79 = .ok (.ireturn, 1) := by decide +kernel
theorem dX7_dropAt_0 : decode cX7_dropAt 0 = .ok (.iconst 0, 1) := by decide +kernel
theorem dX7_dropAt_1 : decode cX7_dropAt 1 = .ok (.istore_n 2, 1) := by decide +kernel
theorem dX7_dropAt_2 : decode cX7_dropAt 2 = .ok (.iload_n 2, 1) := by decide +kernel
theorem dX7_dropAt_3 : decode cX7_dropAt 3 = .ok (.aload_n 0, 1) := by decide +kernel
theorem dX7_dropAt_4 : decode cX7_dropAt 4 = .ok (.getfield 9, 3) := by decide +kernel
theorem dX7_dropAt_7 : decode cX7_dropAt 7 = .ok (.invokevirtual 31, 3) := by decide +kernel
theorem dX7_dropAt_10 : decode cX7_dropAt 10 = .ok (.if_icmp .ge 31, 3) := by decide +kernel
theorem dX7_dropAt_13 : decode cX7_dropAt 13 = .ok (.aload_n 0, 1) := by decide +kernel
theorem dX7_dropAt_14 : decode cX7_dropAt 14 = .ok (.getfield 9, 3) := by decide +kernel
theorem dX7_dropAt_17 : decode cX7_dropAt 17 = .ok (.iload_n 2, 1) := by decide +kernel
theorem dX7_dropAt_18 : decode cX7_dropAt 18 = .ok (.invokevirtual 35, 3) := by decide +kernel
theorem dX7_dropAt_21 : decode cX7_dropAt 21 = .ok (.ifCond .ne 14, 3) := by decide +kernel
theorem dX7_dropAt_24 : decode cX7_dropAt 24 = .ok (.aload_n 0, 1) := by decide +kernel
theorem dX7_dropAt_25 : decode cX7_dropAt 25 = .ok (.iload_n 2, 1) := by decide +kernel
theorem dX7_dropAt_26 : decode cX7_dropAt 26 = .ok (.invokevirtual 39, 3) := by decide +kernel
theorem dX7_dropAt_29 : decode cX7_dropAt 29 = .ok (.iload_n 1, 1) := by decide +kernel
theorem dX7_dropAt_30 : decode cX7_dropAt 30 = .ok (.if_icmp .ne 5, 3) := by decide +kernel
theorem dX7_dropAt_33 : decode cX7_dropAt 33 = .ok (.iload_n 2, 1) := by decide +kernel
theorem dX7_dropAt_34 : decode cX7_dropAt 34 = .ok (.ireturn, 1) := by decide +kernel
theorem dX7_dropAt_35 : decode cX7_dropAt 35 = .ok (.iinc 2 1, 3) := by decide +kernel
theorem dX7_dropAt_38 : decode cX7_dropAt 38 = .ok (.goto (-36), 3) := by decide +kernel
theorem dX7_dropAt_41 : decode cX7_dropAt 41 = .ok (.iconst (-1), 1) := by decide +kernel
theorem dX7_dropAt_42 : decode cX7_dropAt 42 = .ok (.ireturn, 1) := by decide +kernel
theorem dX7_placeOfDrop_0 : decode cX7_placeOfDrop 0 = .ok (.iconst 0, 1) := by decide +kernel
theorem dX7_placeOfDrop_1 : decode cX7_placeOfDrop 1 = .ok (.istore_n 2, 1) := by decide +kernel
theorem dX7_placeOfDrop_2 : decode cX7_placeOfDrop 2 = .ok (.iconst 0, 1) := by decide +kernel
theorem dX7_placeOfDrop_3 : decode cX7_placeOfDrop 3 = .ok (.istore_n 3, 1) := by decide +kernel
theorem dX7_placeOfDrop_4 : decode cX7_placeOfDrop 4 = .ok (.iload_n 3, 1) := by decide +kernel
theorem dX7_placeOfDrop_5 : decode cX7_placeOfDrop 5 = .ok (.aload_n 0, 1) := by decide +kernel
theorem dX7_placeOfDrop_6 : decode cX7_placeOfDrop 6 = .ok (.getfield 9, 3) := by decide +kernel
theorem dX7_placeOfDrop_9 : decode cX7_placeOfDrop 9 = .ok (.invokevirtual 31, 3) := by decide +kernel
theorem dX7_placeOfDrop_12 : decode cX7_placeOfDrop 12 = .ok (.if_icmp .ge 37, 3) := by decide +kernel
theorem dX7_placeOfDrop_15 : decode cX7_placeOfDrop 15 = .ok (.iload_n 2, 1) := by decide +kernel
theorem dX7_placeOfDrop_16 : decode cX7_placeOfDrop 16 = .ok (.aload_n 0, 1) := by decide +kernel
theorem dX7_placeOfDrop_17 : decode cX7_placeOfDrop 17 = .ok (.getfield 9, 3) := by decide +kernel
theorem dX7_placeOfDrop_20 : decode cX7_placeOfDrop 20 = .ok (.iload_n 3, 1) := by decide +kernel
theorem dX7_placeOfDrop_21 : decode cX7_placeOfDrop 21 = .ok (.invokevirtual 35, 3) := by decide +kernel
theorem dX7_placeOfDrop_24 : decode cX7_placeOfDrop 24 = .ok (.ifCond .ne 16, 3) := by decide +kernel
theorem dX7_placeOfDrop_27 : decode cX7_placeOfDrop 27 = .ok (.aload_n 0, 1) := by decide +kernel
theorem dX7_placeOfDrop_28 : decode cX7_placeOfDrop 28 = .ok (.iload_n 3, 1) := by decide +kernel
theorem dX7_placeOfDrop_29 : decode cX7_placeOfDrop 29 = .ok (.iload_n 1, 1) := by decide +kernel
theorem dX7_placeOfDrop_30 : decode cX7_placeOfDrop 30 = .ok (.invokevirtual 42, 3) := by decide +kernel
theorem dX7_placeOfDrop_33 : decode cX7_placeOfDrop 33 = .ok (.ifCond .eq 7, 3) := by decide +kernel
theorem dX7_placeOfDrop_36 : decode cX7_placeOfDrop 36 = .ok (.iconst 1, 1) := by decide +kernel
theorem dX7_placeOfDrop_37 : decode cX7_placeOfDrop 37 = .ok (.goto 4, 3) := by decide +kernel
theorem dX7_placeOfDrop_40 : decode cX7_placeOfDrop 40 = .ok (.iconst 0, 1) := by decide +kernel
theorem dX7_placeOfDrop_41 : decode cX7_placeOfDrop 41 = .ok (.iadd, 1) := by decide +kernel
theorem dX7_placeOfDrop_42 : decode cX7_placeOfDrop 42 = .ok (.istore_n 2, 1) := by decide +kernel
theorem dX7_placeOfDrop_43 : decode cX7_placeOfDrop 43 = .ok (.iinc 3 1, 3) := by decide +kernel
theorem dX7_placeOfDrop_46 : decode cX7_placeOfDrop 46 = .ok (.goto (-42), 3) := by decide +kernel
theorem dX7_placeOfDrop_49 : decode cX7_placeOfDrop 49 = .ok (.iload_n 2, 1) := by decide +kernel
theorem dX7_placeOfDrop_50 : decode cX7_placeOfDrop 50 = .ok (.ireturn, 1) := by decide +kernel
theorem dX7_isDropAhead_0 : decode cX7_isDropAhead 0 = .ok (.aload_n 0, 1) := by decide +kernel
theorem dX7_isDropAhead_1 : decode cX7_isDropAhead 1 = .ok (.getfield 9, 3) := by decide +kernel
theorem dX7_isDropAhead_4 : decode cX7_isDropAhead 4 = .ok (.iload_n 1, 1) := by decide +kernel
theorem dX7_isDropAhead_5 : decode cX7_isDropAhead 5 = .ok (.invokevirtual 45, 3) := by decide +kernel
theorem dX7_isDropAhead_8 : decode cX7_isDropAhead 8 = .ok (.aload_n 0, 1) := by decide +kernel
theorem dX7_isDropAhead_9 : decode cX7_isDropAhead 9 = .ok (.getfield 9, 3) := by decide +kernel
theorem dX7_isDropAhead_12 : decode cX7_isDropAhead 12 = .ok (.iload_n 2, 1) := by decide +kernel
theorem dX7_isDropAhead_13 : decode cX7_isDropAhead 13 = .ok (.invokevirtual 45, 3) := by decide +kernel
theorem dX7_isDropAhead_16 : decode cX7_isDropAhead 16 = .ok (.isub, 1) := by decide +kernel
theorem dX7_isDropAhead_17 : decode cX7_isDropAhead 17 = .ok (.istore_n 3, 1) := by decide +kernel
theorem dX7_isDropAhead_18 : decode cX7_isDropAhead 18 = .ok (.iload_n 3, 1) := by decide +kernel
theorem dX7_isDropAhead_19 : decode cX7_isDropAhead 19 = .ok (.ifCond .eq 13, 3) := by decide +kernel
theorem dX7_isDropAhead_22 : decode cX7_isDropAhead 22 = .ok (.iload_n 3, 1) := by decide +kernel
theorem dX7_isDropAhead_23 : decode cX7_isDropAhead 23 = .ok (.ifCond .le 7, 3) := by decide +kernel
theorem dX7_isDropAhead_26 : decode cX7_isDropAhead 26 = .ok (.iconst 1, 1) := by decide +kernel
theorem dX7_isDropAhead_27 : decode cX7_isDropAhead 27 = .ok (.goto 4, 3) := by decide +kernel
theorem dX7_isDropAhead_30 : decode cX7_isDropAhead 30 = .ok (.iconst 0, 1) := by decide +kernel
theorem dX7_isDropAhead_31 : decode cX7_isDropAhead 31 = .ok (.ireturn, 1) := by decide +kernel
theorem dX7_isDropAhead_32 : decode cX7_isDropAhead 32 = .ok (.aload_n 0, 1) := by decide +kernel
theorem dX7_isDropAhead_33 : decode cX7_isDropAhead 33 = .ok (.getfield 9, 3) := by decide +kernel
theorem dX7_isDropAhead_36 : decode cX7_isDropAhead 36 = .ok (.iload_n 1, 1) := by decide +kernel
theorem dX7_isDropAhead_37 : decode cX7_isDropAhead 37 = .ok (.invokevirtual 48, 3) := by decide +kernel
theorem dX7_isDropAhead_40 : decode cX7_isDropAhead 40 = .ok (.aload_n 0, 1) := by decide +kernel
theorem dX7_isDropAhead_41 : decode cX7_isDropAhead 41 = .ok (.getfield 9, 3) := by decide +kernel
theorem dX7_isDropAhead_44 : decode cX7_isDropAhead 44 = .ok (.iload_n 2, 1) := by decide +kernel
theorem dX7_isDropAhead_45 : decode cX7_isDropAhead 45 = .ok (.invokevirtual 48, 3) := by decide +kernel
theorem dX7_isDropAhead_48 : decode cX7_isDropAhead 48 = .ok (.isub, 1) := by decide +kernel
theorem dX7_isDropAhead_49 : decode cX7_isDropAhead 49 = .ok (.istore 4, 2) := by decide +kernel
theorem dX7_isDropAhead_51 : decode cX7_isDropAhead 51 = .ok (.iload 4, 2) := by decide +kernel
theorem dX7_isDropAhead_53 : decode cX7_isDropAhead 53 = .ok (.ifCond .eq 16, 3) := by decide +kernel
theorem dX7_isDropAhead_56 : decode cX7_isDropAhead 56 = .ok (.iload 4, 2) := by decide +kernel
theorem dX7_isDropAhead_58 : decode cX7_isDropAhead 58 = .ok (.ifCond .le 7, 3) := by decide +kernel
theorem dX7_isDropAhead_61 : decode cX7_isDropAhead 61 = .ok (.iconst 1, 1) := by decide +kernel
theorem dX7_isDropAhead_62 : decode cX7_isDropAhead 62 = .ok (.goto 17, 3) := by decide +kernel
theorem dX7_isDropAhead_65 : decode cX7_isDropAhead 65 = .ok (.iconst 0, 1) := by decide +kernel
theorem dX7_isDropAhead_66 : decode cX7_isDropAhead 66 = .ok (.goto 13, 3) := by decide +kernel
theorem dX7_isDropAhead_69 : decode cX7_isDropAhead 69 = .ok (.iload_n 1, 1) := by decide +kernel
theorem dX7_isDropAhead_70 : decode cX7_isDropAhead 70 = .ok (.iload_n 2, 1) := by decide +kernel
theorem dX7_isDropAhead_71 : decode cX7_isDropAhead 71 = .ok (.if_icmp .ge 7, 3) := by decide +kernel
theorem dX7_isDropAhead_74 : decode cX7_isDropAhead 74 = .ok (.iconst 1, 1) := by decide +kernel
theorem dX7_isDropAhead_75 : decode cX7_isDropAhead 75 = .ok (.goto 4, 3) := by decide +kernel
theorem dX7_isDropAhead_78 : decode cX7_isDropAhead 78 = .ok (.iconst 0, 1) := by decide +kernel
theorem dX7_isDropAhead_79 : decode cX7_isDropAhead 79 = .ok (.ireturn, 1) := by decide +kernel
theorem dX8_init_0 : decode cX8_init 0 = .ok (.aload_n 0, 1) := by decide +kernel
theorem dX8_init_1 : decode cX8_init 1 = .ok (.invokespecial 3, 3) := by decide +kernel
theorem dX8_init_4 : decode cX8_init 4 = .ok (.aload_n 0, 1) := by decide +kernel
theorem dX8_init_5 : decode cX8_init 5 = .ok (.bipush 60, 2) := by decide +kernel
theorem dX8_init_7 : decode cX8_init 7 = .ok (.newarray .char, 2) := by decide +kernel
theorem dX8_init_9 : decode cX8_init 9 = .ok (.putfield 9, 3) := by decide +kernel
theorem dX8_init_12 : decode cX8_init 12 = .ok (.aload_n 0, 1) := by decide +kernel
theorem dX8_init_13 : decode cX8_init 13 = .ok (.bipush 12, 2) := by decide +kernel
theorem dX8_init_15 : decode cX8_init 15 = .ok (.anewarray 15, 3) := by decide +kernel
theorem dX8_init_18 : decode cX8_init 18 = .ok (.putfield 17, 3) := by decide +kernel
theorem dX8_init_21 : decode cX8_init 21 = .ok (.aload_n 0, 1) := by decide +kernel
theorem dX8_init_22 : decode cX8_init 22 = .ok (.bipush 36, 2) := by decide +kernel
theorem dX8_init_24 : decode cX8_init 24 = .ok (.newarray .int, 2) := by decide +kernel
theorem dX8_init_26 : decode cX8_init 26 = .ok (.putfield 21, 3) := by decide +kernel
theorem dX8_init_29 : decode cX8_init 29 = .ok (.aload_n 0, 1) := by decide +kernel
theorem dX8_init_30 : decode cX8_init 30 = .ok (.iconst 0, 1) := by decide +kernel
theorem dX8_init_31 : decode cX8_init 31 = .ok (.putfield 25, 3) := by decide +kernel
theorem dX8_init_34 : decode cX8_init 34 = .ok (.aload_n 0, 1) := by decide +kernel
theorem dX8_init_35 : decode cX8_init 35 = .ok (.iconst 0, 1) := by decide +kernel
theorem dX8_init_36 : decode cX8_init 36 = .ok (.putfield 29, 3) := by decide +kernel
theorem dX8_init_39 : decode cX8_init 39 = .ok (.aload_n 0, 1) := by decide +kernel
theorem dX8_init_40 : decode cX8_init 40 = .ok (.iconst 0, 1) := by decide +kernel
theorem dX8_init_41 : decode cX8_init 41 = .ok (.putfield 32, 3) := by decide +kernel
theorem dX8_init_44 : decode cX8_init 44 = .ok (.aload_n 0, 1) := by decide +kernel
theorem dX8_init_45 : decode cX8_init 45 = .ok (.iconst (-1), 1) := by decide +kernel
theorem dX8_init_46 : decode cX8_init 46 = .ok (.putfield 35, 3) := by decide +kernel
theorem dX8_init_49 : decode cX8_init 49 = .ok (.return_, 1) := by decide +kernel
theorem dX8_isFull_0 : decode cX8_isFull 0 = .ok (.aload_n 0, 1) := by decide +kernel
theorem dX8_isFull_1 : decode cX8_isFull 1 = .ok (.getfield 25, 3) := by decide +kernel
theorem dX8_isFull_4 : decode cX8_isFull 4 = .ok (.aload_n 0, 1) := by decide +kernel
theorem dX8_isFull_5 : decode cX8_isFull 5 = .ok (.getfield 9, 3) := by decide +kernel
theorem dX8_isFull_8 : decode cX8_isFull 8 = .ok (.arraylength, 1) := by decide +kernel
theorem dX8_isFull_9 : decode cX8_isFull 9 = .ok (.if_icmp .lt 7, 3) := by decide +kernel
theorem dX8_isFull_12 : decode cX8_isFull 12 = .ok (.iconst 1, 1) := by decide +kernel
theorem dX8_isFull_13 : decode cX8_isFull 13 = .ok (.goto 4, 3) := by decide +kernel
theorem dX8_isFull_16 : decode cX8_isFull 16 = .ok (.iconst 0, 1) := by decide +kernel
theorem dX8_isFull_17 : decode cX8_isFull 17 = .ok (.ireturn, 1) := by decide +kernel
theorem dX8_add_0 : decode cX8_add 0 = .ok (.aload_n 0, 1) := by decide +kernel
theorem dX8_add_1 : decode cX8_add 1 = .ok (.getfield 25, 3) := by decide +kernel
theorem dX8_add_4 : decode cX8_add 4 = .ok (.ifCond .lt 35, 3) := by decide +kernel
theorem dX8_add_7 : decode cX8_add 7 = .ok (.aload_n 0, 1) := by decide +kernel
theorem dX8_add_8 : decode cX8_add 8 = .ok (.getfield 25, 3) := by decide +kernel
theorem dX8_add_11 : decode cX8_add 11 = .ok (.aload_n 0, 1) := by decide +kernel
theorem dX8_add_12 : decode cX8_add 12 = .ok (.getfield 9, 3) := by decide +kernel
theorem dX8_add_15 : decode cX8_add 15 = .ok (.arraylength, 1) := by decide +kernel
theorem dX8_add_16 : decode cX8_add 16 = .ok (.if_icmp .ge 23, 3) := by decide +kernel
theorem dX8_add_19 : decode cX8_add 19 = .ok (.aload_n 0, 1) := by decide +kernel
theorem dX8_add_20 : decode cX8_add 20 = .ok (.getfield 9, 3) := by decide +kernel
theorem dX8_add_23 : decode cX8_add 23 = .ok (.aload_n 0, 1) := by decide +kernel
theorem dX8_add_24 : decode cX8_add 24 = .ok (.getfield 25, 3) := by decide +kernel
theorem dX8_add_27 : decode cX8_add 27 = .ok (.iload_n 1, 1) := by decide +kernel
theorem dX8_add_28 : decode cX8_add 28 = .ok (.castore, 1) := by decide +kernel
theorem dX8_add_29 : decode cX8_add 29 = .ok (.aload_n 0, 1) := by decide +kernel
theorem dX8_add_30 : decode cX8_add 30 = .ok (.dup, 1) := by decide +kernel
theorem dX8_add_31 : decode cX8_add 31 = .ok (.getfield 25, 3) := by decide +kernel
theorem dX8_add_34 : decode cX8_add 34 = .ok (.iconst 1, 1) := by decide +kernel
theorem dX8_add_35 : decode cX8_add 35 = .ok (.iadd, 1) := by decide +kernel
theorem dX8_add_36 : decode cX8_add 36 = .ok (.putfield 25, 3) := by decide +kernel
theorem dX8_add_39 : decode cX8_add 39 = .ok (.aload_n 0, 1) := by decide +kernel
theorem dX8_add_40 : decode cX8_add 40 = .ok (.getfield 25, 3) := by decide +kernel
theorem dX8_add_43 : decode cX8_add 43 = .ok (.ireturn, 1) := by decide +kernel
theorem dX8_countOfSigns_0 : decode cX8_countOfSigns 0 = .ok (.aload_n 0, 1) := by decide +kernel
theorem dX8_countOfSigns_1 : decode cX8_countOfSigns 1 = .ok (.getfield 25, 3) := by decide +kernel
theorem dX8_countOfSigns_4 : decode cX8_countOfSigns 4 = .ok (.ireturn, 1) := by decide +kernel
theorem dX8_countOfOrders_0 : decode cX8_countOfOrders 0 = .ok (.aload_n 0, 1) := by decide +kernel
theorem dX8_countOfOrders_1 : decode cX8_countOfOrders 1 = .ok (.getfield 32, 3) := by decide +kernel
theorem dX8_countOfOrders_4 : decode cX8_countOfOrders 4 = .ok (.ireturn, 1) := by decide +kernel
theorem dX8_orderAt_0 : decode cX8_orderAt 0 = .ok (.iload_n 1, 1) := by decide +kernel
theorem dX8_orderAt_1 : decode cX8_orderAt 1 = .ok (.ifCond .lt 21, 3) := by decide +kernel
theorem dX8_orderAt_4 : decode cX8_orderAt 4 = .ok (.iload_n 1, 1) := by decide +kernel
theorem dX8_orderAt_5 : decode cX8_orderAt 5 = .ok (.aload_n 0, 1) := by decide +kernel
theorem dX8_orderAt_6 : decode cX8_orderAt 6 = .ok (.getfield 17, 3) := by decide +kernel
theorem dX8_orderAt_9 : decode cX8_orderAt 9 = .ok (.arraylength, 1) := by decide +kernel
theorem dX8_orderAt_10 : decode cX8_orderAt 10 = .ok (.if_icmp .ge 12, 3) := by decide +kernel
theorem dX8_orderAt_13 : decode cX8_orderAt 13 = .ok (.aload_n 0, 1) := by decide +kernel
theorem dX8_orderAt_14 : decode cX8_orderAt 14 = .ok (.getfield 17, 3) := by decide +kernel
theorem dX8_orderAt_17 : decode cX8_orderAt 17 = .ok (.iload_n 1, 1) := by decide +kernel
theorem dX8_orderAt_18 : decode cX8_orderAt 18 = .ok (.aaload, 1) := by decide +kernel
theorem dX8_orderAt_19 : decode cX8_orderAt 19 = .ok (.goto 4, 3) := by decide +kernel
theorem dX8_orderAt_22 : decode cX8_orderAt 22 = .ok (.aconst_null, 1) := by decide +kernel
theorem dX8_orderAt_23 : decode cX8_orderAt 23 = .ok (.areturn, 1) := by decide +kernel
theorem dX8_numberAt_0 : decode cX8_numberAt 0 = .ok (.aload_n 0, 1) := by decide +kernel
theorem dX8_numberAt_1 : decode cX8_numberAt 1 = .ok (.getfield 21, 3) := by decide +kernel
theorem dX8_numberAt_4 : decode cX8_numberAt 4 = .ok (.iload_n 1, 1) := by decide +kernel
theorem dX8_numberAt_5 : decode cX8_numberAt 5 = .ok (.iconst 3, 1) := by decide +kernel
theorem dX8_numberAt_6 : decode cX8_numberAt 6 = .ok (.imul, 1) := by decide +kernel
theorem dX8_numberAt_7 : decode cX8_numberAt 7 = .ok (.iload_n 2, 1) := by decide +kernel
theorem dX8_numberAt_8 : decode cX8_numberAt 8 = .ok (.iadd, 1) := by decide +kernel
theorem dX8_numberAt_9 : decode cX8_numberAt 9 = .ok (.invokestatic 38, 3) := by decide +kernel
theorem dX8_numberAt_12 : decode cX8_numberAt 12 = .ok (.ireturn, 1) := by decide +kernel
theorem dX8_read_0 : decode cX8_read 0 = .ok (.aload_n 0, 1) := by decide +kernel
theorem dX8_read_1 : decode cX8_read 1 = .ok (.iconst 0, 1) := by decide +kernel
theorem dX8_read_2 : decode cX8_read 2 = .ok (.putfield 29, 3) := by decide +kernel
theorem dX8_read_5 : decode cX8_read 5 = .ok (.aload_n 0, 1) := by decide +kernel
theorem dX8_read_6 : decode cX8_read 6 = .ok (.iconst 0, 1) := by decide +kernel
theorem dX8_read_7 : decode cX8_read 7 = .ok (.putfield 32, 3) := by decide +kernel
theorem dX8_read_10 : decode cX8_read 10 = .ok (.aload_n 0, 1) := by decide +kernel
theorem dX8_read_11 : decode cX8_read 11 = .ok (.invokevirtual 42, 3) := by decide +kernel
theorem dX8_read_14 : decode cX8_read 14 = .ok (.istore_n 1, 1) := by decide +kernel
theorem dX8_read_15 : decode cX8_read 15 = .ok (.aload_n 0, 1) := by decide +kernel
theorem dX8_read_16 : decode cX8_read 16 = .ok (.iload_n 1, 1) := by decide +kernel
theorem dX8_read_17 : decode cX8_read 17 = .ok (.ifCond .eq 7, 3) := by decide +kernel
theorem dX8_read_20 : decode cX8_read 20 = .ok (.iconst (-1), 1) := by decide +kernel
theorem dX8_read_21 : decode cX8_read 21 = .ok (.goto 7, 3) := by decide +kernel
theorem dX8_read_24 : decode cX8_read 24 = .ok (.aload_n 0, 1) := by decide +kernel
theorem dX8_read_25 : decode cX8_read 25 = .ok (.getfield 29, 3) := by decide +kernel
theorem dX8_read_28 : decode cX8_read 28 = .ok (.putfield 35, 3) := by decide +kernel
theorem dX8_read_31 : decode cX8_read 31 = .ok (.aload_n 0, 1) := by decide +kernel
theorem dX8_read_32 : decode cX8_read 32 = .ok (.iconst 0, 1) := by decide +kernel
theorem dX8_read_33 : decode cX8_read 33 = .ok (.putfield 25, 3) := by decide +kernel
theorem dX8_read_36 : decode cX8_read 36 = .ok (.iload_n 1, 1) := by decide +kernel
theorem dX8_read_37 : decode cX8_read 37 = .ok (.ireturn, 1) := by decide +kernel
theorem dX8_readOrders_0 : decode cX8_readOrders 0 = .ok (.iconst 0, 1) := by decide +kernel
theorem dX8_readOrders_1 : decode cX8_readOrders 1 = .ok (.istore_n 1, 1) := by decide +kernel
theorem dX8_readOrders_2 : decode cX8_readOrders 2 = .ok (.iload_n 1, 1) := by decide +kernel
theorem dX8_readOrders_3 : decode cX8_readOrders 3 = .ok (.bipush 12, 2) := by decide +kernel
theorem dX8_readOrders_5 : decode cX8_readOrders 5 = .ok (.if_icmp .ge 42, 3) := by decide +kernel
theorem dX8_readOrders_8 : decode cX8_readOrders 8 = .ok (.aload_n 0, 1) := by decide +kernel
theorem dX8_readOrders_9 : decode cX8_readOrders 9 = .ok (.invokevirtual 46, 3) := by decide +kernel
theorem dX8_readOrders_12 : decode cX8_readOrders 12 = .ok (.ifCond .ne 5, 3) := by decide +kernel
theorem dX8_readOrders_15 : decode cX8_readOrders 15 = .ok (.iconst 0, 1) := by decide +kernel
theorem dX8_readOrders_16 : decode cX8_readOrders 16 = .ok (.ireturn, 1) := by decide +kernel
theorem dX8_readOrders_17 : decode cX8_readOrders 17 = .ok (.aload_n 0, 1) := by decide +kernel
theorem dX8_readOrders_18 : decode cX8_readOrders 18 = .ok (.getfield 29, 3) := by decide +kernel
theorem dX8_readOrders_21 : decode cX8_readOrders 21 = .ok (.aload_n 0, 1) := by decide +kernel
theorem dX8_readOrders_22 : decode cX8_readOrders 22 = .ok (.getfield 25, 3) := by decide +kernel
theorem dX8_readOrders_25 : decode cX8_readOrders 25 = .ok (.if_icmp .ne 5, 3) := by decide +kernel
theorem dX8_readOrders_28 : decode cX8_readOrders 28 = .ok (.iconst 1, 1) := by decide +kernel
theorem dX8_readOrders_29 : decode cX8_readOrders 29 = .ok (.ireturn, 1) := by decide +kernel
theorem dX8_readOrders_30 : decode cX8_readOrders 30 = .ok (.aload_n 0, 1) := by decide +kernel
theorem dX8_readOrders_31 : decode cX8_readOrders 31 = .ok (.bipush 59, 2) := by decide +kernel
theorem dX8_readOrders_33 : decode cX8_readOrders 33 = .ok (.invokevirtual 49, 3) := by decide +kernel
theorem dX8_readOrders_36 : decode cX8_readOrders 36 = .ok (.ifCond .ne 5, 3) := by decide +kernel
theorem dX8_readOrders_39 : decode cX8_readOrders 39 = .ok (.iconst 0, 1) := by decide +kernel
theorem dX8_readOrders_40 : decode cX8_readOrders 40 = .ok (.ireturn, 1) := by decide +kernel
theorem dX8_readOrders_41 : decode cX8_readOrders 41 = .ok (.iinc 1 1, 3) := by decide +kernel
theorem dX8_readOrders_44 : decode cX8_readOrders 44 = .ok (.goto (-42), 3) := by decide +kernel
theorem dX8_readOrders_47 : decode cX8_readOrders 47 = .ok (.iconst 0, 1) := by decide +kernel
theorem dX8_readOrders_48 : decode cX8_readOrders 48 = .ok (.ireturn, 1) := by decide +kernel
theorem dX8_readOrder_0 : decode cX8_readOrder 0 = .ok (.aload_n 0, 1) := by decide +kernel
theorem dX8_readOrder_1 : decode cX8_readOrder 1 = .ok (.invokevirtual 53, 3) := by decide +kernel
theorem dX8_readOrder_4 : decode cX8_readOrder 4 = .ok (.astore_n 1, 1) := by decide +kernel
theorem dX8_readOrder_5 : decode cX8_readOrder 5 = .ok (.aload_n 1, 1) := by decide +kernel
theorem dX8_readOrder_6 : decode cX8_readOrder 6 = .ok (.ifnull 22, 3) := by decide +kernel
theorem dX8_readOrder_9 : decode cX8_readOrder 9 = .ok (.aload_n 0, 1) := by decide +kernel
theorem dX8_readOrder_10 : decode cX8_readOrder 10 = .ok (.getfield 32, 3) := by decide +kernel
theorem dX8_readOrder_13 : decode cX8_readOrder 13 = .ok (.ifCond .lt 15, 3) := by decide +kernel
theorem dX8_readOrder_16 : decode cX8_readOrder 16 = .ok (.aload_n 0, 1) := by decide +kernel
theorem dX8_readOrder_17 : decode cX8_readOrder 17 = .ok (.getfield 32, 3) := by decide +kernel
theorem dX8_readOrder_20 : decode cX8_readOrder 20 = .ok (.aload_n 0, 1) := by decide +kernel
theorem dX8_readOrder_21 : decode cX8_readOrder 21 = .ok (.getfield 17, 3) := by decide +kernel
theorem dX8_readOrder_24 : decode cX8_readOrder 24 = .ok (.arraylength, 1) := by decide +kernel
theorem dX8_readOrder_25 : decode cX8_readOrder 25 = .ok (.if_icmp .lt 5, 3) := by decide +kernel
theorem dX8_readOrder_28 : decode cX8_readOrder 28 = .ok (.iconst 0, 1) := by decide +kernel
theorem dX8_readOrder_29 : decode cX8_readOrder 29 = .ok (.ireturn, 1) := by decide +kernel
theorem dX8_readOrder_30 : decode cX8_readOrder 30 = .ok (.iconst 0, 1) := by decide +kernel
theorem dX8_readOrder_31 : decode cX8_readOrder 31 = .ok (.istore_n 2, 1) := by decide +kernel
theorem dX8_readOrder_32 : decode cX8_readOrder 32 = .ok (.iload_n 2, 1) := by decide +kernel
theorem dX8_readOrder_33 : decode cX8_readOrder 33 = .ok (.aload_n 1, 1) := by decide +kernel
theorem dX8_readOrder_34 : decode cX8_readOrder 34 = .ok (.getfield 57, 3) := by decide +kernel
theorem dX8_readOrder_37 : decode cX8_readOrder 37 = .ok (.invokevirtual 61, 3) := by decide +kernel
theorem dX8_readOrder_40 : decode cX8_readOrder 40 = .ok (.if_icmp .ge 61, 3) := by decide +kernel
theorem dX8_readOrder_43 : decode cX8_readOrder 43 = .ok (.aload_n 0, 1) := by decide +kernel
theorem dX8_readOrder_44 : decode cX8_readOrder 44 = .ok (.bipush 32, 2) := by decide +kernel
theorem dX8_readOrder_46 : decode cX8_readOrder 46 = .ok (.invokevirtual 49, 3) := by decide +kernel
theorem dX8_readOrder_49 : decode cX8_readOrder 49 = .ok (.ifCond .eq 21, 3) := by decide +kernel
theorem dX8_readOrder_52 : decode cX8_readOrder 52 = .ok (.aload_n 0, 1) := by decide +kernel
theorem dX8_readOrder_53 : decode cX8_readOrder 53 = .ok (.aload_n 1, 1) := by decide +kernel
theorem dX8_readOrder_54 : decode cX8_readOrder 54 = .ok (.getfield 57, 3) := by decide +kernel
theorem dX8_readOrder_57 : decode cX8_readOrder 57 = .ok (.iload_n 2, 1) := by decide +kernel
theorem dX8_readOrder_58 : decode cX8_readOrder 58 = .ok (.invokevirtual 66, 3) := by decide +kernel
theorem dX8_readOrder_61 : decode cX8_readOrder 61 = .ok (.bipush 48, 2) := by decide +kernel
theorem dX8_readOrder_63 : decode cX8_readOrder 63 = .ok (.isub, 1) := by decide +kernel
theorem dX8_readOrder_64 : decode cX8_readOrder 64 = .ok (.invokevirtual 70, 3) := by decide +kernel
theorem dX8_readOrder_67 : decode cX8_readOrder 67 = .ok (.goto 4, 3) := by decide +kernel
theorem dX8_readOrder_70 : decode cX8_readOrder 70 = .ok (.iconst (-1), 1) := by decide +kernel
theorem dX8_readOrder_71 : decode cX8_readOrder 71 = .ok (.istore_n 3, 1) := by decide +kernel
theorem dX8_readOrder_72 : decode cX8_readOrder 72 = .ok (.iload_n 3, 1) := by decide +kernel
theorem dX8_readOrder_73 : decode cX8_readOrder 73 = .ok (.iconst (-1), 1) := by decide +kernel
theorem dX8_readOrder_74 : decode cX8_readOrder 74 = .ok (.if_icmp .ne 5, 3) := by decide +kernel
theorem dX8_readOrder_77 : decode cX8_readOrder 77 = .ok (.iconst 0, 1) := by decide +kernel
theorem dX8_readOrder_78 : decode cX8_readOrder 78 = .ok (.ireturn, 1) := by decide +kernel
theorem dX8_readOrder_79 : decode cX8_readOrder 79 = .ok (.aload_n 0, 1) := by decide +kernel
theorem dX8_readOrder_80 : decode cX8_readOrder 80 = .ok (.getfield 21, 3) := by decide +kernel
theorem dX8_readOrder_83 : decode cX8_readOrder 83 = .ok (.aload_n 0, 1) := by decide +kernel
theorem dX8_readOrder_84 : decode cX8_readOrder 84 = .ok (.getfield 32, 3) := by decide +kernel
theorem dX8_readOrder_87 : decode cX8_readOrder 87 = .ok (.iconst 3, 1) := by decide +kernel
theorem dX8_readOrder_88 : decode cX8_readOrder 88 = .ok (.imul, 1) := by decide +kernel
theorem dX8_readOrder_89 : decode cX8_readOrder 89 = .ok (.iload_n 2, 1) := by decide +kernel
theorem dX8_readOrder_90 : decode cX8_readOrder 90 = .ok (.iadd, 1) := by decide +kernel
theorem dX8_readOrder_91 : decode cX8_readOrder 91 = .ok (.iload_n 3, 1) := by decide +kernel
theorem dX8_readOrder_92 : decode cX8_readOrder 92 = .ok (.invokestatic 74, 3) := by decide +kernel
theorem dX8_readOrder_95 : decode cX8_readOrder 95 = .ok (.iinc 2 1, 3) := by decide +kernel
theorem dX8_readOrder_98 : decode cX8_readOrder 98 = .ok (.goto (-66), 3) := by decide +kernel
theorem dX8_readOrder_101 : decode cX8_readOrder 101 = .ok (.aload_n 0, 1) := by decide +kernel
theorem dX8_readOrder_102 : decode cX8_readOrder 102 = .ok (.getfield 17, 3) := by decide +kernel
theorem dX8_readOrder_105 : decode cX8_readOrder 105 = .ok (.aload_n 0, 1) := by decide +kernel
theorem dX8_readOrder_106 : decode cX8_readOrder 106 = .ok (.getfield 32, 3) := by decide +kernel
theorem dX8_readOrder_109 : decode cX8_readOrder 109 = .ok (.aload_n 1, 1) := by decide +kernel
theorem dX8_readOrder_110 : decode cX8_readOrder 110 = .ok (.aastore, 1) := by decide +kernel
theorem dX8_readOrder_111 : decode cX8_readOrder 111 = .ok (.aload_n 0, 1) := by decide +kernel
theorem dX8_readOrder_112 : decode cX8_readOrder 112 = .ok (.dup, 1) := by decide +kernel
theorem dX8_readOrder_113 : decode cX8_readOrder 113 = .ok (.getfield 32, 3) := by decide +kernel
theorem dX8_readOrder_116 : decode cX8_readOrder 116 = .ok (.iconst 1, 1) := by decide +kernel
theorem dX8_readOrder_117 : decode cX8_readOrder 117 = .ok (.iadd, 1) := by decide +kernel
theorem dX8_readOrder_118 : decode cX8_readOrder 118 = .ok (.putfield 32, 3) := by decide +kernel
theorem dX8_readOrder_121 : decode cX8_readOrder 121 = .ok (.iconst 1, 1) := by decide +kernel
theorem dX8_readOrder_122 : decode cX8_readOrder 122 = .ok (.ireturn, 1) := by decide +kernel
theorem dX8_readWord_0 : decode cX8_readWord 0 = .ok (.iconst 0, 1) := by decide +kernel
theorem dX8_readWord_1 : decode cX8_readWord 1 = .ok (.istore_n 1, 1) := by decide +kernel
theorem dX8_readWord_2 : decode cX8_readWord 2 = .ok (.iconst 0, 1) := by decide +kernel
theorem dX8_readWord_3 : decode cX8_readWord 3 = .ok (.istore_n 2, 1) := by decide +kernel
theorem dX8_readWord_4 : decode cX8_readWord 4 = .ok (.iload_n 2, 1) := by decide +kernel
theorem dX8_readWord_5 : decode cX8_readWord 5 = .ok (.getstatic 78, 3) := by decide +kernel
theorem dX8_readWord_8 : decode cX8_readWord 8 = .ok (.arraylength, 1) := by decide +kernel
theorem dX8_readWord_9 : decode cX8_readWord 9 = .ok (.if_icmp .ge 57, 3) := by decide +kernel
theorem dX8_readWord_12 : decode cX8_readWord 12 = .ok (.getstatic 78, 3) := by decide +kernel
theorem dX8_readWord_15 : decode cX8_readWord 15 = .ok (.iload_n 2, 1) := by decide +kernel
theorem dX8_readWord_16 : decode cX8_readWord 16 = .ok (.aaload, 1) := by decide +kernel
theorem dX8_readWord_17 : decode cX8_readWord 17 = .ok (.astore_n 3, 1) := by decide +kernel
theorem dX8_readWord_18 : decode cX8_readWord 18 = .ok (.aload_n 0, 1) := by decide +kernel
theorem dX8_readWord_19 : decode cX8_readWord 19 = .ok (.aload_n 3, 1) := by decide +kernel
theorem dX8_readWord_20 : decode cX8_readWord 20 = .ok (.getfield 81, 3) := by decide +kernel
theorem dX8_readWord_23 : decode cX8_readWord 23 = .ok (.invokevirtual 84, 3) := by decide +kernel
theorem dX8_readWord_26 : decode cX8_readWord 26 = .ok (.istore 4, 2) := by decide +kernel
theorem dX8_readWord_28 : decode cX8_readWord 28 = .ok (.iload 4, 2) := by decide +kernel
theorem dX8_readWord_30 : decode cX8_readWord 30 = .ok (.aload_n 3, 1) := by decide +kernel
theorem dX8_readWord_31 : decode cX8_readWord 31 = .ok (.getfield 81, 3) := by decide +kernel
theorem dX8_readWord_34 : decode cX8_readWord 34 = .ok (.invokevirtual 61, 3) := by decide +kernel
theorem dX8_readWord_37 : decode cX8_readWord 37 = .ok (.if_icmp .ne 16, 3) := by decide +kernel
theorem dX8_readWord_40 : decode cX8_readWord 40 = .ok (.aload_n 0, 1) := by decide +kernel
theorem dX8_readWord_41 : decode cX8_readWord 41 = .ok (.dup, 1) := by decide +kernel
theorem dX8_readWord_42 : decode cX8_readWord 42 = .ok (.getfield 29, 3) := by decide +kernel
theorem dX8_readWord_45 : decode cX8_readWord 45 = .ok (.iload 4, 2) := by decide +kernel
theorem dX8_readWord_47 : decode cX8_readWord 47 = .ok (.iadd, 1) := by decide +kernel
theorem dX8_readWord_48 : decode cX8_readWord 48 = .ok (.putfield 29, 3) := by decide +kernel
theorem dX8_readWord_51 : decode cX8_readWord 51 = .ok (.aload_n 3, 1) := by decide +kernel
theorem dX8_readWord_52 : decode cX8_readWord 52 = .ok (.areturn, 1) := by decide +kernel
theorem dX8_readWord_53 : decode cX8_readWord 53 = .ok (.iload_n 1, 1) := by decide +kernel
theorem dX8_readWord_54 : decode cX8_readWord 54 = .ok (.iload 4, 2) := by decide +kernel
theorem dX8_readWord_56 : decode cX8_readWord 56 = .ok (.invokestatic 88, 3) := by decide +kernel
theorem dX8_readWord_59 : decode cX8_readWord 59 = .ok (.istore_n 1, 1) := by decide +kernel
theorem dX8_readWord_60 : decode cX8_readWord 60 = .ok (.iinc 2 1, 3) := by decide +kernel
theorem dX8_readWord_63 : decode cX8_readWord 63 = .ok (.goto (-59), 3) := by decide +kernel
theorem dX8_readWord_66 : decode cX8_readWord 66 = .ok (.aload_n 0, 1) := by decide +kernel
theorem dX8_readWord_67 : decode cX8_readWord 67 = .ok (.dup, 1) := by decide +kernel
theorem dX8_readWord_68 : decode cX8_readWord 68 = .ok (.getfield 29, 3) := by decide +kernel
theorem dX8_readWord_71 : decode cX8_readWord 71 = .ok (.iload_n 1, 1) := by decide +kernel
theorem dX8_readWord_72 : decode cX8_readWord 72 = .ok (.iadd, 1) := by decide +kernel
theorem dX8_readWord_73 : decode cX8_readWord 73 = .ok (.putfield 29, 3) := by decide +kernel
theorem dX8_readWord_76 : decode cX8_readWord 76 = .ok (.aconst_null, 1) := by decide +kernel
theorem dX8_readWord_77 : decode cX8_readWord 77 = .ok (.areturn, 1) := by decide +kernel
theorem dX8_lettersOf_0 : decode cX8_lettersOf 0 = .ok (.iconst 0, 1) := by decide +kernel
theorem dX8_lettersOf_1 : decode cX8_lettersOf 1 = .ok (.istore_n 2, 1) := by decide +kernel
theorem dX8_lettersOf_2 : decode cX8_lettersOf 2 = .ok (.iload_n 2, 1) := by decide +kernel
theorem dX8_lettersOf_3 : decode cX8_lettersOf 3 = .ok (.aload_n 1, 1) := by decide +kernel
theorem dX8_lettersOf_4 : decode cX8_lettersOf 4 = .ok (.invokevirtual 61, 3) := by decide +kernel
theorem dX8_lettersOf_7 : decode cX8_lettersOf 7 = .ok (.if_icmp .ge 29, 3) := by decide +kernel
theorem dX8_lettersOf_10 : decode cX8_lettersOf 10 = .ok (.aload_n 0, 1) := by decide +kernel
theorem dX8_lettersOf_11 : decode cX8_lettersOf 11 = .ok (.aload_n 0, 1) := by decide +kernel
theorem dX8_lettersOf_12 : decode cX8_lettersOf 12 = .ok (.getfield 29, 3) := by decide +kernel
theorem dX8_lettersOf_15 : decode cX8_lettersOf 15 = .ok (.iload_n 2, 1) := by decide +kernel
theorem dX8_lettersOf_16 : decode cX8_lettersOf 16 = .ok (.iadd, 1) := by decide +kernel
theorem dX8_lettersOf_17 : decode cX8_lettersOf 17 = .ok (.aload_n 1, 1) := by decide +kernel
theorem dX8_lettersOf_18 : decode cX8_lettersOf 18 = .ok (.iload_n 2, 1) := by decide +kernel
theorem dX8_lettersOf_19 : decode cX8_lettersOf 19 = .ok (.invokevirtual 66, 3) := by decide +kernel
theorem dX8_lettersOf_22 : decode cX8_lettersOf 22 = .ok (.invokevirtual 94, 3) := by decide +kernel
theorem dX8_lettersOf_25 : decode cX8_lettersOf 25 = .ok (.ifCond .ne 5, 3) := by decide +kernel
theorem dX8_lettersOf_28 : decode cX8_lettersOf 28 = .ok (.iload_n 2, 1) := by decide +kernel
theorem dX8_lettersOf_29 : decode cX8_lettersOf 29 = .ok (.ireturn, 1) := by decide +kernel
theorem dX8_lettersOf_30 : decode cX8_lettersOf 30 = .ok (.iinc 2 1, 3) := by decide +kernel
theorem dX8_lettersOf_33 : decode cX8_lettersOf 33 = .ok (.goto (-31), 3) := by decide +kernel
theorem dX8_lettersOf_36 : decode cX8_lettersOf 36 = .ok (.aload_n 1, 1) := by decide +kernel
theorem dX8_lettersOf_37 : decode cX8_lettersOf 37 = .ok (.invokevirtual 61, 3) := by decide +kernel
theorem dX8_lettersOf_40 : decode cX8_lettersOf 40 = .ok (.ireturn, 1) := by decide +kernel
theorem dX8_readNumber_0 : decode cX8_readNumber 0 = .ok (.aload_n 0, 1) := by decide +kernel
theorem dX8_readNumber_1 : decode cX8_readNumber 1 = .ok (.invokevirtual 98, 3) := by decide +kernel
theorem dX8_readNumber_4 : decode cX8_readNumber 4 = .ok (.istore_n 2, 1) := by decide +kernel
theorem dX8_readNumber_5 : decode cX8_readNumber 5 = .ok (.iload_n 2, 1) := by decide +kernel
theorem dX8_readNumber_6 : decode cX8_readNumber 6 = .ok (.iconst (-1), 1) := by decide +kernel
theorem dX8_readNumber_7 : decode cX8_readNumber 7 = .ok (.if_icmp .eq 8, 3) := by decide +kernel
theorem dX8_readNumber_10 : decode cX8_readNumber 10 = .ok (.iload_n 1, 1) := by decide +kernel
theorem dX8_readNumber_11 : decode cX8_readNumber 11 = .ok (.iconst 2, 1) := by decide +kernel
theorem dX8_readNumber_12 : decode cX8_readNumber 12 = .ok (.if_icmp .ge 5, 3) := by decide +kernel
theorem dX8_readNumber_15 : decode cX8_readNumber 15 = .ok (.iload_n 2, 1) := by decide +kernel
theorem dX8_readNumber_16 : decode cX8_readNumber 16 = .ok (.ireturn, 1) := by decide +kernel
theorem dX8_readNumber_17 : decode cX8_readNumber 17 = .ok (.aload_n 0, 1) := by decide +kernel
theorem dX8_readNumber_18 : decode cX8_readNumber 18 = .ok (.invokevirtual 98, 3) := by decide +kernel
theorem dX8_readNumber_21 : decode cX8_readNumber 21 = .ok (.istore_n 3, 1) := by decide +kernel
theorem dX8_readNumber_22 : decode cX8_readNumber 22 = .ok (.iload_n 3, 1) := by decide +kernel
theorem dX8_readNumber_23 : decode cX8_readNumber 23 = .ok (.iconst (-1), 1) := by decide +kernel
theorem dX8_readNumber_24 : decode cX8_readNumber 24 = .ok (.if_icmp .ne 7, 3) := by decide +kernel
theorem dX8_readNumber_27 : decode cX8_readNumber 27 = .ok (.iload_n 2, 1) := by decide +kernel
theorem dX8_readNumber_28 : decode cX8_readNumber 28 = .ok (.goto 9, 3) := by decide +kernel
theorem dX8_readNumber_31 : decode cX8_readNumber 31 = .ok (.bipush 10, 2) := by decide +kernel
theorem dX8_readNumber_33 : decode cX8_readNumber 33 = .ok (.iload_n 2, 1) := by decide +kernel
theorem dX8_readNumber_34 : decode cX8_readNumber 34 = .ok (.imul, 1) := by decide +kernel
theorem dX8_readNumber_35 : decode cX8_readNumber 35 = .ok (.iload_n 3, 1) := by decide +kernel
theorem dX8_readNumber_36 : decode cX8_readNumber 36 = .ok (.iadd, 1) := by decide +kernel
theorem dX8_readNumber_37 : decode cX8_readNumber 37 = .ok (.ireturn, 1) := by decide +kernel
theorem dX8_readDigit_0 : decode cX8_readDigit 0 = .ok (.aload_n 0, 1) := by decide +kernel
theorem dX8_readDigit_1 : decode cX8_readDigit 1 = .ok (.getfield 29, 3) := by decide +kernel
theorem dX8_readDigit_4 : decode cX8_readDigit 4 = .ok (.istore_n 1, 1) := by decide +kernel
theorem dX8_readDigit_5 : decode cX8_readDigit 5 = .ok (.iload_n 1, 1) := by decide +kernel
theorem dX8_readDigit_6 : decode cX8_readDigit 6 = .ok (.ifCond .lt 20, 3) := by decide +kernel
theorem dX8_readDigit_9 : decode cX8_readDigit 9 = .ok (.iload_n 1, 1) := by decide +kernel
theorem dX8_readDigit_10 : decode cX8_readDigit 10 = .ok (.aload_n 0, 1) := by decide +kernel
theorem dX8_readDigit_11 : decode cX8_readDigit 11 = .ok (.getfield 25, 3) := by decide +kernel
theorem dX8_readDigit_14 : decode cX8_readDigit 14 = .ok (.if_icmp .ge 12, 3) := by decide +kernel
theorem dX8_readDigit_17 : decode cX8_readDigit 17 = .ok (.iload_n 1, 1) := by decide +kernel
theorem dX8_readDigit_18 : decode cX8_readDigit 18 = .ok (.aload_n 0, 1) := by decide +kernel
theorem dX8_readDigit_19 : decode cX8_readDigit 19 = .ok (.getfield 9, 3) := by decide +kernel
theorem dX8_readDigit_22 : decode cX8_readDigit 22 = .ok (.arraylength, 1) := by decide +kernel
theorem dX8_readDigit_23 : decode cX8_readDigit 23 = .ok (.if_icmp .lt 5, 3) := by decide +kernel
theorem dX8_readDigit_26 : decode cX8_readDigit 26 = .ok (.iconst (-1), 1) := by decide +kernel
theorem dX8_readDigit_27 : decode cX8_readDigit 27 = .ok (.ireturn, 1) := by decide +kernel
theorem dX8_readDigit_28 : decode cX8_readDigit 28 = .ok (.aload_n 0, 1) := by decide +kernel
theorem dX8_readDigit_29 : decode cX8_readDigit 29 = .ok (.getfield 9, 3) := by decide +kernel
theorem dX8_readDigit_32 : decode cX8_readDigit 32 = .ok (.iload_n 1, 1) := by decide +kernel
theorem dX8_readDigit_33 : decode cX8_readDigit 33 = .ok (.caload, 1) := by decide +kernel
theorem dX8_readDigit_34 : decode cX8_readDigit 34 = .ok (.bipush 48, 2) := by decide +kernel
theorem dX8_readDigit_36 : decode cX8_readDigit 36 = .ok (.isub, 1) := by decide +kernel
theorem dX8_readDigit_37 : decode cX8_readDigit 37 = .ok (.istore_n 2, 1) := by decide +kernel
theorem dX8_readDigit_38 : decode cX8_readDigit 38 = .ok (.iload_n 2, 1) := by decide +kernel
theorem dX8_readDigit_39 : decode cX8_readDigit 39 = .ok (.iconst 0, 1) := by decide +kernel
theorem dX8_readDigit_40 : decode cX8_readDigit 40 = .ok (.bipush 9, 2) := by decide +kernel
theorem dX8_readDigit_42 : decode cX8_readDigit 42 = .ok (.invokestatic 101, 3) := by decide +kernel
theorem dX8_readDigit_45 : decode cX8_readDigit 45 = .ok (.ifCond .ne 5, 3) := by decide +kernel
theorem dX8_readDigit_48 : decode cX8_readDigit 48 = .ok (.iconst (-1), 1) := by decide +kernel
theorem dX8_readDigit_49 : decode cX8_readDigit 49 = .ok (.ireturn, 1) := by decide +kernel
theorem dX8_readDigit_50 : decode cX8_readDigit 50 = .ok (.aload_n 0, 1) := by decide +kernel
theorem dX8_readDigit_51 : decode cX8_readDigit 51 = .ok (.dup, 1) := by decide +kernel
theorem dX8_readDigit_52 : decode cX8_readDigit 52 = .ok (.getfield 29, 3) := by decide +kernel
theorem dX8_readDigit_55 : decode cX8_readDigit 55 = .ok (.iconst 1, 1) := by decide +kernel
theorem dX8_readDigit_56 : decode cX8_readDigit 56 = .ok (.iadd, 1) := by decide +kernel
theorem dX8_readDigit_57 : decode cX8_readDigit 57 = .ok (.putfield 29, 3) := by decide +kernel
theorem dX8_readDigit_60 : decode cX8_readDigit 60 = .ok (.iload_n 2, 1) := by decide +kernel
theorem dX8_readDigit_61 : decode cX8_readDigit 61 = .ok (.ireturn, 1) := by decide +kernel
theorem dX8_take_0 : decode cX8_take 0 = .ok (.aload_n 0, 1) := by decide +kernel
theorem dX8_take_1 : decode cX8_take 1 = .ok (.aload_n 0, 1) := by decide +kernel
theorem dX8_take_2 : decode cX8_take 2 = .ok (.getfield 29, 3) := by decide +kernel
theorem dX8_take_5 : decode cX8_take 5 = .ok (.iload_n 1, 1) := by decide +kernel
theorem dX8_take_6 : decode cX8_take 6 = .ok (.invokevirtual 94, 3) := by decide +kernel
theorem dX8_take_9 : decode cX8_take 9 = .ok (.ifCond .ne 5, 3) := by decide +kernel
theorem dX8_take_12 : decode cX8_take 12 = .ok (.iconst 0, 1) := by decide +kernel
theorem dX8_take_13 : decode cX8_take 13 = .ok (.ireturn, 1) := by decide +kernel
theorem dX8_take_14 : decode cX8_take 14 = .ok (.aload_n 0, 1) := by decide +kernel
theorem dX8_take_15 : decode cX8_take 15 = .ok (.dup, 1) := by decide +kernel
theorem dX8_take_16 : decode cX8_take 16 = .ok (.getfield 29, 3) := by decide +kernel
theorem dX8_take_19 : decode cX8_take 19 = .ok (.iconst 1, 1) := by decide +kernel
theorem dX8_take_20 : decode cX8_take 20 = .ok (.iadd, 1) := by decide +kernel
theorem dX8_take_21 : decode cX8_take 21 = .ok (.putfield 29, 3) := by decide +kernel
theorem dX8_take_24 : decode cX8_take 24 = .ok (.iconst 1, 1) := by decide +kernel
theorem dX8_take_25 : decode cX8_take 25 = .ok (.ireturn, 1) := by decide +kernel
theorem dX8_isSign_0 : decode cX8_isSign 0 = .ok (.iload_n 1, 1) := by decide +kernel
theorem dX8_isSign_1 : decode cX8_isSign 1 = .ok (.ifCond .lt 34, 3) := by decide +kernel
theorem dX8_isSign_4 : decode cX8_isSign 4 = .ok (.iload_n 1, 1) := by decide +kernel
theorem dX8_isSign_5 : decode cX8_isSign 5 = .ok (.aload_n 0, 1) := by decide +kernel
theorem dX8_isSign_6 : decode cX8_isSign 6 = .ok (.getfield 25, 3) := by decide +kernel
theorem dX8_isSign_9 : decode cX8_isSign 9 = .ok (.if_icmp .ge 26, 3) := by decide +kernel
theorem dX8_isSign_12 : decode cX8_isSign 12 = .ok (.iload_n 1, 1) := by decide +kernel
theorem dX8_isSign_13 : decode cX8_isSign 13 = .ok (.aload_n 0, 1) := by decide +kernel
theorem dX8_isSign_14 : decode cX8_isSign 14 = .ok (.getfield 9, 3) := by decide +kernel
theorem dX8_isSign_17 : decode cX8_isSign 17 = .ok (.arraylength, 1) := by decide +kernel
theorem dX8_isSign_18 : decode cX8_isSign 18 = .ok (.if_icmp .ge 17, 3) := by decide +kernel
theorem dX8_isSign_21 : decode cX8_isSign 21 = .ok (.aload_n 0, 1) := by decide +kernel
theorem dX8_isSign_22 : decode cX8_isSign 22 = .ok (.getfield 9, 3) := by decide +kernel
theorem dX8_isSign_25 : decode cX8_isSign 25 = .ok (.iload_n 1, 1) := by decide +kernel
theorem dX8_isSign_26 : decode cX8_isSign 26 = .ok (.caload, 1) := by decide +kernel
theorem dX8_isSign_27 : decode cX8_isSign 27 = .ok (.iload_n 2, 1) := by decide +kernel
theorem dX8_isSign_28 : decode cX8_isSign 28 = .ok (.if_icmp .ne 7, 3) := by decide +kernel
theorem dX8_isSign_31 : decode cX8_isSign 31 = .ok (.iconst 1, 1) := by decide +kernel
theorem dX8_isSign_32 : decode cX8_isSign 32 = .ok (.goto 4, 3) := by decide +kernel
theorem dX8_isSign_35 : decode cX8_isSign 35 = .ok (.iconst 0, 1) := by decide +kernel
theorem dX8_isSign_36 : decode cX8_isSign 36 = .ok (.ireturn, 1) := by decide +kernel
theorem dX9_init_0 : decode cX9_init 0 = .ok (.aload_n 0, 1) := by decide +kernel
theorem dX9_init_1 : decode cX9_init 1 = .ok (.invokespecial 1, 3) := by decide +kernel
theorem dX9_init_4 : decode cX9_init 4 = .ok (.aload_n 0, 1) := by decide +kernel
theorem dX9_init_5 : decode cX9_init 5 = .ok (.new 7, 3) := by decide +kernel
theorem dX9_init_8 : decode cX9_init 8 = .ok (.dup, 1) := by decide +kernel
theorem dX9_init_9 : decode cX9_init 9 = .ok (.invokespecial 9, 3) := by decide +kernel
theorem dX9_init_12 : decode cX9_init 12 = .ok (.putfield 10, 3) := by decide +kernel
theorem dX9_init_15 : decode cX9_init 15 = .ok (.aload_n 0, 1) := by decide +kernel
theorem dX9_init_16 : decode cX9_init 16 = .ok (.new 7, 3) := by decide +kernel
theorem dX9_init_19 : decode cX9_init 19 = .ok (.dup, 1) := by decide +kernel
theorem dX9_init_20 : decode cX9_init 20 = .ok (.invokespecial 9, 3) := by decide +kernel
theorem dX9_init_23 : decode cX9_init 23 = .ok (.putfield 16, 3) := by decide +kernel
theorem dX9_init_26 : decode cX9_init 26 = .ok (.aload_n 0, 1) := by decide +kernel
theorem dX9_init_27 : decode cX9_init 27 = .ok (.new 7, 3) := by decide +kernel
theorem dX9_init_30 : decode cX9_init 30 = .ok (.dup, 1) := by decide +kernel
theorem dX9_init_31 : decode cX9_init 31 = .ok (.invokespecial 9, 3) := by decide +kernel
theorem dX9_init_34 : decode cX9_init 34 = .ok (.putfield 19, 3) := by decide +kernel
theorem dX9_init_37 : decode cX9_init 37 = .ok (.aload_n 0, 1) := by decide +kernel
theorem dX9_init_38 : decode cX9_init 38 = .ok (.new 22, 3) := by decide +kernel
theorem dX9_init_41 : decode cX9_init 41 = .ok (.dup, 1) := by decide +kernel
theorem dX9_init_42 : decode cX9_init 42 = .ok (.aload_n 0, 1) := by decide +kernel
theorem dX9_init_43 : decode cX9_init 43 = .ok (.getfield 10, 3) := by decide +kernel
theorem dX9_init_46 : decode cX9_init 46 = .ok (.invokespecial 24, 3) := by decide +kernel
theorem dX9_init_49 : decode cX9_init 49 = .ok (.putfield 27, 3) := by decide +kernel
theorem dX9_init_52 : decode cX9_init 52 = .ok (.aload_n 0, 1) := by decide +kernel
theorem dX9_init_53 : decode cX9_init 53 = .ok (.new 31, 3) := by decide +kernel
theorem dX9_init_56 : decode cX9_init 56 = .ok (.dup, 1) := by decide +kernel
theorem dX9_init_57 : decode cX9_init 57 = .ok (.aload_n 0, 1) := by decide +kernel
theorem dX9_init_58 : decode cX9_init 58 = .ok (.getfield 10, 3) := by decide +kernel
theorem dX9_init_61 : decode cX9_init 61 = .ok (.invokespecial 33, 3) := by decide +kernel
theorem dX9_init_64 : decode cX9_init 64 = .ok (.putfield 34, 3) := by decide +kernel
theorem dX9_init_67 : decode cX9_init 67 = .ok (.aload_n 0, 1) := by decide +kernel
theorem dX9_init_68 : decode cX9_init 68 = .ok (.new 38, 3) := by decide +kernel
theorem dX9_init_71 : decode cX9_init 71 = .ok (.dup, 1) := by decide +kernel
theorem dX9_init_72 : decode cX9_init 72 = .ok (.aload_n 0, 1) := by decide +kernel
theorem dX9_init_73 : decode cX9_init 73 = .ok (.getfield 10, 3) := by decide +kernel
theorem dX9_init_76 : decode cX9_init 76 = .ok (.invokespecial 40, 3) := by decide +kernel
theorem dX9_init_79 : decode cX9_init 79 = .ok (.putfield 41, 3) := by decide +kernel
theorem dX9_init_82 : decode cX9_init 82 = .ok (.aload_n 0, 1) := by decide +kernel
theorem dX9_init_83 : decode cX9_init 83 = .ok (.new 45, 3) := by decide +kernel
theorem dX9_init_86 : decode cX9_init 86 = .ok (.dup, 1) := by decide +kernel
theorem dX9_init_87 : decode cX9_init 87 = .ok (.aload_n 0, 1) := by decide +kernel
theorem dX9_init_88 : decode cX9_init 88 = .ok (.getfield 10, 3) := by decide +kernel
theorem dX9_init_91 : decode cX9_init 91 = .ok (.invokespecial 47, 3) := by decide +kernel
theorem dX9_init_94 : decode cX9_init 94 = .ok (.putfield 48, 3) := by decide +kernel
theorem dX9_init_97 : decode cX9_init 97 = .ok (.aload_n 0, 1) := by decide +kernel
theorem dX9_init_98 : decode cX9_init 98 = .ok (.new 52, 3) := by decide +kernel
theorem dX9_init_101 : decode cX9_init 101 = .ok (.dup, 1) := by decide +kernel
theorem dX9_init_102 : decode cX9_init 102 = .ok (.aload_n 0, 1) := by decide +kernel
theorem dX9_init_103 : decode cX9_init 103 = .ok (.getfield 10, 3) := by decide +kernel
theorem dX9_init_106 : decode cX9_init 106 = .ok (.invokespecial 54, 3) := by decide +kernel
theorem dX9_init_109 : decode cX9_init 109 = .ok (.putfield 55, 3) := by decide +kernel
theorem dX9_init_112 : decode cX9_init 112 = .ok (.aload_n 0, 1) := by decide +kernel
theorem dX9_init_113 : decode cX9_init 113 = .ok (.new 59, 3) := by decide +kernel
theorem dX9_init_116 : decode cX9_init 116 = .ok (.dup, 1) := by decide +kernel
theorem dX9_init_117 : decode cX9_init 117 = .ok (.invokespecial 61, 3) := by decide +kernel
theorem dX9_init_120 : decode cX9_init 120 = .ok (.putfield 62, 3) := by decide +kernel
theorem dX9_init_123 : decode cX9_init 123 = .ok (.aload_n 0, 1) := by decide +kernel
theorem dX9_init_124 : decode cX9_init 124 = .ok (.new 66, 3) := by decide +kernel
theorem dX9_init_127 : decode cX9_init 127 = .ok (.dup, 1) := by decide +kernel
theorem dX9_init_128 : decode cX9_init 128 = .ok (.invokespecial 68, 3) := by decide +kernel
theorem dX9_init_131 : decode cX9_init 131 = .ok (.putfield 69, 3) := by decide +kernel
theorem dX9_init_134 : decode cX9_init 134 = .ok (.aload_n 0, 1) := by decide +kernel
theorem dX9_init_135 : decode cX9_init 135 = .ok (.iconst 0, 1) := by decide +kernel
theorem dX9_init_136 : decode cX9_init 136 = .ok (.putfield 73, 3) := by decide +kernel
theorem dX9_init_139 : decode cX9_init 139 = .ok (.return_, 1) := by decide +kernel
theorem dX9_bar_0 : decode cX9_bar 0 = .ok (.aload_n 0, 1) := by decide +kernel
theorem dX9_bar_1 : decode cX9_bar 1 = .ok (.getstatic 77, 3) := by decide +kernel
theorem dX9_bar_4 : decode cX9_bar 4 = .ok (.iload_n 1, 1) := by decide +kernel
theorem dX9_bar_5 : decode cX9_bar 5 = .ok (.iconst 0, 1) := by decide +kernel
theorem dX9_bar_6 : decode cX9_bar 6 = .ok (.iconst 0, 1) := by decide +kernel
theorem dX9_bar_7 : decode cX9_bar 7 = .ok (.invokevirtual 83, 3) := by decide +kernel
theorem dX9_bar_10 : decode cX9_bar 10 = .ok (.ireturn, 1) := by decide +kernel
theorem dX9_key_0 : decode cX9_key 0 = .ok (.aload_n 0, 1) := by decide +kernel
theorem dX9_key_1 : decode cX9_key 1 = .ok (.getstatic 87, 3) := by decide +kernel
theorem dX9_key_4 : decode cX9_key 4 = .ok (.iload_n 1, 1) := by decide +kernel
theorem dX9_key_5 : decode cX9_key 5 = .ok (.iload_n 2, 1) := by decide +kernel
theorem dX9_key_6 : decode cX9_key 6 = .ok (.iconst 0, 1) := by decide +kernel
theorem dX9_key_7 : decode cX9_key 7 = .ok (.invokevirtual 83, 3) := by decide +kernel
theorem dX9_key_10 : decode cX9_key 10 = .ok (.ireturn, 1) := by decide +kernel
theorem dX9_leak_0 : decode cX9_leak 0 = .ok (.aload_n 0, 1) := by decide +kernel
theorem dX9_leak_1 : decode cX9_leak 1 = .ok (.getstatic 90, 3) := by decide +kernel
theorem dX9_leak_4 : decode cX9_leak 4 = .ok (.iload_n 1, 1) := by decide +kernel
theorem dX9_leak_5 : decode cX9_leak 5 = .ok (.iload_n 2, 1) := by decide +kernel
theorem dX9_leak_6 : decode cX9_leak 6 = .ok (.iconst 0, 1) := by decide +kernel
theorem dX9_leak_7 : decode cX9_leak 7 = .ok (.invokevirtual 83, 3) := by decide +kernel
theorem dX9_leak_10 : decode cX9_leak 10 = .ok (.ireturn, 1) := by decide +kernel
theorem dX9_drop_0 : decode cX9_drop 0 = .ok (.aload_n 0, 1) := by decide +kernel
theorem dX9_drop_1 : decode cX9_drop 1 = .ok (.getstatic 93, 3) := by decide +kernel
theorem dX9_drop_4 : decode cX9_drop 4 = .ok (.iload_n 1, 1) := by decide +kernel
theorem dX9_drop_5 : decode cX9_drop 5 = .ok (.iload_n 2, 1) := by decide +kernel
theorem dX9_drop_6 : decode cX9_drop 6 = .ok (.iload_n 3, 1) := by decide +kernel
theorem dX9_drop_7 : decode cX9_drop 7 = .ok (.invokevirtual 83, 3) := by decide +kernel
theorem dX9_drop_10 : decode cX9_drop 10 = .ok (.ireturn, 1) := by decide +kernel
theorem dX9_rest_0 : decode cX9_rest 0 = .ok (.aload_n 0, 1) := by decide +kernel
theorem dX9_rest_1 : decode cX9_rest 1 = .ok (.getstatic 96, 3) := by decide +kernel
theorem dX9_rest_4 : decode cX9_rest 4 = .ok (.iload_n 1, 1) := by decide +kernel
theorem dX9_rest_5 : decode cX9_rest 5 = .ok (.iconst 0, 1) := by decide +kernel
theorem dX9_rest_6 : decode cX9_rest 6 = .ok (.iconst 0, 1) := by decide +kernel
theorem dX9_rest_7 : decode cX9_rest 7 = .ok (.invokevirtual 83, 3) := by decide +kernel
theorem dX9_rest_10 : decode cX9_rest 10 = .ok (.ireturn, 1) := by decide +kernel
theorem dX9_lift_0 : decode cX9_lift 0 = .ok (.aload_n 0, 1) := by decide +kernel
theorem dX9_lift_1 : decode cX9_lift 1 = .ok (.getstatic 99, 3) := by decide +kernel
theorem dX9_lift_4 : decode cX9_lift 4 = .ok (.iconst 0, 1) := by decide +kernel
theorem dX9_lift_5 : decode cX9_lift 5 = .ok (.iconst 0, 1) := by decide +kernel
theorem dX9_lift_6 : decode cX9_lift 6 = .ok (.iconst 0, 1) := by decide +kernel
theorem dX9_lift_7 : decode cX9_lift 7 = .ok (.invokevirtual 83, 3) := by decide +kernel
theorem dX9_lift_10 : decode cX9_lift 10 = .ok (.ireturn, 1) := by decide +kernel
theorem dX9_limit_0 : decode cX9_limit 0 = .ok (.aload_n 0, 1) := by decide +kernel
theorem dX9_limit_1 : decode cX9_limit 1 = .ok (.getstatic 102, 3) := by decide +kernel
theorem dX9_limit_4 : decode cX9_limit 4 = .ok (.iload_n 1, 1) := by decide +kernel
theorem dX9_limit_5 : decode cX9_limit 5 = .ok (.iconst 0, 1) := by decide +kernel
theorem dX9_limit_6 : decode cX9_limit 6 = .ok (.iconst 0, 1) := by decide +kernel
theorem dX9_limit_7 : decode cX9_limit 7 = .ok (.invokevirtual 83, 3) := by decide +kernel
theorem dX9_limit_10 : decode cX9_limit 10 = .ok (.ireturn, 1) := by decide +kernel
theorem dX9_tune_0 : decode cX9_tune 0 = .ok (.aload_n 0, 1) := by decide +kernel
theorem dX9_tune_1 : decode cX9_tune 1 = .ok (.getstatic 105, 3) := by decide +kernel
theorem dX9_tune_4 : decode cX9_tune 4 = .ok (.iload_n 1, 1) := by decide +kernel
theorem dX9_tune_5 : decode cX9_tune 5 = .ok (.iload_n 2, 1) := by decide +kernel
theorem dX9_tune_6 : decode cX9_tune 6 = .ok (.iconst 0, 1) := by decide +kernel
theorem dX9_tune_7 : decode cX9_tune 7 = .ok (.invokevirtual 83, 3) := by decide +kernel
theorem dX9_tune_10 : decode cX9_tune 10 = .ok (.ireturn, 1) := by decide +kernel
theorem dX9_tinOf_0 : decode cX9_tinOf 0 = .ok (.iload_n 1, 1) := by decide +kernel
theorem dX9_tinOf_1 : decode cX9_tinOf 1 = .ok (.invokestatic 108, 3) := by decide +kernel
theorem dX9_tinOf_4 : decode cX9_tinOf 4 = .ok (.invokestatic 112, 3) := by decide +kernel
theorem dX9_tinOf_7 : decode cX9_tinOf 7 = .ok (.iload_n 2, 1) := by decide +kernel
theorem dX9_tinOf_8 : decode cX9_tinOf 8 = .ok (.iconst 0, 1) := by decide +kernel
theorem dX9_tinOf_9 : decode cX9_tinOf 9 = .ok (.iconst 4, 1) := by decide +kernel
theorem dX9_tinOf_10 : decode cX9_tinOf 10 = .ok (.invokestatic 116, 3) := by decide +kernel
theorem dX9_tinOf_13 : decode cX9_tinOf 13 = .ok (.invokestatic 120, 3) := by decide +kernel
theorem dX9_tinOf_16 : decode cX9_tinOf 16 = .ok (.iload_n 2, 1) := by decide +kernel
theorem dX9_tinOf_17 : decode cX9_tinOf 17 = .ok (.tableswitch 69 0 3 #[31, 40, 49, 59], 31) := by decide +kernel
theorem dX9_tinOf_48 : decode cX9_tinOf 48 = .ok (.aload_n 0, 1) := by decide +kernel
theorem dX9_tinOf_49 : decode cX9_tinOf 49 = .ok (.getfield 10, 3) := by decide +kernel
theorem dX9_tinOf_52 : decode cX9_tinOf 52 = .ok (.iload_n 1, 1) := by decide +kernel
theorem dX9_tinOf_53 : decode cX9_tinOf 53 = .ok (.invokevirtual 123, 3) := by decide +kernel
theorem dX9_tinOf_56 : decode cX9_tinOf 56 = .ok (.ireturn, 1) := by decide +kernel
theorem dX9_tinOf_57 : decode cX9_tinOf 57 = .ok (.aload_n 0, 1) := by decide +kernel
theorem dX9_tinOf_58 : decode cX9_tinOf 58 = .ok (.getfield 10, 3) := by decide +kernel
theorem dX9_tinOf_61 : decode cX9_tinOf 61 = .ok (.iload_n 1, 1) := by decide +kernel
theorem dX9_tinOf_62 : decode cX9_tinOf 62 = .ok (.invokevirtual 127, 3) := by decide +kernel
theorem dX9_tinOf_65 : decode cX9_tinOf 65 = .ok (.ireturn, 1) := by decide +kernel
theorem dX9_tinOf_66 : decode cX9_tinOf 66 = .ok (.aload_n 0, 1) := by decide +kernel
theorem dX9_tinOf_67 : decode cX9_tinOf 67 = .ok (.getfield 10, 3) := by decide +kernel
theorem dX9_tinOf_70 : decode cX9_tinOf 70 = .ok (.iload_n 1, 1) := by decide +kernel
theorem dX9_tinOf_71 : decode cX9_tinOf 71 = .ok (.iconst 0, 1) := by decide +kernel
theorem dX9_tinOf_72 : decode cX9_tinOf 72 = .ok (.invokevirtual 130, 3) := by decide +kernel
theorem dX9_tinOf_75 : decode cX9_tinOf 75 = .ok (.ireturn, 1) := by decide +kernel
theorem dX9_tinOf_76 : decode cX9_tinOf 76 = .ok (.aload_n 0, 1) := by decide +kernel
theorem dX9_tinOf_77 : decode cX9_tinOf 77 = .ok (.getfield 10, 3) := by decide +kernel
theorem dX9_tinOf_80 : decode cX9_tinOf 80 = .ok (.iload_n 1, 1) := by decide +kernel
theorem dX9_tinOf_81 : decode cX9_tinOf 81 = .ok (.iconst 1, 1) := by decide +kernel
theorem dX9_tinOf_82 : decode cX9_tinOf 82 = .ok (.invokevirtual 130, 3) := by decide +kernel
theorem dX9_tinOf_85 : decode cX9_tinOf 85 = .ok (.ireturn, 1) := by decide +kernel
theorem dX9_tinOf_86 : decode cX9_tinOf 86 = .ok (.aload_n 0, 1) := by decide +kernel
theorem dX9_tinOf_87 : decode cX9_tinOf 87 = .ok (.getfield 10, 3) := by decide +kernel
theorem dX9_tinOf_90 : decode cX9_tinOf 90 = .ok (.iload_n 1, 1) := by decide +kernel
theorem dX9_tinOf_91 : decode cX9_tinOf 91 = .ok (.invokevirtual 134, 3) := by decide +kernel
theorem dX9_tinOf_94 : decode cX9_tinOf 94 = .ok (.ireturn, 1) := by decide +kernel
theorem dX9_soundOf_0 : decode cX9_soundOf 0 = .ok (.aload_n 0, 1) := by decide +kernel
theorem dX9_soundOf_1 : decode cX9_soundOf 1 = .ok (.getfield 10, 3) := by decide +kernel
theorem dX9_soundOf_4 : decode cX9_soundOf 4 = .ok (.iload_n 1, 1) := by decide +kernel
theorem dX9_soundOf_5 : decode cX9_soundOf 5 = .ok (.invokevirtual 137, 3) := by decide +kernel
theorem dX9_soundOf_8 : decode cX9_soundOf 8 = .ok (.invokestatic 112, 3) := by decide +kernel
theorem dX9_soundOf_11 : decode cX9_soundOf 11 = .ok (.iload_n 2, 1) := by decide +kernel
theorem dX9_soundOf_12 : decode cX9_soundOf 12 = .ok (.iconst 0, 1) := by decide +kernel
theorem dX9_soundOf_13 : decode cX9_soundOf 13 = .ok (.bipush 6, 2) := by decide +kernel
theorem dX9_soundOf_15 : decode cX9_soundOf 15 = .ok (.invokestatic 116, 3) := by decide +kernel
theorem dX9_soundOf_18 : decode cX9_soundOf 18 = .ok (.invokestatic 120, 3) := by decide +kernel
theorem dX9_soundOf_21 : decode cX9_soundOf 21 = .ok (.iload_n 2, 1) := by decide +kernel
theorem dX9_soundOf_22 : decode cX9_soundOf 22 = .ok (.tableswitch 92 0 5 #[38, 47, 56, 65, 74, 83], 38) := by decide +kernel
theorem dX9_soundOf_60 : decode cX9_soundOf 60 = .ok (.aload_n 0, 1) := by decide +kernel
theorem dX9_soundOf_61 : decode cX9_soundOf 61 = .ok (.getfield 10, 3) := by decide +kernel
theorem dX9_soundOf_64 : decode cX9_soundOf 64 = .ok (.iload_n 1, 1) := by decide +kernel
theorem dX9_soundOf_65 : decode cX9_soundOf 65 = .ok (.invokevirtual 140, 3) := by decide +kernel
theorem dX9_soundOf_68 : decode cX9_soundOf 68 = .ok (.ireturn, 1) := by decide +kernel
theorem dX9_soundOf_69 : decode cX9_soundOf 69 = .ok (.aload_n 0, 1) := by decide +kernel
theorem dX9_soundOf_70 : decode cX9_soundOf 70 = .ok (.getfield 10, 3) := by decide +kernel
theorem dX9_soundOf_73 : decode cX9_soundOf 73 = .ok (.iload_n 1, 1) := by decide +kernel
theorem dX9_soundOf_74 : decode cX9_soundOf 74 = .ok (.invokevirtual 143, 3) := by decide +kernel
theorem dX9_soundOf_77 : decode cX9_soundOf 77 = .ok (.ireturn, 1) := by decide +kernel
theorem dX9_soundOf_78 : decode cX9_soundOf 78 = .ok (.aload_n 0, 1) := by decide +kernel
theorem dX9_soundOf_79 : decode cX9_soundOf 79 = .ok (.getfield 10, 3) := by decide +kernel
theorem dX9_soundOf_82 : decode cX9_soundOf 82 = .ok (.iload_n 1, 1) := by decide +kernel
theorem dX9_soundOf_83 : decode cX9_soundOf 83 = .ok (.invokevirtual 146, 3) := by decide +kernel
theorem dX9_soundOf_86 : decode cX9_soundOf 86 = .ok (.ireturn, 1) := by decide +kernel
theorem dX9_soundOf_87 : decode cX9_soundOf 87 = .ok (.aload_n 0, 1) := by decide +kernel
theorem dX9_soundOf_88 : decode cX9_soundOf 88 = .ok (.getfield 10, 3) := by decide +kernel
theorem dX9_soundOf_91 : decode cX9_soundOf 91 = .ok (.iload_n 1, 1) := by decide +kernel
theorem dX9_soundOf_92 : decode cX9_soundOf 92 = .ok (.invokevirtual 149, 3) := by decide +kernel
theorem dX9_soundOf_95 : decode cX9_soundOf 95 = .ok (.ireturn, 1) := by decide +kernel
theorem dX9_soundOf_96 : decode cX9_soundOf 96 = .ok (.aload_n 0, 1) := by decide +kernel
theorem dX9_soundOf_97 : decode cX9_soundOf 97 = .ok (.getfield 10, 3) := by decide +kernel
theorem dX9_soundOf_100 : decode cX9_soundOf 100 = .ok (.iload_n 1, 1) := by decide +kernel
theorem dX9_soundOf_101 : decode cX9_soundOf 101 = .ok (.invokevirtual 152, 3) := by decide +kernel
theorem dX9_soundOf_104 : decode cX9_soundOf 104 = .ok (.ireturn, 1) := by decide +kernel
theorem dX9_soundOf_105 : decode cX9_soundOf 105 = .ok (.aload_n 0, 1) := by decide +kernel
theorem dX9_soundOf_106 : decode cX9_soundOf 106 = .ok (.getfield 10, 3) := by decide +kernel
theorem dX9_soundOf_109 : decode cX9_soundOf 109 = .ok (.iload_n 1, 1) := by decide +kernel
theorem dX9_soundOf_110 : decode cX9_soundOf 110 = .ok (.invokevirtual 155, 3) := by decide +kernel
theorem dX9_soundOf_113 : decode cX9_soundOf 113 = .ok (.ireturn, 1) := by decide +kernel
theorem dX9_soundOf_114 : decode cX9_soundOf 114 = .ok (.aload_n 0, 1) := by decide +kernel
theorem dX9_soundOf_115 : decode cX9_soundOf 115 = .ok (.getfield 10, 3) := by decide +kernel
theorem dX9_soundOf_118 : decode cX9_soundOf 118 = .ok (.aload_n 0, 1) := by decide +kernel
theorem dX9_soundOf_119 : decode cX9_soundOf 119 = .ok (.getfield 10, 3) := by decide +kernel
theorem dX9_soundOf_122 : decode cX9_soundOf 122 = .ok (.iload_n 1, 1) := by decide +kernel
theorem dX9_soundOf_123 : decode cX9_soundOf 123 = .ok (.invokevirtual 155, 3) := by decide +kernel
theorem dX9_soundOf_126 : decode cX9_soundOf 126 = .ok (.invokevirtual 158, 3) := by decide +kernel
theorem dX9_soundOf_129 : decode cX9_soundOf 129 = .ok (.ireturn, 1) := by decide +kernel
theorem dX9_barOf_0 : decode cX9_barOf 0 = .ok (.aload_n 0, 1) := by decide +kernel
theorem dX9_barOf_1 : decode cX9_barOf 1 = .ok (.getfield 10, 3) := by decide +kernel
theorem dX9_barOf_4 : decode cX9_barOf 4 = .ok (.iload_n 1, 1) := by decide +kernel
theorem dX9_barOf_5 : decode cX9_barOf 5 = .ok (.invokevirtual 161, 3) := by decide +kernel
theorem dX9_barOf_8 : decode cX9_barOf 8 = .ok (.invokestatic 112, 3) := by decide +kernel
theorem dX9_barOf_11 : decode cX9_barOf 11 = .ok (.iload_n 2, 1) := by decide +kernel
theorem dX9_barOf_12 : decode cX9_barOf 12 = .ok (.iconst 0, 1) := by decide +kernel
theorem dX9_barOf_13 : decode cX9_barOf 13 = .ok (.iconst 4, 1) := by decide +kernel
theorem dX9_barOf_14 : decode cX9_barOf 14 = .ok (.invokestatic 116, 3) := by decide +kernel
theorem dX9_barOf_17 : decode cX9_barOf 17 = .ok (.invokestatic 120, 3) := by decide +kernel
theorem dX9_barOf_20 : decode cX9_barOf 20 = .ok (.iload_n 2, 1) := by decide +kernel
theorem dX9_barOf_21 : decode cX9_barOf 21 = .ok (.tableswitch 67 0 3 #[31, 40, 49, 58], 31) := by decide +kernel
theorem dX9_barOf_52 : decode cX9_barOf 52 = .ok (.aload_n 0, 1) := by decide +kernel
theorem dX9_barOf_53 : decode cX9_barOf 53 = .ok (.getfield 10, 3) := by decide +kernel
theorem dX9_barOf_56 : decode cX9_barOf 56 = .ok (.iload_n 1, 1) := by decide +kernel
theorem dX9_barOf_57 : decode cX9_barOf 57 = .ok (.invokevirtual 164, 3) := by decide +kernel
theorem dX9_barOf_60 : decode cX9_barOf 60 = .ok (.ireturn, 1) := by decide +kernel
theorem dX9_barOf_61 : decode cX9_barOf 61 = .ok (.aload_n 0, 1) := by decide +kernel
theorem dX9_barOf_62 : decode cX9_barOf 62 = .ok (.getfield 10, 3) := by decide +kernel
theorem dX9_barOf_65 : decode cX9_barOf 65 = .ok (.iload_n 1, 1) := by decide +kernel
theorem dX9_barOf_66 : decode cX9_barOf 66 = .ok (.invokevirtual 167, 3) := by decide +kernel
theorem dX9_barOf_69 : decode cX9_barOf 69 = .ok (.ireturn, 1) := by decide +kernel
theorem dX9_barOf_70 : decode cX9_barOf 70 = .ok (.aload_n 0, 1) := by decide +kernel
theorem dX9_barOf_71 : decode cX9_barOf 71 = .ok (.getfield 10, 3) := by decide +kernel
theorem dX9_barOf_74 : decode cX9_barOf 74 = .ok (.iload_n 1, 1) := by decide +kernel
theorem dX9_barOf_75 : decode cX9_barOf 75 = .ok (.invokevirtual 170, 3) := by decide +kernel
theorem dX9_barOf_78 : decode cX9_barOf 78 = .ok (.ireturn, 1) := by decide +kernel
theorem dX9_barOf_79 : decode cX9_barOf 79 = .ok (.aload_n 0, 1) := by decide +kernel
theorem dX9_barOf_80 : decode cX9_barOf 80 = .ok (.getfield 10, 3) := by decide +kernel
theorem dX9_barOf_83 : decode cX9_barOf 83 = .ok (.iload_n 1, 1) := by decide +kernel
theorem dX9_barOf_84 : decode cX9_barOf 84 = .ok (.invokevirtual 173, 3) := by decide +kernel
theorem dX9_barOf_87 : decode cX9_barOf 87 = .ok (.ireturn, 1) := by decide +kernel
theorem dX9_barOf_88 : decode cX9_barOf 88 = .ok (.aload_n 0, 1) := by decide +kernel
theorem dX9_barOf_89 : decode cX9_barOf 89 = .ok (.getfield 10, 3) := by decide +kernel
theorem dX9_barOf_92 : decode cX9_barOf 92 = .ok (.iload_n 1, 1) := by decide +kernel
theorem dX9_barOf_93 : decode cX9_barOf 93 = .ok (.invokevirtual 176, 3) := by decide +kernel
theorem dX9_barOf_96 : decode cX9_barOf 96 = .ok (.ireturn, 1) := by decide +kernel
theorem dX9_partOf_0 : decode cX9_partOf 0 = .ok (.aload_n 0, 1) := by decide +kernel
theorem dX9_partOf_1 : decode cX9_partOf 1 = .ok (.getfield 10, 3) := by decide +kernel
theorem dX9_partOf_4 : decode cX9_partOf 4 = .ok (.iload_n 1, 1) := by decide +kernel
theorem dX9_partOf_5 : decode cX9_partOf 5 = .ok (.invokevirtual 161, 3) := by decide +kernel
theorem dX9_partOf_8 : decode cX9_partOf 8 = .ok (.invokestatic 112, 3) := by decide +kernel
theorem dX9_partOf_11 : decode cX9_partOf 11 = .ok (.aload_n 0, 1) := by decide +kernel
theorem dX9_partOf_12 : decode cX9_partOf 12 = .ok (.getfield 10, 3) := by decide +kernel
theorem dX9_partOf_15 : decode cX9_partOf 15 = .ok (.iload_n 1, 1) := by decide +kernel
theorem dX9_partOf_16 : decode cX9_partOf 16 = .ok (.iload_n 2, 1) := by decide +kernel
theorem dX9_partOf_17 : decode cX9_partOf 17 = .ok (.invokevirtual 179, 3) := by decide +kernel
theorem dX9_partOf_20 : decode cX9_partOf 20 = .ok (.istore 4, 2) := by decide +kernel
theorem dX9_partOf_22 : decode cX9_partOf 22 = .ok (.iload 4, 2) := by decide +kernel
theorem dX9_partOf_24 : decode cX9_partOf 24 = .ok (.iconst (-1), 1) := by decide +kernel
theorem dX9_partOf_25 : decode cX9_partOf 25 = .ok (.if_icmp .eq 7, 3) := by decide +kernel
theorem dX9_partOf_28 : decode cX9_partOf 28 = .ok (.iconst 1, 1) := by decide +kernel
theorem dX9_partOf_29 : decode cX9_partOf 29 = .ok (.goto 4, 3) := by decide +kernel
theorem dX9_partOf_32 : decode cX9_partOf 32 = .ok (.iconst 0, 1) := by decide +kernel
theorem dX9_partOf_33 : decode cX9_partOf 33 = .ok (.invokestatic 112, 3) := by decide +kernel
theorem dX9_partOf_36 : decode cX9_partOf 36 = .ok (.iload_n 3, 1) := by decide +kernel
theorem dX9_partOf_37 : decode cX9_partOf 37 = .ok (.iconst 0, 1) := by decide +kernel
theorem dX9_partOf_38 : decode cX9_partOf 38 = .ok (.iconst 2, 1) := by decide +kernel
theorem dX9_partOf_39 : decode cX9_partOf 39 = .ok (.invokestatic 116, 3) := by decide +kernel
theorem dX9_partOf_42 : decode cX9_partOf 42 = .ok (.invokestatic 120, 3) := by decide +kernel
theorem dX9_partOf_45 : decode cX9_partOf 45 = .ok (.iload_n 3, 1) := by decide +kernel
theorem dX9_partOf_46 : decode cX9_partOf 46 = .ok (.lookupswitch 40 #[(0, 26), (1, 29)], 26) := by decide +kernel
theorem dX9_partOf_72 : decode cX9_partOf 72 = .ok (.iload 4, 2) := by decide +kernel
theorem dX9_partOf_74 : decode cX9_partOf 74 = .ok (.ireturn, 1) := by decide +kernel
theorem dX9_partOf_75 : decode cX9_partOf 75 = .ok (.aload_n 0, 1) := by decide +kernel
theorem dX9_partOf_76 : decode cX9_partOf 76 = .ok (.getfield 10, 3) := by decide +kernel
theorem dX9_partOf_79 : decode cX9_partOf 79 = .ok (.iload 4, 2) := by decide +kernel
theorem dX9_partOf_81 : decode cX9_partOf 81 = .ok (.iload_n 1, 1) := by decide +kernel
theorem dX9_partOf_82 : decode cX9_partOf 82 = .ok (.invokevirtual 183, 3) := by decide +kernel
theorem dX9_partOf_85 : decode cX9_partOf 85 = .ok (.ireturn, 1) := by decide +kernel
theorem dX9_partOf_86 : decode cX9_partOf 86 = .ok (.aload_n 0, 1) := by decide +kernel
theorem dX9_partOf_87 : decode cX9_partOf 87 = .ok (.getfield 10, 3) := by decide +kernel
theorem dX9_partOf_90 : decode cX9_partOf 90 = .ok (.iload 4, 2) := by decide +kernel
theorem dX9_partOf_92 : decode cX9_partOf 92 = .ok (.iload_n 1, 1) := by decide +kernel
theorem dX9_partOf_93 : decode cX9_partOf 93 = .ok (.invokevirtual 186, 3) := by decide +kernel
theorem dX9_partOf_96 : decode cX9_partOf 96 = .ok (.ifCond .eq 7, 3) := by decide +kernel
theorem dX9_partOf_99 : decode cX9_partOf 99 = .ok (.iconst 1, 1) := by decide +kernel
theorem dX9_partOf_100 : decode cX9_partOf 100 = .ok (.goto 4, 3) := by decide +kernel
theorem dX9_partOf_103 : decode cX9_partOf 103 = .ok (.iconst 0, 1) := by decide +kernel
theorem dX9_partOf_104 : decode cX9_partOf 104 = .ok (.ireturn, 1) := by decide +kernel
theorem dX9_at_0 : decode cX9_at 0 = .ok (.aload_n 0, 1) := by decide +kernel
theorem dX9_at_1 : decode cX9_at 1 = .ok (.getfield 10, 3) := by decide +kernel
theorem dX9_at_4 : decode cX9_at 4 = .ok (.iload_n 1, 1) := by decide +kernel
theorem dX9_at_5 : decode cX9_at 5 = .ok (.invokevirtual 190, 3) := by decide +kernel
theorem dX9_at_8 : decode cX9_at 8 = .ok (.invokestatic 193, 3) := by decide +kernel
theorem dX9_at_11 : decode cX9_at 11 = .ok (.ireturn, 1) := by decide +kernel
theorem dX9_faults_0 : decode cX9_faults 0 = .ok (.iload_n 1, 1) := by decide +kernel
theorem dX9_faults_1 : decode cX9_faults 1 = .ok (.iconst 1, 1) := by decide +kernel
theorem dX9_faults_2 : decode cX9_faults 2 = .ok (.iconst 4, 1) := by decide +kernel
theorem dX9_faults_3 : decode cX9_faults 3 = .ok (.invokestatic 116, 3) := by decide +kernel
theorem dX9_faults_6 : decode cX9_faults 6 = .ok (.invokestatic 120, 3) := by decide +kernel
theorem dX9_faults_9 : decode cX9_faults 9 = .ok (.iload_n 2, 1) := by decide +kernel
theorem dX9_faults_10 : decode cX9_faults 10 = .ok (.ifCond .eq 14, 3) := by decide +kernel
theorem dX9_faults_13 : decode cX9_faults 13 = .ok (.aload_n 0, 1) := by decide +kernel
theorem dX9_faults_14 : decode cX9_faults 14 = .ok (.getfield 34, 3) := by decide +kernel
theorem dX9_faults_17 : decode cX9_faults 17 = .ok (.iload_n 1, 1) := by decide +kernel
theorem dX9_faults_18 : decode cX9_faults 18 = .ok (.invokevirtual 196, 3) := by decide +kernel
theorem dX9_faults_21 : decode cX9_faults 21 = .ok (.goto 11, 3) := by decide +kernel
theorem dX9_faults_24 : decode cX9_faults 24 = .ok (.aload_n 0, 1) := by decide +kernel
theorem dX9_faults_25 : decode cX9_faults 25 = .ok (.getfield 34, 3) := by decide +kernel
theorem dX9_faults_28 : decode cX9_faults 28 = .ok (.iload_n 1, 1) := by decide +kernel
theorem dX9_faults_29 : decode cX9_faults 29 = .ok (.invokevirtual 199, 3) := by decide +kernel
theorem dX9_faults_32 : decode cX9_faults 32 = .ok (.ireturn, 1) := by decide +kernel
theorem dX9_firstFault_0 : decode cX9_firstFault 0 = .ok (.iload_n 1, 1) := by decide +kernel
theorem dX9_firstFault_1 : decode cX9_firstFault 1 = .ok (.iconst 1, 1) := by decide +kernel
theorem dX9_firstFault_2 : decode cX9_firstFault 2 = .ok (.iconst 4, 1) := by decide +kernel
theorem dX9_firstFault_3 : decode cX9_firstFault 3 = .ok (.invokestatic 116, 3) := by decide +kernel
theorem dX9_firstFault_6 : decode cX9_firstFault 6 = .ok (.invokestatic 120, 3) := by decide +kernel
theorem dX9_firstFault_9 : decode cX9_firstFault 9 = .ok (.aload_n 0, 1) := by decide +kernel
theorem dX9_firstFault_10 : decode cX9_firstFault 10 = .ok (.getfield 34, 3) := by decide +kernel
theorem dX9_firstFault_13 : decode cX9_firstFault 13 = .ok (.iload_n 1, 1) := by decide +kernel
theorem dX9_firstFault_14 : decode cX9_firstFault 14 = .ok (.invokevirtual 202, 3) := by decide +kernel
theorem dX9_firstFault_17 : decode cX9_firstFault 17 = .ok (.invokestatic 193, 3) := by decide +kernel
theorem dX9_firstFault_20 : decode cX9_firstFault 20 = .ok (.ireturn, 1) := by decide +kernel
theorem dX9_isClean_0 : decode cX9_isClean 0 = .ok (.aload_n 0, 1) := by decide +kernel
theorem dX9_isClean_1 : decode cX9_isClean 1 = .ok (.getfield 34, 3) := by decide +kernel
theorem dX9_isClean_4 : decode cX9_isClean 4 = .ok (.invokevirtual 205, 3) := by decide +kernel
theorem dX9_isClean_7 : decode cX9_isClean 7 = .ok (.ifCond .ne 7, 3) := by decide +kernel
theorem dX9_isClean_10 : decode cX9_isClean 10 = .ok (.iconst 1, 1) := by decide +kernel
theorem dX9_isClean_11 : decode cX9_isClean 11 = .ok (.goto 4, 3) := by decide +kernel
theorem dX9_isClean_14 : decode cX9_isClean 14 = .ok (.iconst 0, 1) := by decide +kernel
theorem dX9_isClean_15 : decode cX9_isClean 15 = .ok (.ireturn, 1) := by decide +kernel
theorem dX9_wouldFault_0 : decode cX9_wouldFault 0 = .ok (.aload_n 0, 1) := by decide +kernel
theorem dX9_wouldFault_1 : decode cX9_wouldFault 1 = .ok (.getfield 10, 3) := by decide +kernel
theorem dX9_wouldFault_4 : decode cX9_wouldFault 4 = .ok (.iload_n 1, 1) := by decide +kernel
theorem dX9_wouldFault_5 : decode cX9_wouldFault 5 = .ok (.invokevirtual 137, 3) := by decide +kernel
theorem dX9_wouldFault_8 : decode cX9_wouldFault 8 = .ok (.invokestatic 112, 3) := by decide +kernel
theorem dX9_wouldFault_11 : decode cX9_wouldFault 11 = .ok (.iload_n 2, 1) := by decide +kernel
theorem dX9_wouldFault_12 : decode cX9_wouldFault 12 = .ok (.iconst 0, 1) := by decide +kernel
theorem dX9_wouldFault_13 : decode cX9_wouldFault 13 = .ok (.bipush 9, 2) := by decide +kernel
theorem dX9_wouldFault_15 : decode cX9_wouldFault 15 = .ok (.invokestatic 116, 3) := by decide +kernel
theorem dX9_wouldFault_18 : decode cX9_wouldFault 18 = .ok (.invokestatic 120, 3) := by decide +kernel
theorem dX9_wouldFault_21 : decode cX9_wouldFault 21 = .ok (.aload_n 0, 1) := by decide +kernel
theorem dX9_wouldFault_22 : decode cX9_wouldFault 22 = .ok (.getfield 10, 3) := by decide +kernel
theorem dX9_wouldFault_25 : decode cX9_wouldFault 25 = .ok (.iload_n 1, 1) := by decide +kernel
theorem dX9_wouldFault_26 : decode cX9_wouldFault 26 = .ok (.invokevirtual 209, 3) := by decide +kernel
theorem dX9_wouldFault_29 : decode cX9_wouldFault 29 = .ok (.ifCond .ne 7, 3) := by decide +kernel
theorem dX9_wouldFault_32 : decode cX9_wouldFault 32 = .ok (.iconst 1, 1) := by decide +kernel
theorem dX9_wouldFault_33 : decode cX9_wouldFault 33 = .ok (.goto 4, 3) := by decide +kernel
theorem dX9_wouldFault_36 : decode cX9_wouldFault 36 = .ok (.iconst 0, 1) := by decide +kernel
theorem dX9_wouldFault_37 : decode cX9_wouldFault 37 = .ok (.invokestatic 212, 3) := by decide +kernel
theorem dX9_wouldFault_40 : decode cX9_wouldFault 40 = .ok (.aload_n 0, 1) := by decide +kernel
theorem dX9_wouldFault_41 : decode cX9_wouldFault 41 = .ok (.getfield 34, 3) := by decide +kernel
theorem dX9_wouldFault_44 : decode cX9_wouldFault 44 = .ok (.iload_n 1, 1) := by decide +kernel
theorem dX9_wouldFault_45 : decode cX9_wouldFault 45 = .ok (.iload_n 2, 1) := by decide +kernel
theorem dX9_wouldFault_46 : decode cX9_wouldFault 46 = .ok (.invokevirtual 215, 3) := by decide +kernel
theorem dX9_wouldFault_49 : decode cX9_wouldFault 49 = .ok (.ireturn, 1) := by decide +kernel
theorem dX9_bestHeight_0 : decode cX9_bestHeight 0 = .ok (.aload_n 0, 1) := by decide +kernel
theorem dX9_bestHeight_1 : decode cX9_bestHeight 1 = .ok (.getfield 10, 3) := by decide +kernel
theorem dX9_bestHeight_4 : decode cX9_bestHeight 4 = .ok (.iload_n 1, 1) := by decide +kernel
theorem dX9_bestHeight_5 : decode cX9_bestHeight 5 = .ok (.invokevirtual 137, 3) := by decide +kernel
theorem dX9_bestHeight_8 : decode cX9_bestHeight 8 = .ok (.invokestatic 112, 3) := by decide +kernel
theorem dX9_bestHeight_11 : decode cX9_bestHeight 11 = .ok (.aload_n 0, 1) := by decide +kernel
theorem dX9_bestHeight_12 : decode cX9_bestHeight 12 = .ok (.getfield 10, 3) := by decide +kernel
theorem dX9_bestHeight_15 : decode cX9_bestHeight 15 = .ok (.iload_n 1, 1) := by decide +kernel
theorem dX9_bestHeight_16 : decode cX9_bestHeight 16 = .ok (.invokevirtual 209, 3) := by decide +kernel
theorem dX9_bestHeight_19 : decode cX9_bestHeight 19 = .ok (.ifCond .ne 7, 3) := by decide +kernel
theorem dX9_bestHeight_22 : decode cX9_bestHeight 22 = .ok (.iconst 1, 1) := by decide +kernel
theorem dX9_bestHeight_23 : decode cX9_bestHeight 23 = .ok (.goto 4, 3) := by decide +kernel
theorem dX9_bestHeight_26 : decode cX9_bestHeight 26 = .ok (.iconst 0, 1) := by decide +kernel
theorem dX9_bestHeight_27 : decode cX9_bestHeight 27 = .ok (.invokestatic 212, 3) := by decide +kernel
theorem dX9_bestHeight_30 : decode cX9_bestHeight 30 = .ok (.iconst 0, 1) := by decide +kernel
theorem dX9_bestHeight_31 : decode cX9_bestHeight 31 = .ok (.istore_n 2, 1) := by decide +kernel
theorem dX9_bestHeight_32 : decode cX9_bestHeight 32 = .ok (.aload_n 0, 1) := by decide +kernel
theorem dX9_bestHeight_33 : decode cX9_bestHeight 33 = .ok (.getfield 34, 3) := by decide +kernel
theorem dX9_bestHeight_36 : decode cX9_bestHeight 36 = .ok (.iload_n 1, 1) := by decide +kernel
theorem dX9_bestHeight_37 : decode cX9_bestHeight 37 = .ok (.iconst 0, 1) := by decide +kernel
theorem dX9_bestHeight_38 : decode cX9_bestHeight 38 = .ok (.invokevirtual 215, 3) := by decide +kernel
theorem dX9_bestHeight_41 : decode cX9_bestHeight 41 = .ok (.istore_n 3, 1) := by decide +kernel
theorem dX9_bestHeight_42 : decode cX9_bestHeight 42 = .ok (.iconst 1, 1) := by decide +kernel
theorem dX9_bestHeight_43 : decode cX9_bestHeight 43 = .ok (.istore 4, 2) := by decide +kernel
theorem dX9_bestHeight_45 : decode cX9_bestHeight 45 = .ok (.iload 4, 2) := by decide +kernel
theorem dX9_bestHeight_47 : decode cX9_bestHeight 47 = .ok (.bipush 9, 2) := by decide +kernel
theorem dX9_bestHeight_49 : decode cX9_bestHeight 49 = .ok (.if_icmp .gt 33, 3) := by decide +kernel
theorem dX9_bestHeight_52 : decode cX9_bestHeight 52 = .ok (.aload_n 0, 1) := by decide +kernel
theorem dX9_bestHeight_53 : decode cX9_bestHeight 53 = .ok (.getfield 34, 3) := by decide +kernel
theorem dX9_bestHeight_56 : decode cX9_bestHeight 56 = .ok (.iload_n 1, 1) := by decide +kernel
theorem dX9_bestHeight_57 : decode cX9_bestHeight 57 = .ok (.iload 4, 2) := by decide +kernel
theorem dX9_bestHeight_59 : decode cX9_bestHeight 59 = .ok (.invokevirtual 215, 3) := by decide +kernel
theorem dX9_bestHeight_62 : decode cX9_bestHeight 62 = .ok (.istore 5, 2) := by decide +kernel
theorem dX9_bestHeight_64 : decode cX9_bestHeight 64 = .ok (.iload 5, 2) := by decide +kernel
theorem dX9_bestHeight_66 : decode cX9_bestHeight 66 = .ok (.iload_n 3, 1) := by decide +kernel
theorem dX9_bestHeight_67 : decode cX9_bestHeight 67 = .ok (.if_icmp .ge 9, 3) := by decide +kernel
theorem dX9_bestHeight_70 : decode cX9_bestHeight 70 = .ok (.iload 5, 2) := by decide +kernel
theorem dX9_bestHeight_72 : decode cX9_bestHeight 72 = .ok (.istore_n 3, 1) := by decide +kernel
theorem dX9_bestHeight_73 : decode cX9_bestHeight 73 = .ok (.iload 4, 2) := by decide +kernel
theorem dX9_bestHeight_75 : decode cX9_bestHeight 75 = .ok (.istore_n 2, 1) := by decide +kernel
theorem dX9_bestHeight_76 : decode cX9_bestHeight 76 = .ok (.iinc 4 1, 3) := by decide +kernel
theorem dX9_bestHeight_79 : decode cX9_bestHeight 79 = .ok (.goto (-34), 3) := by decide +kernel
theorem dX9_bestHeight_82 : decode cX9_bestHeight 82 = .ok (.iload_n 2, 1) := by decide +kernel
theorem dX9_bestHeight_83 : decode cX9_bestHeight 83 = .ok (.ireturn, 1) := by decide +kernel
theorem dX9_walk_0 : decode cX9_walk 0 = .ok (.iload_n 1, 1) := by decide +kernel
theorem dX9_walk_1 : decode cX9_walk 1 = .ok (.ifCond .eq 13, 3) := by decide +kernel
theorem dX9_walk_4 : decode cX9_walk 4 = .ok (.aload_n 0, 1) := by decide +kernel
theorem dX9_walk_5 : decode cX9_walk 5 = .ok (.getfield 41, 3) := by decide +kernel
theorem dX9_walk_8 : decode cX9_walk 8 = .ok (.invokevirtual 218, 3) := by decide +kernel
theorem dX9_walk_11 : decode cX9_walk 11 = .ok (.goto 10, 3) := by decide +kernel
theorem dX9_walk_14 : decode cX9_walk 14 = .ok (.aload_n 0, 1) := by decide +kernel
theorem dX9_walk_15 : decode cX9_walk 15 = .ok (.getfield 41, 3) := by decide +kernel
theorem dX9_walk_18 : decode cX9_walk 18 = .ok (.invokevirtual 221, 3) := by decide +kernel
theorem dX9_walk_21 : decode cX9_walk 21 = .ok (.ireturn, 1) := by decide +kernel
theorem dX9_goes_0 : decode cX9_goes 0 = .ok (.aload_n 0, 1) := by decide +kernel
theorem dX9_goes_1 : decode cX9_goes 1 = .ok (.getfield 41, 3) := by decide +kernel
theorem dX9_goes_4 : decode cX9_goes 4 = .ok (.iload_n 1, 1) := by decide +kernel
theorem dX9_goes_5 : decode cX9_goes 5 = .ok (.invokevirtual 224, 3) := by decide +kernel
theorem dX9_goes_8 : decode cX9_goes 8 = .ok (.ireturn, 1) := by decide +kernel
theorem dX9_span_0 : decode cX9_span 0 = .ok (.aload_n 0, 1) := by decide +kernel
theorem dX9_span_1 : decode cX9_span 1 = .ok (.getfield 41, 3) := by decide +kernel
theorem dX9_span_4 : decode cX9_span 4 = .ok (.invokevirtual 228, 3) := by decide +kernel
theorem dX9_span_7 : decode cX9_span 7 = .ok (.ireturn, 1) := by decide +kernel
theorem dX9_withPitch_0 : decode cX9_withPitch 0 = .ok (.iload_n 1, 1) := by decide +kernel
theorem dX9_withPitch_1 : decode cX9_withPitch 1 = .ok (.iconst 0, 1) := by decide +kernel
theorem dX9_withPitch_2 : decode cX9_withPitch 2 = .ok (.bipush 11, 2) := by decide +kernel
theorem dX9_withPitch_4 : decode cX9_withPitch 4 = .ok (.invokestatic 116, 3) := by decide +kernel
theorem dX9_withPitch_7 : decode cX9_withPitch 7 = .ok (.invokestatic 120, 3) := by decide +kernel
theorem dX9_withPitch_10 : decode cX9_withPitch 10 = .ok (.aload_n 0, 1) := by decide +kernel
theorem dX9_withPitch_11 : decode cX9_withPitch 11 = .ok (.getfield 41, 3) := by decide +kernel
theorem dX9_withPitch_14 : decode cX9_withPitch 14 = .ok (.iload_n 1, 1) := by decide +kernel
theorem dX9_withPitch_15 : decode cX9_withPitch 15 = .ok (.invokevirtual 231, 3) := by decide +kernel
theorem dX9_withPitch_18 : decode cX9_withPitch 18 = .ok (.ireturn, 1) := by decide +kernel
theorem dX9_loudest_0 : decode cX9_loudest 0 = .ok (.aload_n 0, 1) := by decide +kernel
theorem dX9_loudest_1 : decode cX9_loudest 1 = .ok (.getfield 48, 3) := by decide +kernel
theorem dX9_loudest_4 : decode cX9_loudest 4 = .ok (.iload_n 1, 1) := by decide +kernel
theorem dX9_loudest_5 : decode cX9_loudest 5 = .ok (.invokevirtual 234, 3) := by decide +kernel
theorem dX9_loudest_8 : decode cX9_loudest 8 = .ok (.invokestatic 193, 3) := by decide +kernel
theorem dX9_loudest_11 : decode cX9_loudest 11 = .ok (.ireturn, 1) := by decide +kernel
theorem dX9_highest_0 : decode cX9_highest 0 = .ok (.aload_n 0, 1) := by decide +kernel
theorem dX9_highest_1 : decode cX9_highest 1 = .ok (.getfield 48, 3) := by decide +kernel
theorem dX9_highest_4 : decode cX9_highest 4 = .ok (.iload_n 1, 1) := by decide +kernel
theorem dX9_highest_5 : decode cX9_highest 5 = .ok (.invokevirtual 237, 3) := by decide +kernel
theorem dX9_highest_8 : decode cX9_highest 8 = .ok (.invokestatic 193, 3) := by decide +kernel
theorem dX9_highest_11 : decode cX9_highest 11 = .ok (.ireturn, 1) := by decide +kernel
theorem dX9_line_0 : decode cX9_line 0 = .ok (.aload_n 0, 1) := by decide +kernel
theorem dX9_line_1 : decode cX9_line 1 = .ok (.getfield 10, 3) := by decide +kernel
theorem dX9_line_4 : decode cX9_line 4 = .ok (.iload_n 1, 1) := by decide +kernel
theorem dX9_line_5 : decode cX9_line 5 = .ok (.invokevirtual 161, 3) := by decide +kernel
theorem dX9_line_8 : decode cX9_line 8 = .ok (.invokestatic 112, 3) := by decide +kernel
theorem dX9_line_11 : decode cX9_line 11 = .ok (.aload_n 0, 1) := by decide +kernel
theorem dX9_line_12 : decode cX9_line 12 = .ok (.getfield 55, 3) := by decide +kernel
theorem dX9_line_15 : decode cX9_line 15 = .ok (.iload_n 1, 1) := by decide +kernel
theorem dX9_line_16 : decode cX9_line 16 = .ok (.invokevirtual 240, 3) := by decide +kernel
theorem dX9_line_19 : decode cX9_line 19 = .ok (.ireturn, 1) := by decide +kernel
theorem dX9_tinLine_0 : decode cX9_tinLine 0 = .ok (.iload_n 1, 1) := by decide +kernel
theorem dX9_tinLine_1 : decode cX9_tinLine 1 = .ok (.invokestatic 108, 3) := by decide +kernel
theorem dX9_tinLine_4 : decode cX9_tinLine 4 = .ok (.invokestatic 112, 3) := by decide +kernel
theorem dX9_tinLine_7 : decode cX9_tinLine 7 = .ok (.aload_n 0, 1) := by decide +kernel
theorem dX9_tinLine_8 : decode cX9_tinLine 8 = .ok (.getfield 55, 3) := by decide +kernel
theorem dX9_tinLine_11 : decode cX9_tinLine 11 = .ok (.iload_n 1, 1) := by decide +kernel
theorem dX9_tinLine_12 : decode cX9_tinLine 12 = .ok (.invokevirtual 243, 3) := by decide +kernel
theorem dX9_tinLine_15 : decode cX9_tinLine 15 = .ok (.ireturn, 1) := by decide +kernel
theorem dX9_character_0 : decode cX9_character 0 = .ok (.aload_n 0, 1) := by decide +kernel
theorem dX9_character_1 : decode cX9_character 1 = .ok (.getfield 55, 3) := by decide +kernel
theorem dX9_character_4 : decode cX9_character 4 = .ok (.iload_n 1, 1) := by decide +kernel
theorem dX9_character_5 : decode cX9_character 5 = .ok (.invokevirtual 246, 3) := by decide +kernel
theorem dX9_character_8 : decode cX9_character 8 = .ok (.invokestatic 112, 3) := by decide +kernel
theorem dX9_character_11 : decode cX9_character 11 = .ok (.aload_n 0, 1) := by decide +kernel
theorem dX9_character_12 : decode cX9_character 12 = .ok (.getfield 55, 3) := by decide +kernel
theorem dX9_character_15 : decode cX9_character 15 = .ok (.iload_n 1, 1) := by decide +kernel
theorem dX9_character_16 : decode cX9_character 16 = .ok (.invokevirtual 249, 3) := by decide +kernel
theorem dX9_character_19 : decode cX9_character 19 = .ok (.ireturn, 1) := by decide +kernel
theorem dX9_append_0 : decode cX9_append 0 = .ok (.aload_n 0, 1) := by decide +kernel
theorem dX9_append_1 : decode cX9_append 1 = .ok (.getfield 62, 3) := by decide +kernel
theorem dX9_append_4 : decode cX9_append 4 = .ok (.invokevirtual 253, 3) := by decide +kernel
theorem dX9_append_7 : decode cX9_append 7 = .ok (.ifCond .ne 7, 3) := by decide +kernel
theorem dX9_append_10 : decode cX9_append 10 = .ok (.iconst 1, 1) := by decide +kernel
theorem dX9_append_11 : decode cX9_append 11 = .ok (.goto 4, 3) := by decide +kernel
theorem dX9_append_14 : decode cX9_append 14 = .ok (.iconst 0, 1) := by decide +kernel
theorem dX9_append_15 : decode cX9_append 15 = .ok (.invokestatic 257, 3) := by decide +kernel
theorem dX9_append_18 : decode cX9_append 18 = .ok (.aload_n 0, 1) := by decide +kernel
theorem dX9_append_19 : decode cX9_append 19 = .ok (.getfield 62, 3) := by decide +kernel
theorem dX9_append_22 : decode cX9_append 22 = .ok (.iload_n 1, 1) := by decide +kernel
theorem dX9_append_23 : decode cX9_append 23 = .ok (.invokevirtual 260, 3) := by decide +kernel
theorem dX9_append_26 : decode cX9_append 26 = .ok (.ireturn, 1) := by decide +kernel
theorem dX9_run_0 : decode cX9_run 0 = .ok (.aload_n 0, 1) := by decide +kernel
theorem dX9_run_1 : decode cX9_run 1 = .ok (.getfield 62, 3) := by decide +kernel
theorem dX9_run_4 : decode cX9_run 4 = .ok (.invokevirtual 264, 3) := by decide +kernel
theorem dX9_run_7 : decode cX9_run 7 = .ok (.invokestatic 120, 3) := by decide +kernel
theorem dX9_run_10 : decode cX9_run 10 = .ok (.aload_n 0, 1) := by decide +kernel
theorem dX9_run_11 : decode cX9_run 11 = .ok (.getfield 19, 3) := by decide +kernel
theorem dX9_run_14 : decode cX9_run 14 = .ok (.aload_n 0, 1) := by decide +kernel
theorem dX9_run_15 : decode cX9_run 15 = .ok (.getfield 10, 3) := by decide +kernel
theorem dX9_run_18 : decode cX9_run 18 = .ok (.invokevirtual 267, 3) := by decide +kernel
theorem dX9_run_21 : decode cX9_run 21 = .ok (.aload_n 0, 1) := by decide +kernel
theorem dX9_run_22 : decode cX9_run 22 = .ok (.invokevirtual 270, 3) := by decide +kernel
theorem dX9_run_25 : decode cX9_run 25 = .ok (.istore_n 1, 1) := by decide +kernel
theorem dX9_run_26 : decode cX9_run 26 = .ok (.iload_n 1, 1) := by decide +kernel
theorem dX9_run_27 : decode cX9_run 27 = .ok (.ifCond .eq 14, 3) := by decide +kernel
theorem dX9_run_30 : decode cX9_run 30 = .ok (.aload_n 0, 1) := by decide +kernel
theorem dX9_run_31 : decode cX9_run 31 = .ok (.getfield 10, 3) := by decide +kernel
theorem dX9_run_34 : decode cX9_run 34 = .ok (.aload_n 0, 1) := by decide +kernel
theorem dX9_run_35 : decode cX9_run 35 = .ok (.getfield 19, 3) := by decide +kernel
theorem dX9_run_38 : decode cX9_run 38 = .ok (.invokevirtual 267, 3) := by decide +kernel
theorem dX9_run_41 : decode cX9_run 41 = .ok (.iload_n 1, 1) := by decide +kernel
theorem dX9_run_42 : decode cX9_run 42 = .ok (.iconst 3, 1) := by decide +kernel
theorem dX9_run_43 : decode cX9_run 43 = .ok (.if_icmp .eq 7, 3) := by decide +kernel
theorem dX9_run_46 : decode cX9_run 46 = .ok (.iconst 1, 1) := by decide +kernel
theorem dX9_run_47 : decode cX9_run 47 = .ok (.goto 4, 3) := by decide +kernel
theorem dX9_run_50 : decode cX9_run 50 = .ok (.iconst 0, 1) := by decide +kernel
theorem dX9_run_51 : decode cX9_run 51 = .ok (.invokestatic 273, 3) := by decide +kernel
theorem dX9_run_54 : decode cX9_run 54 = .ok (.iload_n 1, 1) := by decide +kernel
theorem dX9_run_55 : decode cX9_run 55 = .ok (.ifCond .ne 7, 3) := by decide +kernel
theorem dX9_run_58 : decode cX9_run 58 = .ok (.iconst 1, 1) := by decide +kernel
theorem dX9_run_59 : decode cX9_run 59 = .ok (.goto 4, 3) := by decide +kernel
theorem dX9_run_62 : decode cX9_run 62 = .ok (.iconst 0, 1) := by decide +kernel
theorem dX9_run_63 : decode cX9_run 63 = .ok (.invokestatic 120, 3) := by decide +kernel
theorem dX9_run_66 : decode cX9_run 66 = .ok (.aload_n 0, 1) := by decide +kernel
theorem dX9_run_67 : decode cX9_run 67 = .ok (.getfield 69, 3) := by decide +kernel
theorem dX9_run_70 : decode cX9_run 70 = .ok (.aload_n 0, 1) := by decide +kernel
theorem dX9_run_71 : decode cX9_run 71 = .ok (.getfield 19, 3) := by decide +kernel
theorem dX9_run_74 : decode cX9_run 74 = .ok (.invokevirtual 276, 3) := by decide +kernel
theorem dX9_run_77 : decode cX9_run 77 = .ok (.aload_n 0, 1) := by decide +kernel
theorem dX9_run_78 : decode cX9_run 78 = .ok (.getfield 62, 3) := by decide +kernel
theorem dX9_run_81 : decode cX9_run 81 = .ok (.invokevirtual 279, 3) := by decide +kernel
theorem dX9_run_84 : decode cX9_run 84 = .ok (.ireturn, 1) := by decide +kernel
theorem dX9_refusal_0 : decode cX9_refusal 0 = .ok (.aload_n 0, 1) := by decide +kernel
theorem dX9_refusal_1 : decode cX9_refusal 1 = .ok (.getfield 27, 3) := by decide +kernel
theorem dX9_refusal_4 : decode cX9_refusal 4 = .ok (.invokevirtual 285, 3) := by decide +kernel
theorem dX9_refusal_7 : decode cX9_refusal 7 = .ok (.invokestatic 212, 3) := by decide +kernel
theorem dX9_refusal_10 : decode cX9_refusal 10 = .ok (.iload_n 1, 1) := by decide +kernel
theorem dX9_refusal_11 : decode cX9_refusal 11 = .ok (.ifCond .eq 13, 3) := by decide +kernel
theorem dX9_refusal_14 : decode cX9_refusal 14 = .ok (.aload_n 0, 1) := by decide +kernel
theorem dX9_refusal_15 : decode cX9_refusal 15 = .ok (.getfield 27, 3) := by decide +kernel
theorem dX9_refusal_18 : decode cX9_refusal 18 = .ok (.invokevirtual 288, 3) := by decide +kernel
theorem dX9_refusal_21 : decode cX9_refusal 21 = .ok (.goto 10, 3) := by decide +kernel
theorem dX9_refusal_24 : decode cX9_refusal 24 = .ok (.aload_n 0, 1) := by decide +kernel
theorem dX9_refusal_25 : decode cX9_refusal 25 = .ok (.getfield 27, 3) := by decide +kernel
theorem dX9_refusal_28 : decode cX9_refusal 28 = .ok (.invokevirtual 291, 3) := by decide +kernel
theorem dX9_refusal_31 : decode cX9_refusal 31 = .ok (.ireturn, 1) := by decide +kernel
theorem dX9_account_0 : decode cX9_account 0 = .ok (.iload_n 1, 1) := by decide +kernel
theorem dX9_account_1 : decode cX9_account 1 = .ok (.iconst 0, 1) := by decide +kernel
theorem dX9_account_2 : decode cX9_account 2 = .ok (.bipush 11, 2) := by decide +kernel
theorem dX9_account_4 : decode cX9_account 4 = .ok (.invokestatic 116, 3) := by decide +kernel
theorem dX9_account_7 : decode cX9_account 7 = .ok (.invokestatic 120, 3) := by decide +kernel
theorem dX9_account_10 : decode cX9_account 10 = .ok (.iload_n 1, 1) := by decide +kernel
theorem dX9_account_11 : decode cX9_account 11 = .ok (.tableswitch 153 0 10 #[57, 65, 73, 81, 89, 105, 113, 121, 129, 137, 145], 57) := by decide +kernel
theorem dX9_account_68 : decode cX9_account 68 = .ok (.aload_n 0, 1) := by decide +kernel
theorem dX9_account_69 : decode cX9_account 69 = .ok (.getfield 10, 3) := by decide +kernel
theorem dX9_account_72 : decode cX9_account 72 = .ok (.invokevirtual 294, 3) := by decide +kernel
theorem dX9_account_75 : decode cX9_account 75 = .ok (.ireturn, 1) := by decide +kernel
theorem dX9_account_76 : decode cX9_account 76 = .ok (.aload_n 0, 1) := by decide +kernel
theorem dX9_account_77 : decode cX9_account 77 = .ok (.getfield 10, 3) := by decide +kernel
theorem dX9_account_80 : decode cX9_account 80 = .ok (.invokevirtual 297, 3) := by decide +kernel
theorem dX9_account_83 : decode cX9_account 83 = .ok (.ireturn, 1) := by decide +kernel
theorem dX9_account_84 : decode cX9_account 84 = .ok (.aload_n 0, 1) := by decide +kernel
theorem dX9_account_85 : decode cX9_account 85 = .ok (.getfield 10, 3) := by decide +kernel
theorem dX9_account_88 : decode cX9_account 88 = .ok (.invokevirtual 300, 3) := by decide +kernel
theorem dX9_account_91 : decode cX9_account 91 = .ok (.ireturn, 1) := by decide +kernel
theorem dX9_account_92 : decode cX9_account 92 = .ok (.aload_n 0, 1) := by decide +kernel
theorem dX9_account_93 : decode cX9_account 93 = .ok (.getfield 10, 3) := by decide +kernel
theorem dX9_account_96 : decode cX9_account 96 = .ok (.invokevirtual 303, 3) := by decide +kernel
theorem dX9_account_99 : decode cX9_account 99 = .ok (.ireturn, 1) := by decide +kernel
theorem dX9_account_100 : decode cX9_account 100 = .ok (.aload_n 0, 1) := by decide +kernel
theorem dX9_account_101 : decode cX9_account 101 = .ok (.getfield 10, 3) := by decide +kernel
theorem dX9_account_104 : decode cX9_account 104 = .ok (.invokevirtual 303, 3) := by decide +kernel
theorem dX9_account_107 : decode cX9_account 107 = .ok (.aload_n 0, 1) := by decide +kernel
theorem dX9_account_108 : decode cX9_account 108 = .ok (.getfield 10, 3) := by decide +kernel
theorem dX9_account_111 : decode cX9_account 111 = .ok (.invokevirtual 306, 3) := by decide +kernel
theorem dX9_account_114 : decode cX9_account 114 = .ok (.isub, 1) := by decide +kernel
theorem dX9_account_115 : decode cX9_account 115 = .ok (.ireturn, 1) := by decide +kernel
theorem dX9_account_116 : decode cX9_account 116 = .ok (.aload_n 0, 1) := by decide +kernel
theorem dX9_account_117 : decode cX9_account 117 = .ok (.getfield 10, 3) := by decide +kernel
theorem dX9_account_120 : decode cX9_account 120 = .ok (.invokevirtual 306, 3) := by decide +kernel
theorem dX9_account_123 : decode cX9_account 123 = .ok (.ireturn, 1) := by decide +kernel
theorem dX9_account_124 : decode cX9_account 124 = .ok (.aload_n 0, 1) := by decide +kernel
theorem dX9_account_125 : decode cX9_account 125 = .ok (.getfield 10, 3) := by decide +kernel
theorem dX9_account_128 : decode cX9_account 128 = .ok (.invokevirtual 309, 3) := by decide +kernel
theorem dX9_account_131 : decode cX9_account 131 = .ok (.ireturn, 1) := by decide +kernel
theorem dX9_account_132 : decode cX9_account 132 = .ok (.aload_n 0, 1) := by decide +kernel
theorem dX9_account_133 : decode cX9_account 133 = .ok (.getfield 10, 3) := by decide +kernel
theorem dX9_account_136 : decode cX9_account 136 = .ok (.invokevirtual 312, 3) := by decide +kernel
theorem dX9_account_139 : decode cX9_account 139 = .ok (.ireturn, 1) := by decide +kernel
theorem dX9_account_140 : decode cX9_account 140 = .ok (.aload_n 0, 1) := by decide +kernel
theorem dX9_account_141 : decode cX9_account 141 = .ok (.getfield 10, 3) := by decide +kernel
theorem dX9_account_144 : decode cX9_account 144 = .ok (.invokevirtual 315, 3) := by decide +kernel
theorem dX9_account_147 : decode cX9_account 147 = .ok (.ireturn, 1) := by decide +kernel
theorem dX9_account_148 : decode cX9_account 148 = .ok (.aload_n 0, 1) := by decide +kernel
theorem dX9_account_149 : decode cX9_account 149 = .ok (.getfield 10, 3) := by decide +kernel
theorem dX9_account_152 : decode cX9_account 152 = .ok (.invokevirtual 318, 3) := by decide +kernel
theorem dX9_account_155 : decode cX9_account 155 = .ok (.ireturn, 1) := by decide +kernel
theorem dX9_account_156 : decode cX9_account 156 = .ok (.aload_n 0, 1) := by decide +kernel
theorem dX9_account_157 : decode cX9_account 157 = .ok (.getfield 62, 3) := by decide +kernel
theorem dX9_account_160 : decode cX9_account 160 = .ok (.invokevirtual 321, 3) := by decide +kernel
theorem dX9_account_163 : decode cX9_account 163 = .ok (.ireturn, 1) := by decide +kernel
theorem dX9_account_164 : decode cX9_account 164 = .ok (.aload_n 0, 1) := by decide +kernel
theorem dX9_account_165 : decode cX9_account 165 = .ok (.getfield 69, 3) := by decide +kernel
theorem dX9_account_168 : decode cX9_account 168 = .ok (.invokevirtual 324, 3) := by decide +kernel
theorem dX9_account_171 : decode cX9_account 171 = .ok (.ireturn, 1) := by decide +kernel
theorem dX9_isWell_0 : decode cX9_isWell 0 = .ok (.aload_n 0, 1) := by decide +kernel
theorem dX9_isWell_1 : decode cX9_isWell 1 = .ok (.getfield 34, 3) := by decide +kernel
theorem dX9_isWell_4 : decode cX9_isWell 4 = .ok (.invokevirtual 327, 3) := by decide +kernel
theorem dX9_isWell_7 : decode cX9_isWell 7 = .ok (.ifCond .eq 44, 3) := by decide +kernel
theorem dX9_isWell_10 : decode cX9_isWell 10 = .ok (.aload_n 0, 1) := by decide +kernel
theorem dX9_isWell_11 : decode cX9_isWell 11 = .ok (.getfield 41, 3) := by decide +kernel
theorem dX9_isWell_14 : decode cX9_isWell 14 = .ok (.invokevirtual 221, 3) := by decide +kernel
theorem dX9_isWell_17 : decode cX9_isWell 17 = .ok (.aload_n 0, 1) := by decide +kernel
theorem dX9_isWell_18 : decode cX9_isWell 18 = .ok (.getfield 41, 3) := by decide +kernel
theorem dX9_isWell_21 : decode cX9_isWell 21 = .ok (.invokevirtual 218, 3) := by decide +kernel
theorem dX9_isWell_24 : decode cX9_isWell 24 = .ok (.if_icmp .ne 27, 3) := by decide +kernel
theorem dX9_isWell_27 : decode cX9_isWell 27 = .ok (.aload_n 0, 1) := by decide +kernel
theorem dX9_isWell_28 : decode cX9_isWell 28 = .ok (.getfield 10, 3) := by decide +kernel
theorem dX9_isWell_31 : decode cX9_isWell 31 = .ok (.invokevirtual 330, 3) := by decide +kernel
theorem dX9_isWell_34 : decode cX9_isWell 34 = .ok (.ifCond .eq 17, 3) := by decide +kernel
theorem dX9_isWell_37 : decode cX9_isWell 37 = .ok (.aload_n 0, 1) := by decide +kernel
theorem dX9_isWell_38 : decode cX9_isWell 38 = .ok (.getfield 10, 3) := by decide +kernel
theorem dX9_isWell_41 : decode cX9_isWell 41 = .ok (.invokevirtual 333, 3) := by decide +kernel
theorem dX9_isWell_44 : decode cX9_isWell 44 = .ok (.ifCond .eq 7, 3) := by decide +kernel
theorem dX9_isWell_47 : decode cX9_isWell 47 = .ok (.iconst 1, 1) := by decide +kernel
theorem dX9_isWell_48 : decode cX9_isWell 48 = .ok (.goto 4, 3) := by decide +kernel
theorem dX9_isWell_51 : decode cX9_isWell 51 = .ok (.iconst 0, 1) := by decide +kernel
theorem dX9_isWell_52 : decode cX9_isWell 52 = .ok (.ireturn, 1) := by decide +kernel
theorem dX9_meanPitch_0 : decode cX9_meanPitch 0 = .ok (.aload_n 0, 1) := by decide +kernel
theorem dX9_meanPitch_1 : decode cX9_meanPitch 1 = .ok (.getfield 41, 3) := by decide +kernel
theorem dX9_meanPitch_4 : decode cX9_meanPitch 4 = .ok (.invokevirtual 336, 3) := by decide +kernel
theorem dX9_meanPitch_7 : decode cX9_meanPitch 7 = .ok (.istore_n 1, 1) := by decide +kernel
theorem dX9_meanPitch_8 : decode cX9_meanPitch 8 = .ok (.iload_n 1, 1) := by decide +kernel
theorem dX9_meanPitch_9 : decode cX9_meanPitch 9 = .ok (.ifCond .gt 14, 3) := by decide +kernel
theorem dX9_meanPitch_12 : decode cX9_meanPitch 12 = .ok (.new 339, 3) := by decide +kernel
theorem dX9_meanPitch_15 : decode cX9_meanPitch 15 = .ok (.dup, 1) := by decide +kernel
theorem dX9_meanPitch_16 : decode cX9_meanPitch 16 = .ok (.ldc_w 341, 3) := by decide +kernel
theorem dX9_meanPitch_19 : decode cX9_meanPitch 19 = .ok (.invokespecial 343, 3) := by decide +kernel
theorem dX9_meanPitch_22 : decode cX9_meanPitch 22 = .ok (.athrow, 1) := by decide +kernel
theorem dX9_meanPitch_23 : decode cX9_meanPitch 23 = .ok (.aload_n 0, 1) := by decide +kernel
theorem dX9_meanPitch_24 : decode cX9_meanPitch 24 = .ok (.getfield 41, 3) := by decide +kernel
theorem dX9_meanPitch_27 : decode cX9_meanPitch 27 = .ok (.invokevirtual 346, 3) := by decide +kernel
theorem dX9_meanPitch_30 : decode cX9_meanPitch 30 = .ok (.i2d, 1) := by decide +kernel
theorem dX9_meanPitch_31 : decode cX9_meanPitch 31 = .ok (.iload_n 1, 1) := by decide +kernel
theorem dX9_meanPitch_32 : decode cX9_meanPitch 32 = .ok (.i2d, 1) := by decide +kernel
theorem dX9_meanPitch_33 : decode cX9_meanPitch 33 = .ok (.ddiv, 1) := by decide +kernel
theorem dX9_meanPitch_34 : decode cX9_meanPitch 34 = .ok (.dreturn, 1) := by decide +kernel
theorem dX9_filledShare_0 : decode cX9_filledShare 0 = .ok (.aload_n 0, 1) := by decide +kernel
theorem dX9_filledShare_1 : decode cX9_filledShare 1 = .ok (.getfield 10, 3) := by decide +kernel
theorem dX9_filledShare_4 : decode cX9_filledShare 4 = .ok (.invokevirtual 297, 3) := by decide +kernel
theorem dX9_filledShare_7 : decode cX9_filledShare 7 = .ok (.istore_n 1, 1) := by decide +kernel
theorem dX9_filledShare_8 : decode cX9_filledShare 8 = .ok (.iload_n 1, 1) := by decide +kernel
theorem dX9_filledShare_9 : decode cX9_filledShare 9 = .ok (.ifCond .gt 14, 3) := by decide +kernel
theorem dX9_filledShare_12 : decode cX9_filledShare 12 = .ok (.new 339, 3) := by decide +kernel
theorem dX9_filledShare_15 : decode cX9_filledShare 15 = .ok (.dup, 1) := by decide +kernel
theorem dX9_filledShare_16 : decode cX9_filledShare 16 = .ok (.ldc_w 349, 3) := by decide +kernel
theorem dX9_filledShare_19 : decode cX9_filledShare 19 = .ok (.invokespecial 343, 3) := by decide +kernel
theorem dX9_filledShare_22 : decode cX9_filledShare 22 = .ok (.athrow, 1) := by decide +kernel
theorem dX9_filledShare_23 : decode cX9_filledShare 23 = .ok (.aload_n 0, 1) := by decide +kernel
theorem dX9_filledShare_24 : decode cX9_filledShare 24 = .ok (.getfield 10, 3) := by decide +kernel
theorem dX9_filledShare_27 : decode cX9_filledShare 27 = .ok (.invokevirtual 300, 3) := by decide +kernel
theorem dX9_filledShare_30 : decode cX9_filledShare 30 = .ok (.i2f, 1) := by decide +kernel
theorem dX9_filledShare_31 : decode cX9_filledShare 31 = .ok (.iload_n 1, 1) := by decide +kernel
theorem dX9_filledShare_32 : decode cX9_filledShare 32 = .ok (.i2f, 1) := by decide +kernel
theorem dX9_filledShare_33 : decode cX9_filledShare 33 = .ok (.fdiv, 1) := by decide +kernel
theorem dX9_filledShare_34 : decode cX9_filledShare 34 = .ok (.freturn, 1) := by decide +kernel
theorem dX9_undo_0 : decode cX9_undo 0 = .ok (.aload_n 0, 1) := by decide +kernel
theorem dX9_undo_1 : decode cX9_undo 1 = .ok (.getfield 69, 3) := by decide +kernel
theorem dX9_undo_4 : decode cX9_undo 4 = .ok (.invokevirtual 324, 3) := by decide +kernel
theorem dX9_undo_7 : decode cX9_undo 7 = .ok (.ifCond .le 7, 3) := by decide +kernel
theorem dX9_undo_10 : decode cX9_undo 10 = .ok (.iconst 1, 1) := by decide +kernel
theorem dX9_undo_11 : decode cX9_undo 11 = .ok (.goto 4, 3) := by decide +kernel
theorem dX9_undo_14 : decode cX9_undo 14 = .ok (.iconst 0, 1) := by decide +kernel
theorem dX9_undo_15 : decode cX9_undo 15 = .ok (.invokestatic 257, 3) := by decide +kernel
theorem dX9_undo_18 : decode cX9_undo 18 = .ok (.aload_n 0, 1) := by decide +kernel
theorem dX9_undo_19 : decode cX9_undo 19 = .ok (.getfield 69, 3) := by decide +kernel
theorem dX9_undo_22 : decode cX9_undo 22 = .ok (.aload_n 0, 1) := by decide +kernel
theorem dX9_undo_23 : decode cX9_undo 23 = .ok (.getfield 10, 3) := by decide +kernel
theorem dX9_undo_26 : decode cX9_undo 26 = .ok (.invokevirtual 351, 3) := by decide +kernel
theorem dX9_undo_29 : decode cX9_undo 29 = .ok (.aload_n 0, 1) := by decide +kernel
theorem dX9_undo_30 : decode cX9_undo 30 = .ok (.getfield 69, 3) := by decide +kernel
theorem dX9_undo_33 : decode cX9_undo 33 = .ok (.invokevirtual 324, 3) := by decide +kernel
theorem dX9_undo_36 : decode cX9_undo 36 = .ok (.ireturn, 1) := by decide +kernel
theorem dX9_change_0 : decode cX9_change 0 = .ok (.aload_n 0, 1) := by decide +kernel
theorem dX9_change_1 : decode cX9_change 1 = .ok (.getfield 27, 3) := by decide +kernel
theorem dX9_change_4 : decode cX9_change 4 = .ok (.aload_n 1, 1) := by decide +kernel
theorem dX9_change_5 : decode cX9_change 5 = .ok (.iload_n 2, 1) := by decide +kernel
theorem dX9_change_6 : decode cX9_change 6 = .ok (.iload_n 3, 1) := by decide +kernel
theorem dX9_change_7 : decode cX9_change 7 = .ok (.iload 4, 2) := by decide +kernel
theorem dX9_change_9 : decode cX9_change 9 = .ok (.invokevirtual 357, 3) := by decide +kernel
theorem dX9_change_12 : decode cX9_change 12 = .ok (.istore 5, 2) := by decide +kernel
theorem dX9_change_14 : decode cX9_change 14 = .ok (.iload 5, 2) := by decide +kernel
theorem dX9_change_16 : decode cX9_change 16 = .ok (.iconst 1, 1) := by decide +kernel
theorem dX9_change_17 : decode cX9_change 17 = .ok (.if_icmp .eq 7, 3) := by decide +kernel
theorem dX9_change_20 : decode cX9_change 20 = .ok (.iconst 1, 1) := by decide +kernel
theorem dX9_change_21 : decode cX9_change 21 = .ok (.goto 4, 3) := by decide +kernel
theorem dX9_change_24 : decode cX9_change 24 = .ok (.iconst 0, 1) := by decide +kernel
theorem dX9_change_25 : decode cX9_change 25 = .ok (.invokestatic 112, 3) := by decide +kernel
theorem dX9_change_28 : decode cX9_change 28 = .ok (.iload 5, 2) := by decide +kernel
theorem dX9_change_30 : decode cX9_change 30 = .ok (.iconst 2, 1) := by decide +kernel
theorem dX9_change_31 : decode cX9_change 31 = .ok (.if_icmp .eq 7, 3) := by decide +kernel
theorem dX9_change_34 : decode cX9_change 34 = .ok (.iconst 1, 1) := by decide +kernel
theorem dX9_change_35 : decode cX9_change 35 = .ok (.goto 4, 3) := by decide +kernel
theorem dX9_change_38 : decode cX9_change 38 = .ok (.iconst 0, 1) := by decide +kernel
theorem dX9_change_39 : decode cX9_change 39 = .ok (.invokestatic 120, 3) := by decide +kernel
theorem dX9_change_42 : decode cX9_change 42 = .ok (.iload 5, 2) := by decide +kernel
theorem dX9_change_44 : decode cX9_change 44 = .ok (.iconst 3, 1) := by decide +kernel
theorem dX9_change_45 : decode cX9_change 45 = .ok (.if_icmp .eq 7, 3) := by decide +kernel
theorem dX9_change_48 : decode cX9_change 48 = .ok (.iconst 1, 1) := by decide +kernel
theorem dX9_change_49 : decode cX9_change 49 = .ok (.goto 4, 3) := by decide +kernel
theorem dX9_change_52 : decode cX9_change 52 = .ok (.iconst 0, 1) := by decide +kernel
theorem dX9_change_53 : decode cX9_change 53 = .ok (.invokestatic 273, 3) := by decide +kernel
theorem dX9_change_56 : decode cX9_change 56 = .ok (.aload_n 0, 1) := by decide +kernel
theorem dX9_change_57 : decode cX9_change 57 = .ok (.getfield 69, 3) := by decide +kernel
theorem dX9_change_60 : decode cX9_change 60 = .ok (.aload_n 0, 1) := by decide +kernel
theorem dX9_change_61 : decode cX9_change 61 = .ok (.getfield 10, 3) := by decide +kernel
theorem dX9_change_64 : decode cX9_change 64 = .ok (.invokevirtual 276, 3) := by decide +kernel
theorem dX9_change_67 : decode cX9_change 67 = .ok (.aload_n 0, 1) := by decide +kernel
theorem dX9_change_68 : decode cX9_change 68 = .ok (.getfield 27, 3) := by decide +kernel
theorem dX9_change_71 : decode cX9_change 71 = .ok (.aload_n 1, 1) := by decide +kernel
theorem dX9_change_72 : decode cX9_change 72 = .ok (.iload_n 2, 1) := by decide +kernel
theorem dX9_change_73 : decode cX9_change 73 = .ok (.iload_n 3, 1) := by decide +kernel
theorem dX9_change_74 : decode cX9_change 74 = .ok (.iload 4, 2) := by decide +kernel
theorem dX9_change_76 : decode cX9_change 76 = .ok (.invokevirtual 360, 3) := by decide +kernel
theorem dX9_change_79 : decode cX9_change 79 = .ok (.ireturn, 1) := by decide +kernel
theorem dX9_carryOutText_0 : decode cX9_carryOutText 0 = .ok (.iconst 0, 1) := by decide +kernel
theorem dX9_carryOutText_1 : decode cX9_carryOutText 1 = .ok (.istore_n 1, 1) := by decide +kernel
theorem dX9_carryOutText_2 : decode cX9_carryOutText 2 = .ok (.iload_n 1, 1) := by decide +kernel
theorem dX9_carryOutText_3 : decode cX9_carryOutText 3 = .ok (.aload_n 0, 1) := by decide +kernel
theorem dX9_carryOutText_4 : decode cX9_carryOutText 4 = .ok (.getfield 62, 3) := by decide +kernel
theorem dX9_carryOutText_7 : decode cX9_carryOutText 7 = .ok (.invokevirtual 279, 3) := by decide +kernel
theorem dX9_carryOutText_10 : decode cX9_carryOutText 10 = .ok (.if_icmp .ge 87, 3) := by decide +kernel
theorem dX9_carryOutText_13 : decode cX9_carryOutText 13 = .ok (.aload_n 0, 1) := by decide +kernel
theorem dX9_carryOutText_14 : decode cX9_carryOutText 14 = .ok (.getfield 62, 3) := by decide +kernel
theorem dX9_carryOutText_17 : decode cX9_carryOutText 17 = .ok (.iload_n 1, 1) := by decide +kernel
theorem dX9_carryOutText_18 : decode cX9_carryOutText 18 = .ok (.invokevirtual 363, 3) := by decide +kernel
theorem dX9_carryOutText_21 : decode cX9_carryOutText 21 = .ok (.astore_n 2, 1) := by decide +kernel
theorem dX9_carryOutText_22 : decode cX9_carryOutText 22 = .ok (.aload_n 0, 1) := by decide +kernel
theorem dX9_carryOutText_23 : decode cX9_carryOutText 23 = .ok (.getfield 62, 3) := by decide +kernel
theorem dX9_carryOutText_26 : decode cX9_carryOutText 26 = .ok (.iload_n 1, 1) := by decide +kernel
theorem dX9_carryOutText_27 : decode cX9_carryOutText 27 = .ok (.iconst 0, 1) := by decide +kernel
theorem dX9_carryOutText_28 : decode cX9_carryOutText 28 = .ok (.invokevirtual 367, 3) := by decide +kernel
theorem dX9_carryOutText_31 : decode cX9_carryOutText 31 = .ok (.istore_n 3, 1) := by decide +kernel
theorem dX9_carryOutText_32 : decode cX9_carryOutText 32 = .ok (.aload_n 0, 1) := by decide +kernel
theorem dX9_carryOutText_33 : decode cX9_carryOutText 33 = .ok (.getfield 62, 3) := by decide +kernel
theorem dX9_carryOutText_36 : decode cX9_carryOutText 36 = .ok (.iload_n 1, 1) := by decide +kernel
theorem dX9_carryOutText_37 : decode cX9_carryOutText 37 = .ok (.iconst 1, 1) := by decide +kernel
theorem dX9_carryOutText_38 : decode cX9_carryOutText 38 = .ok (.invokevirtual 367, 3) := by decide +kernel
theorem dX9_carryOutText_41 : decode cX9_carryOutText 41 = .ok (.istore 4, 2) := by decide +kernel
theorem dX9_carryOutText_43 : decode cX9_carryOutText 43 = .ok (.aload_n 0, 1) := by decide +kernel
theorem dX9_carryOutText_44 : decode cX9_carryOutText 44 = .ok (.getfield 62, 3) := by decide +kernel
theorem dX9_carryOutText_47 : decode cX9_carryOutText 47 = .ok (.iload_n 1, 1) := by decide +kernel
theorem dX9_carryOutText_48 : decode cX9_carryOutText 48 = .ok (.iconst 2, 1) := by decide +kernel
theorem dX9_carryOutText_49 : decode cX9_carryOutText 49 = .ok (.invokevirtual 367, 3) := by decide +kernel
theorem dX9_carryOutText_52 : decode cX9_carryOutText 52 = .ok (.istore 5, 2) := by decide +kernel
theorem dX9_carryOutText_54 : decode cX9_carryOutText 54 = .ok (.aload_n 0, 1) := by decide +kernel
theorem dX9_carryOutText_55 : decode cX9_carryOutText 55 = .ok (.getfield 27, 3) := by decide +kernel
theorem dX9_carryOutText_58 : decode cX9_carryOutText 58 = .ok (.aload_n 2, 1) := by decide +kernel
theorem dX9_carryOutText_59 : decode cX9_carryOutText 59 = .ok (.iload_n 3, 1) := by decide +kernel
theorem dX9_carryOutText_60 : decode cX9_carryOutText 60 = .ok (.iload 4, 2) := by decide +kernel
theorem dX9_carryOutText_62 : decode cX9_carryOutText 62 = .ok (.iload 5, 2) := by decide +kernel
theorem dX9_carryOutText_64 : decode cX9_carryOutText 64 = .ok (.invokevirtual 357, 3) := by decide +kernel
theorem dX9_carryOutText_67 : decode cX9_carryOutText 67 = .ok (.istore 6, 2) := by decide +kernel
theorem dX9_carryOutText_69 : decode cX9_carryOutText 69 = .ok (.iload 6, 2) := by decide +kernel
theorem dX9_carryOutText_71 : decode cX9_carryOutText 71 = .ok (.ifCond .eq 6, 3) := by decide +kernel
theorem dX9_carryOutText_74 : decode cX9_carryOutText 74 = .ok (.iload 6, 2) := by decide +kernel
theorem dX9_carryOutText_76 : decode cX9_carryOutText 76 = .ok (.ireturn, 1) := by decide +kernel
theorem dX9_carryOutText_77 : decode cX9_carryOutText 77 = .ok (.aload_n 0, 1) := by decide +kernel
theorem dX9_carryOutText_78 : decode cX9_carryOutText 78 = .ok (.getfield 27, 3) := by decide +kernel
theorem dX9_carryOutText_81 : decode cX9_carryOutText 81 = .ok (.aload_n 2, 1) := by decide +kernel
theorem dX9_carryOutText_82 : decode cX9_carryOutText 82 = .ok (.iload_n 3, 1) := by decide +kernel
theorem dX9_carryOutText_83 : decode cX9_carryOutText 83 = .ok (.iload 4, 2) := by decide +kernel
theorem dX9_carryOutText_85 : decode cX9_carryOutText 85 = .ok (.iload 5, 2) := by decide +kernel
theorem dX9_carryOutText_87 : decode cX9_carryOutText 87 = .ok (.invokevirtual 360, 3) := by decide +kernel
theorem dX9_carryOutText_90 : decode cX9_carryOutText 90 = .ok (.pop, 1) := by decide +kernel
theorem dX9_carryOutText_91 : decode cX9_carryOutText 91 = .ok (.iinc 1 1, 3) := by decide +kernel
theorem dX9_carryOutText_94 : decode cX9_carryOutText 94 = .ok (.goto (-92), 3) := by decide +kernel
theorem dX9_carryOutText_97 : decode cX9_carryOutText 97 = .ok (.iconst 0, 1) := by decide +kernel
theorem dX9_carryOutText_98 : decode cX9_carryOutText 98 = .ok (.ireturn, 1) := by decide +kernel
theorem dX9_needPlace_0 : decode cX9_needPlace 0 = .ok (.iload_n 0, 1) := by decide +kernel
theorem dX9_needPlace_1 : decode cX9_needPlace 1 = .ok (.ifCond .ne 14, 3) := by decide +kernel
theorem dX9_needPlace_4 : decode cX9_needPlace 4 = .ok (.new 370, 3) := by decide +kernel
theorem dX9_needPlace_7 : decode cX9_needPlace 7 = .ok (.dup, 1) := by decide +kernel
theorem dX9_needPlace_8 : decode cX9_needPlace 8 = .ok (.ldc_w 372, 3) := by decide +kernel
theorem dX9_needPlace_11 : decode cX9_needPlace 11 = .ok (.invokespecial 374, 3) := by decide +kernel
theorem dX9_needPlace_14 : decode cX9_needPlace 14 = .ok (.athrow, 1) := by decide +kernel
theorem dX9_needPlace_15 : decode cX9_needPlace 15 = .ok (.return_, 1) := by decide +kernel
theorem dX9_needRange_0 : decode cX9_needRange 0 = .ok (.iload_n 0, 1) := by decide +kernel
theorem dX9_needRange_1 : decode cX9_needRange 1 = .ok (.ifCond .ne 14, 3) := by decide +kernel
theorem dX9_needRange_4 : decode cX9_needRange 4 = .ok (.new 375, 3) := by decide +kernel
theorem dX9_needRange_7 : decode cX9_needRange 7 = .ok (.dup, 1) := by decide +kernel
theorem dX9_needRange_8 : decode cX9_needRange 8 = .ok (.ldc_w 377, 3) := by decide +kernel
theorem dX9_needRange_11 : decode cX9_needRange 11 = .ok (.invokespecial 379, 3) := by decide +kernel
theorem dX9_needRange_14 : decode cX9_needRange 14 = .ok (.athrow, 1) := by decide +kernel
theorem dX9_needRange_15 : decode cX9_needRange 15 = .ok (.return_, 1) := by decide +kernel
theorem dX9_needConsent_0 : decode cX9_needConsent 0 = .ok (.iload_n 0, 1) := by decide +kernel
theorem dX9_needConsent_1 : decode cX9_needConsent 1 = .ok (.ifCond .ne 14, 3) := by decide +kernel
theorem dX9_needConsent_4 : decode cX9_needConsent 4 = .ok (.new 380, 3) := by decide +kernel
theorem dX9_needConsent_7 : decode cX9_needConsent 7 = .ok (.dup, 1) := by decide +kernel
theorem dX9_needConsent_8 : decode cX9_needConsent 8 = .ok (.ldc_w 382, 3) := by decide +kernel
theorem dX9_needConsent_11 : decode cX9_needConsent 11 = .ok (.invokespecial 384, 3) := by decide +kernel
theorem dX9_needConsent_14 : decode cX9_needConsent 14 = .ok (.athrow, 1) := by decide +kernel
theorem dX9_needConsent_15 : decode cX9_needConsent 15 = .ok (.return_, 1) := by decide +kernel
theorem dX9_needElement_0 : decode cX9_needElement 0 = .ok (.iload_n 0, 1) := by decide +kernel
theorem dX9_needElement_1 : decode cX9_needElement 1 = .ok (.ifCond .ne 14, 3) := by decide +kernel
theorem dX9_needElement_4 : decode cX9_needElement 4 = .ok (.new 385, 3) := by decide +kernel
theorem dX9_needElement_7 : decode cX9_needElement 7 = .ok (.dup, 1) := by decide +kernel
theorem dX9_needElement_8 : decode cX9_needElement 8 = .ok (.ldc_w 387, 3) := by decide +kernel
theorem dX9_needElement_11 : decode cX9_needElement 11 = .ok (.invokespecial 389, 3) := by decide +kernel
theorem dX9_needElement_14 : decode cX9_needElement 14 = .ok (.athrow, 1) := by decide +kernel
theorem dX9_needElement_15 : decode cX9_needElement 15 = .ok (.return_, 1) := by decide +kernel
theorem dX9_needState_0 : decode cX9_needState 0 = .ok (.iload_n 0, 1) := by decide +kernel
theorem dX9_needState_1 : decode cX9_needState 1 = .ok (.ifCond .ne 14, 3) := by decide +kernel
theorem dX9_needState_4 : decode cX9_needState 4 = .ok (.new 390, 3) := by decide +kernel
theorem dX9_needState_7 : decode cX9_needState 7 = .ok (.dup, 1) := by decide +kernel
theorem dX9_needState_8 : decode cX9_needState 8 = .ok (.ldc_w 392, 3) := by decide +kernel
theorem dX9_needState_11 : decode cX9_needState 11 = .ok (.invokespecial 394, 3) := by decide +kernel
theorem dX9_needState_14 : decode cX9_needState 14 = .ok (.athrow, 1) := by decide +kernel
theorem dX9_needState_15 : decode cX9_needState 15 = .ok (.return_, 1) := by decide +kernel
theorem dX9_found_0 : decode cX9_found 0 = .ok (.iload_n 0, 1) := by decide +kernel
theorem dX9_found_1 : decode cX9_found 1 = .ok (.iconst (-1), 1) := by decide +kernel
theorem dX9_found_2 : decode cX9_found 2 = .ok (.if_icmp .eq 7, 3) := by decide +kernel
theorem dX9_found_5 : decode cX9_found 5 = .ok (.iconst 1, 1) := by decide +kernel
theorem dX9_found_6 : decode cX9_found 6 = .ok (.goto 4, 3) := by decide +kernel
theorem dX9_found_9 : decode cX9_found 9 = .ok (.iconst 0, 1) := by decide +kernel
theorem dX9_found_10 : decode cX9_found 10 = .ok (.invokestatic 212, 3) := by decide +kernel
theorem dX9_found_13 : decode cX9_found 13 = .ok (.iload_n 0, 1) := by decide +kernel
theorem dX9_found_14 : decode cX9_found 14 = .ok (.ireturn, 1) := by decide +kernel
theorem dX9_isWithin_0 : decode cX9_isWithin 0 = .ok (.iload_n 0, 1) := by decide +kernel
theorem dX9_isWithin_1 : decode cX9_isWithin 1 = .ok (.iload_n 1, 1) := by decide +kernel
theorem dX9_isWithin_2 : decode cX9_isWithin 2 = .ok (.if_icmp .lt 12, 3) := by decide +kernel
theorem dX9_isWithin_5 : decode cX9_isWithin 5 = .ok (.iload_n 0, 1) := by decide +kernel
theorem dX9_isWithin_6 : decode cX9_isWithin 6 = .ok (.iload_n 2, 1) := by decide +kernel
theorem dX9_isWithin_7 : decode cX9_isWithin 7 = .ok (.if_icmp .gt 7, 3) := by decide +kernel
theorem dX9_isWithin_10 : decode cX9_isWithin 10 = .ok (.iconst 1, 1) := by decide +kernel
theorem dX9_isWithin_11 : decode cX9_isWithin 11 = .ok (.goto 4, 3) := by decide +kernel
theorem dX9_isWithin_14 : decode cX9_isWithin 14 = .ok (.iconst 0, 1) := by decide +kernel
theorem dX9_isWithin_15 : decode cX9_isWithin 15 = .ok (.ireturn, 1) := by decide +kernel
theorem dX9_isTin_0 : decode cX9_isTin 0 = .ok (.iload_n 0, 1) := by decide +kernel
theorem dX9_isTin_1 : decode cX9_isTin 1 = .ok (.iconst 0, 1) := by decide +kernel
theorem dX9_isTin_2 : decode cX9_isTin 2 = .ok (.iconst 3, 1) := by decide +kernel
theorem dX9_isTin_3 : decode cX9_isTin 3 = .ok (.invokestatic 116, 3) := by decide +kernel
theorem dX9_isTin_6 : decode cX9_isTin 6 = .ok (.ireturn, 1) := by decide +kernel
theorem dX9_cell_0 : decode cX9_cell 0 = .ok (.iload_n 1, 1) := by decide +kernel
theorem dX9_cell_1 : decode cX9_cell 1 = .ok (.ifCond .lt 15, 3) := by decide +kernel
theorem dX9_cell_4 : decode cX9_cell 4 = .ok (.iload_n 1, 1) := by decide +kernel
theorem dX9_cell_5 : decode cX9_cell 5 = .ok (.aload_n 0, 1) := by decide +kernel
theorem dX9_cell_6 : decode cX9_cell 6 = .ok (.arraylength, 1) := by decide +kernel
theorem dX9_cell_7 : decode cX9_cell 7 = .ok (.if_icmp .ge 9, 3) := by decide +kernel
theorem dX9_cell_10 : decode cX9_cell 10 = .ok (.aload_n 0, 1) := by decide +kernel
theorem dX9_cell_11 : decode cX9_cell 11 = .ok (.iload_n 1, 1) := by decide +kernel
theorem dX9_cell_12 : decode cX9_cell 12 = .ok (.iaload, 1) := by decide +kernel
theorem dX9_cell_13 : decode cX9_cell 13 = .ok (.goto 4, 3) := by decide +kernel
theorem dX9_cell_16 : decode cX9_cell 16 = .ok (.iconst 0, 1) := by decide +kernel
theorem dX9_cell_17 : decode cX9_cell 17 = .ok (.ireturn, 1) := by decide +kernel
theorem dX9_put_0 : decode cX9_put 0 = .ok (.iload_n 1, 1) := by decide +kernel
theorem dX9_put_1 : decode cX9_put 1 = .ok (.ifCond .lt 13, 3) := by decide +kernel
theorem dX9_put_4 : decode cX9_put 4 = .ok (.iload_n 1, 1) := by decide +kernel
theorem dX9_put_5 : decode cX9_put 5 = .ok (.aload_n 0, 1) := by decide +kernel
theorem dX9_put_6 : decode cX9_put 6 = .ok (.arraylength, 1) := by decide +kernel
theorem dX9_put_7 : decode cX9_put 7 = .ok (.if_icmp .ge 7, 3) := by decide +kernel
theorem dX9_put_10 : decode cX9_put 10 = .ok (.aload_n 0, 1) := by decide +kernel
theorem dX9_put_11 : decode cX9_put 11 = .ok (.iload_n 1, 1) := by decide +kernel
theorem dX9_put_12 : decode cX9_put 12 = .ok (.iload_n 2, 1) := by decide +kernel
theorem dX9_put_13 : decode cX9_put 13 = .ok (.iastore, 1) := by decide +kernel
theorem dX9_put_14 : decode cX9_put 14 = .ok (.return_, 1) := by decide +kernel
theorem dX9_copyRow_0 : decode cX9_copyRow 0 = .ok (.iconst 0, 1) := by decide +kernel
theorem dX9_copyRow_1 : decode cX9_copyRow 1 = .ok (.istore_n 2, 1) := by decide +kernel
theorem dX9_copyRow_2 : decode cX9_copyRow 2 = .ok (.iload_n 2, 1) := by decide +kernel
theorem dX9_copyRow_3 : decode cX9_copyRow 3 = .ok (.aload_n 1, 1) := by decide +kernel
theorem dX9_copyRow_4 : decode cX9_copyRow 4 = .ok (.arraylength, 1) := by decide +kernel
theorem dX9_copyRow_5 : decode cX9_copyRow 5 = .ok (.if_icmp .ge 19, 3) := by decide +kernel
theorem dX9_copyRow_8 : decode cX9_copyRow 8 = .ok (.aload_n 1, 1) := by decide +kernel
theorem dX9_copyRow_9 : decode cX9_copyRow 9 = .ok (.iload_n 2, 1) := by decide +kernel
theorem dX9_copyRow_10 : decode cX9_copyRow 10 = .ok (.aload_n 0, 1) := by decide +kernel
theorem dX9_copyRow_11 : decode cX9_copyRow 11 = .ok (.iload_n 2, 1) := by decide +kernel
theorem dX9_copyRow_12 : decode cX9_copyRow 12 = .ok (.invokestatic 395, 3) := by decide +kernel
theorem dX9_copyRow_15 : decode cX9_copyRow 15 = .ok (.invokestatic 399, 3) := by decide +kernel
theorem dX9_copyRow_18 : decode cX9_copyRow 18 = .ok (.iinc 2 1, 3) := by decide +kernel
theorem dX9_copyRow_21 : decode cX9_copyRow 21 = .ok (.goto (-19), 3) := by decide +kernel
theorem dX9_copyRow_24 : decode cX9_copyRow 24 = .ok (.return_, 1) := by decide +kernel
