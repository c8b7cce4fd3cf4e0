theorem dC_init_0 : decode cC_init 0 = .ok (.aload_n 0, 1) := by decide +kernel
theorem dC_init_1 : decode cC_init 1 = .ok (.invokespecial 3, 3) := by decide +kernel
theorem dC_init_4 : decode cC_init 4 = .ok (.aload_n 0, 1) := by decide +kernel
theorem dC_init_5 : decode cC_init 5 = .ok (.iconst 0, 1) := by decide +kernel
theorem dC_init_6 : decode cC_init 6 = .ok (.putfield 9, 3) := by decide +kernel
theorem dC_init_9 : decode cC_init 9 = .ok (.aload_n 0, 1) := by decide +kernel
theorem dC_init_10 : decode cC_init 10 = .ok (.iconst 0, 1) := by decide +kernel
theorem dC_init_11 : decode cC_init 11 = .ok (.putfield 13, 3) := by decide +kernel
theorem dC_init_14 : decode cC_init 14 = .ok (.aload_n 0, 1) := by decide +kernel
theorem dC_init_15 : decode cC_init 15 = .ok (.aconst_null, 1) := by decide +kernel
theorem dC_init_16 : decode cC_init 16 = .ok (.putfield 16, 3) := by decide +kernel
theorem dC_init_19 : decode cC_init 19 = .ok (.return_, 1) := by decide +kernel
theorem dC_begin_0 : decode cC_begin 0 = .ok (.iload_n 1, 1) := by decide +kernel
theorem dC_begin_1 : decode cC_begin 1 = .ok (.invokestatic 28, 3) := by decide +kernel
theorem dC_begin_4 : decode cC_begin 4 = .ok (.ifCond .eq 28, 3) := by decide +kernel
theorem dC_begin_7 : decode cC_begin 7 = .ok (.iload_n 2, 1) := by decide +kernel
theorem dC_begin_8 : decode cC_begin 8 = .ok (.invokestatic 32, 3) := by decide +kernel
theorem dC_begin_11 : decode cC_begin 11 = .ok (.ifCond .eq 21, 3) := by decide +kernel
theorem dC_begin_14 : decode cC_begin 14 = .ok (.aload_n 0, 1) := by decide +kernel
theorem dC_begin_15 : decode cC_begin 15 = .ok (.getfield 13, 3) := by decide +kernel
theorem dC_begin_18 : decode cC_begin 18 = .ok (.sipush 200, 3) := by decide +kernel
theorem dC_begin_21 : decode cC_begin 21 = .ok (.if_icmp .ge 11, 3) := by decide +kernel
theorem dC_begin_24 : decode cC_begin 24 = .ok (.aload_n 0, 1) := by decide +kernel
theorem dC_begin_25 : decode cC_begin 25 = .ok (.iload_n 1, 1) := by decide +kernel
theorem dC_begin_26 : decode cC_begin 26 = .ok (.invokevirtual 35, 3) := by decide +kernel
theorem dC_begin_29 : decode cC_begin 29 = .ok (.ifCond .eq 5, 3) := by decide +kernel
theorem dC_begin_32 : decode cC_begin 32 = .ok (.iconst (-1), 1) := by decide +kernel
theorem dC_begin_33 : decode cC_begin 33 = .ok (.ireturn, 1) := by decide +kernel
theorem dC_begin_34 : decode cC_begin 34 = .ok (.aload_n 0, 1) := by decide +kernel
theorem dC_begin_35 : decode cC_begin 35 = .ok (.iload_n 1, 1) := by decide +kernel
theorem dC_begin_36 : decode cC_begin 36 = .ok (.iload_n 2, 1) := by decide +kernel
theorem dC_begin_37 : decode cC_begin 37 = .ok (.invokevirtual 38, 3) := by decide +kernel
theorem dC_begin_40 : decode cC_begin 40 = .ok (.astore_n 3, 1) := by decide +kernel
theorem dC_begin_41 : decode cC_begin 41 = .ok (.aload_n 3, 1) := by decide +kernel
theorem dC_begin_42 : decode cC_begin 42 = .ok (.ifnull 13, 3) := by decide +kernel
theorem dC_begin_45 : decode cC_begin 45 = .ok (.aload_n 3, 1) := by decide +kernel
theorem dC_begin_46 : decode cC_begin 46 = .ok (.dup, 1) := by decide +kernel
theorem dC_begin_47 : decode cC_begin 47 = .ok (.getfield 42, 3) := by decide +kernel
theorem dC_begin_50 : decode cC_begin 50 = .ok (.iconst 1, 1) := by decide +kernel
theorem dC_begin_51 : decode cC_begin 51 = .ok (.iadd, 1) := by decide +kernel
theorem dC_begin_52 : decode cC_begin 52 = .ok (.putfield 42, 3) := by decide +kernel
theorem dC_begin_55 : decode cC_begin 55 = .ok (.aload_n 0, 1) := by decide +kernel
theorem dC_begin_56 : decode cC_begin 56 = .ok (.new 43, 3) := by decide +kernel
theorem dC_begin_59 : decode cC_begin 59 = .ok (.dup, 1) := by decide +kernel
theorem dC_begin_60 : decode cC_begin 60 = .ok (.aload_n 0, 1) := by decide +kernel
theorem dC_begin_61 : decode cC_begin 61 = .ok (.getfield 13, 3) := by decide +kernel
theorem dC_begin_64 : decode cC_begin 64 = .ok (.iload_n 1, 1) := by decide +kernel
theorem dC_begin_65 : decode cC_begin 65 = .ok (.iload_n 2, 1) := by decide +kernel
theorem dC_begin_66 : decode cC_begin 66 = .ok (.aload_n 3, 1) := by decide +kernel
theorem dC_begin_67 : decode cC_begin 67 = .ok (.aload_n 0, 1) := by decide +kernel
theorem dC_begin_68 : decode cC_begin 68 = .ok (.getfield 9, 3) := by decide +kernel
theorem dC_begin_71 : decode cC_begin 71 = .ok (.aload_n 0, 1) := by decide +kernel
theorem dC_begin_72 : decode cC_begin 72 = .ok (.getfield 16, 3) := by decide +kernel
theorem dC_begin_75 : decode cC_begin 75 = .ok (.invokespecial 47, 3) := by decide +kernel
theorem dC_begin_78 : decode cC_begin 78 = .ok (.putfield 16, 3) := by decide +kernel
theorem dC_begin_81 : decode cC_begin 81 = .ok (.aload_n 0, 1) := by decide +kernel
theorem dC_begin_82 : decode cC_begin 82 = .ok (.dup, 1) := by decide +kernel
theorem dC_begin_83 : decode cC_begin 83 = .ok (.getfield 13, 3) := by decide +kernel
theorem dC_begin_86 : decode cC_begin 86 = .ok (.iconst 1, 1) := by decide +kernel
theorem dC_begin_87 : decode cC_begin 87 = .ok (.iadd, 1) := by decide +kernel
theorem dC_begin_88 : decode cC_begin 88 = .ok (.putfield 13, 3) := by decide +kernel
theorem dC_begin_91 : decode cC_begin 91 = .ok (.aload_n 0, 1) := by decide +kernel
theorem dC_begin_92 : decode cC_begin 92 = .ok (.getfield 16, 3) := by decide +kernel
theorem dC_begin_95 : decode cC_begin 95 = .ok (.getfield 50, 3) := by decide +kernel
theorem dC_begin_98 : decode cC_begin 98 = .ok (.ireturn, 1) := by decide +kernel
theorem dC_isSeries_0 : decode cC_isSeries 0 = .ok (.iload_n 0, 1) := by decide +kernel
theorem dC_isSeries_1 : decode cC_isSeries 1 = .ok (.ifCond .lt 13, 3) := by decide +kernel
theorem dC_isSeries_4 : decode cC_isSeries 4 = .ok (.iload_n 0, 1) := by decide +kernel
theorem dC_isSeries_5 : decode cC_isSeries 5 = .ok (.bipush 8, 2) := by decide +kernel
theorem dC_isSeries_7 : decode cC_isSeries 7 = .ok (.if_icmp .ge 7, 3) := by decide +kernel
theorem dC_isSeries_10 : decode cC_isSeries 10 = .ok (.iconst 1, 1) := by decide +kernel
theorem dC_isSeries_11 : decode cC_isSeries 11 = .ok (.goto 4, 3) := by decide +kernel
theorem dC_isSeries_14 : decode cC_isSeries 14 = .ok (.iconst 0, 1) := by decide +kernel
theorem dC_isSeries_15 : decode cC_isSeries 15 = .ok (.ireturn, 1) := by decide +kernel
theorem dC_isLevel_0 : decode cC_isLevel 0 = .ok (.iload_n 0, 1) := by decide +kernel
theorem dC_isLevel_1 : decode cC_isLevel 1 = .ok (.ifCond .lt 12, 3) := by decide +kernel
theorem dC_isLevel_4 : decode cC_isLevel 4 = .ok (.iload_n 0, 1) := by decide +kernel
theorem dC_isLevel_5 : decode cC_isLevel 5 = .ok (.iconst 2, 1) := by decide +kernel
theorem dC_isLevel_6 : decode cC_isLevel 6 = .ok (.if_icmp .gt 7, 3) := by decide +kernel
theorem dC_isLevel_9 : decode cC_isLevel 9 = .ok (.iconst 1, 1) := by decide +kernel
theorem dC_isLevel_10 : decode cC_isLevel 10 = .ok (.goto 4, 3) := by decide +kernel
theorem dC_isLevel_13 : decode cC_isLevel 13 = .ok (.iconst 0, 1) := by decide +kernel
theorem dC_isLevel_14 : decode cC_isLevel 14 = .ok (.ireturn, 1) := by decide +kernel
theorem dC_hasRunning_0 : decode cC_hasRunning 0 = .ok (.aload_n 0, 1) := by decide +kernel
theorem dC_hasRunning_1 : decode cC_hasRunning 1 = .ok (.getfield 16, 3) := by decide +kernel
theorem dC_hasRunning_4 : decode cC_hasRunning 4 = .ok (.astore_n 2, 1) := by decide +kernel
theorem dC_hasRunning_5 : decode cC_hasRunning 5 = .ok (.aload_n 2, 1) := by decide +kernel
theorem dC_hasRunning_6 : decode cC_hasRunning 6 = .ok (.ifnull 28, 3) := by decide +kernel
theorem dC_hasRunning_9 : decode cC_hasRunning 9 = .ok (.aload_n 2, 1) := by decide +kernel
theorem dC_hasRunning_10 : decode cC_hasRunning 10 = .ok (.getfield 111, 3) := by decide +kernel
theorem dC_hasRunning_13 : decode cC_hasRunning 13 = .ok (.iload_n 1, 1) := by decide +kernel
theorem dC_hasRunning_14 : decode cC_hasRunning 14 = .ok (.if_icmp .ne 12, 3) := by decide +kernel
theorem dC_hasRunning_17 : decode cC_hasRunning 17 = .ok (.aload_n 2, 1) := by decide +kernel
theorem dC_hasRunning_18 : decode cC_hasRunning 18 = .ok (.getfield 57, 3) := by decide +kernel
theorem dC_hasRunning_21 : decode cC_hasRunning 21 = .ok (.ifCond .ne 5, 3) := by decide +kernel
theorem dC_hasRunning_24 : decode cC_hasRunning 24 = .ok (.iconst 1, 1) := by decide +kernel
theorem dC_hasRunning_25 : decode cC_hasRunning 25 = .ok (.ireturn, 1) := by decide +kernel
theorem dC_hasRunning_26 : decode cC_hasRunning 26 = .ok (.aload_n 2, 1) := by decide +kernel
theorem dC_hasRunning_27 : decode cC_hasRunning 27 = .ok (.getfield 108, 3) := by decide +kernel
theorem dC_hasRunning_30 : decode cC_hasRunning 30 = .ok (.astore_n 2, 1) := by decide +kernel
theorem dC_hasRunning_31 : decode cC_hasRunning 31 = .ok (.goto (-26), 3) := by decide +kernel
theorem dC_hasRunning_34 : decode cC_hasRunning 34 = .ok (.iconst 0, 1) := by decide +kernel
theorem dC_hasRunning_35 : decode cC_hasRunning 35 = .ok (.ireturn, 1) := by decide +kernel
theorem dC_findBase_0 : decode cC_findBase 0 = .ok (.iload_n 2, 1) := by decide +kernel
theorem dC_findBase_1 : decode cC_findBase 1 = .ok (.ifCond .ne 5, 3) := by decide +kernel
theorem dC_findBase_4 : decode cC_findBase 4 = .ok (.aconst_null, 1) := by decide +kernel
theorem dC_findBase_5 : decode cC_findBase 5 = .ok (.areturn, 1) := by decide +kernel
theorem dC_findBase_6 : decode cC_findBase 6 = .ok (.aload_n 0, 1) := by decide +kernel
theorem dC_findBase_7 : decode cC_findBase 7 = .ok (.getfield 16, 3) := by decide +kernel
theorem dC_findBase_10 : decode cC_findBase 10 = .ok (.astore_n 3, 1) := by decide +kernel
theorem dC_findBase_11 : decode cC_findBase 11 = .ok (.aload_n 3, 1) := by decide +kernel
theorem dC_findBase_12 : decode cC_findBase 12 = .ok (.ifnull 40, 3) := by decide +kernel
theorem dC_findBase_15 : decode cC_findBase 15 = .ok (.aload_n 3, 1) := by decide +kernel
theorem dC_findBase_16 : decode cC_findBase 16 = .ok (.getfield 111, 3) := by decide +kernel
theorem dC_findBase_19 : decode cC_findBase 19 = .ok (.iload_n 1, 1) := by decide +kernel
theorem dC_findBase_20 : decode cC_findBase 20 = .ok (.if_icmp .ne 24, 3) := by decide +kernel
theorem dC_findBase_23 : decode cC_findBase 23 = .ok (.aload_n 3, 1) := by decide +kernel
theorem dC_findBase_24 : decode cC_findBase 24 = .ok (.invokestatic 136, 3) := by decide +kernel
theorem dC_findBase_27 : decode cC_findBase 27 = .ok (.ifCond .eq 17, 3) := by decide +kernel
theorem dC_findBase_30 : decode cC_findBase 30 = .ok (.iload_n 2, 1) := by decide +kernel
theorem dC_findBase_31 : decode cC_findBase 31 = .ok (.iconst 2, 1) := by decide +kernel
theorem dC_findBase_32 : decode cC_findBase 32 = .ok (.if_icmp .eq 10, 3) := by decide +kernel
theorem dC_findBase_35 : decode cC_findBase 35 = .ok (.aload_n 3, 1) := by decide +kernel
theorem dC_findBase_36 : decode cC_findBase 36 = .ok (.getfield 63, 3) := by decide +kernel
theorem dC_findBase_39 : decode cC_findBase 39 = .ok (.ifCond .ne 5, 3) := by decide +kernel
theorem dC_findBase_42 : decode cC_findBase 42 = .ok (.aload_n 3, 1) := by decide +kernel
theorem dC_findBase_43 : decode cC_findBase 43 = .ok (.areturn, 1) := by decide +kernel
theorem dC_findBase_44 : decode cC_findBase 44 = .ok (.aload_n 3, 1) := by decide +kernel
theorem dC_findBase_45 : decode cC_findBase 45 = .ok (.getfield 108, 3) := by decide +kernel
theorem dC_findBase_48 : decode cC_findBase 48 = .ok (.astore_n 3, 1) := by decide +kernel
theorem dC_findBase_49 : decode cC_findBase 49 = .ok (.goto (-38), 3) := by decide +kernel
theorem dC_findBase_52 : decode cC_findBase 52 = .ok (.aconst_null, 1) := by decide +kernel
theorem dC_findBase_53 : decode cC_findBase 53 = .ok (.areturn, 1) := by decide +kernel
theorem dC_isUsable_0 : decode cC_isUsable 0 = .ok (.aload_n 0, 1) := by decide +kernel
theorem dC_isUsable_1 : decode cC_isUsable 1 = .ok (.getfield 57, 3) := by decide +kernel
theorem dC_isUsable_4 : decode cC_isUsable 4 = .ok (.iconst 1, 1) := by decide +kernel
theorem dC_isUsable_5 : decode cC_isUsable 5 = .ok (.if_icmp .ne 14, 3) := by decide +kernel
theorem dC_isUsable_8 : decode cC_isUsable 8 = .ok (.aload_n 0, 1) := by decide +kernel
theorem dC_isUsable_9 : decode cC_isUsable 9 = .ok (.getfield 121, 3) := by decide +kernel
theorem dC_isUsable_12 : decode cC_isUsable 12 = .ok (.ifCond .ne 7, 3) := by decide +kernel
theorem dC_isUsable_15 : decode cC_isUsable 15 = .ok (.iconst 1, 1) := by decide +kernel
theorem dC_isUsable_16 : decode cC_isUsable 16 = .ok (.goto 4, 3) := by decide +kernel
theorem dC_isUsable_19 : decode cC_isUsable 19 = .ok (.iconst 0, 1) := by decide +kernel
theorem dC_isUsable_20 : decode cC_isUsable 20 = .ok (.ireturn, 1) := by decide +kernel
theorem dJ_init_0 : decode cJ_init 0 = .ok (.aload_n 0, 1) := by decide +kernel
theorem dJ_init_1 : decode cJ_init 1 = .ok (.invokespecial 3, 3) := by decide +kernel
theorem dJ_init_4 : decode cJ_init 4 = .ok (.aload_n 0, 1) := by decide +kernel
theorem dJ_init_5 : decode cJ_init 5 = .ok (.iload_n 1, 1) := by decide +kernel
theorem dJ_init_6 : decode cJ_init 6 = .ok (.putfield 9, 3) := by decide +kernel
theorem dJ_init_9 : decode cJ_init 9 = .ok (.aload_n 0, 1) := by decide +kernel
theorem dJ_init_10 : decode cJ_init 10 = .ok (.iload_n 2, 1) := by decide +kernel
theorem dJ_init_11 : decode cJ_init 11 = .ok (.putfield 15, 3) := by decide +kernel
theorem dJ_init_14 : decode cJ_init 14 = .ok (.aload_n 0, 1) := by decide +kernel
theorem dJ_init_15 : decode cJ_init 15 = .ok (.aload 4, 2) := by decide +kernel
theorem dJ_init_17 : decode cJ_init 17 = .ok (.ifnonnull 7, 3) := by decide +kernel
theorem dJ_init_20 : decode cJ_init 20 = .ok (.iconst 0, 1) := by decide +kernel
theorem dJ_init_21 : decode cJ_init 21 = .ok (.goto 4, 3) := by decide +kernel
theorem dJ_init_24 : decode cJ_init 24 = .ok (.iload_n 3, 1) := by decide +kernel
theorem dJ_init_25 : decode cJ_init 25 = .ok (.putfield 18, 3) := by decide +kernel
theorem dJ_init_28 : decode cJ_init 28 = .ok (.aload_n 0, 1) := by decide +kernel
theorem dJ_init_29 : decode cJ_init 29 = .ok (.aload 4, 2) := by decide +kernel
theorem dJ_init_31 : decode cJ_init 31 = .ok (.ifnonnull 11, 3) := by decide +kernel
theorem dJ_init_34 : decode cJ_init 34 = .ok (.iload_n 3, 1) := by decide +kernel
theorem dJ_init_35 : decode cJ_init 35 = .ok (.ifCond .eq 7, 3) := by decide +kernel
theorem dJ_init_38 : decode cJ_init 38 = .ok (.iconst 1, 1) := by decide +kernel
theorem dJ_init_39 : decode cJ_init 39 = .ok (.goto 4, 3) := by decide +kernel
theorem dJ_init_42 : decode cJ_init 42 = .ok (.iconst 0, 1) := by decide +kernel
theorem dJ_init_43 : decode cJ_init 43 = .ok (.putfield 21, 3) := by decide +kernel
theorem dJ_init_46 : decode cJ_init 46 = .ok (.aload_n 0, 1) := by decide +kernel
theorem dJ_init_47 : decode cJ_init 47 = .ok (.aload 4, 2) := by decide +kernel
theorem dJ_init_49 : decode cJ_init 49 = .ok (.putfield 25, 3) := by decide +kernel
theorem dJ_init_52 : decode cJ_init 52 = .ok (.aload_n 0, 1) := by decide +kernel
theorem dJ_init_53 : decode cJ_init 53 = .ok (.iload 5, 2) := by decide +kernel
theorem dJ_init_55 : decode cJ_init 55 = .ok (.putfield 29, 3) := by decide +kernel
theorem dJ_init_58 : decode cJ_init 58 = .ok (.aload_n 0, 1) := by decide +kernel
theorem dJ_init_59 : decode cJ_init 59 = .ok (.aload 6, 2) := by decide +kernel
theorem dJ_init_61 : decode cJ_init 61 = .ok (.putfield 32, 3) := by decide +kernel
theorem dJ_init_64 : decode cJ_init 64 = .ok (.aload_n 0, 1) := by decide +kernel
theorem dJ_init_65 : decode cJ_init 65 = .ok (.bipush 50, 2) := by decide +kernel
theorem dJ_init_67 : decode cJ_init 67 = .ok (.newarray .int, 2) := by decide +kernel
theorem dJ_init_69 : decode cJ_init 69 = .ok (.putfield 35, 3) := by decide +kernel
theorem dJ_init_72 : decode cJ_init 72 = .ok (.aload_n 0, 1) := by decide +kernel
theorem dJ_init_73 : decode cJ_init 73 = .ok (.getfield 35, 3) := by decide +kernel
theorem dJ_init_76 : decode cJ_init 76 = .ok (.bipush (-2), 2) := by decide +kernel
theorem dJ_init_78 : decode cJ_init 78 = .ok (.invokestatic 39, 3) := by decide +kernel
theorem dJ_init_81 : decode cJ_init 81 = .ok (.aload_n 0, 1) := by decide +kernel
theorem dJ_init_82 : decode cJ_init 82 = .ok (.iconst (-1), 1) := by decide +kernel
theorem dJ_init_83 : decode cJ_init 83 = .ok (.putfield 45, 3) := by decide +kernel
theorem dJ_init_86 : decode cJ_init 86 = .ok (.aload_n 0, 1) := by decide +kernel
theorem dJ_init_87 : decode cJ_init 87 = .ok (.iconst 0, 1) := by decide +kernel
theorem dJ_init_88 : decode cJ_init 88 = .ok (.putfield 48, 3) := by decide +kernel
theorem dJ_init_91 : decode cJ_init 91 = .ok (.aload_n 0, 1) := by decide +kernel
theorem dJ_init_92 : decode cJ_init 92 = .ok (.iconst 0, 1) := by decide +kernel
theorem dJ_init_93 : decode cJ_init 93 = .ok (.putfield 51, 3) := by decide +kernel
theorem dJ_init_96 : decode cJ_init 96 = .ok (.aload_n 0, 1) := by decide +kernel
theorem dJ_init_97 : decode cJ_init 97 = .ok (.iconst 0, 1) := by decide +kernel
theorem dJ_init_98 : decode cJ_init 98 = .ok (.putfield 54, 3) := by decide +kernel
theorem dJ_init_101 : decode cJ_init 101 = .ok (.return_, 1) := by decide +kernel
theorem dF_fill_0 : decode cF_fill 0 = .ok (.iconst 0, 1) := by decide +kernel
theorem dF_fill_1 : decode cF_fill 1 = .ok (.istore_n 2, 1) := by decide +kernel
theorem dF_fill_2 : decode cF_fill 2 = .ok (.aload_n 0, 1) := by decide +kernel
theorem dF_fill_3 : decode cF_fill 3 = .ok (.arraylength, 1) := by decide +kernel
theorem dF_fill_4 : decode cF_fill 4 = .ok (.istore_n 3, 1) := by decide +kernel
theorem dF_fill_5 : decode cF_fill 5 = .ok (.iload_n 2, 1) := by decide +kernel
theorem dF_fill_6 : decode cF_fill 6 = .ok (.iload_n 3, 1) := by decide +kernel
theorem dF_fill_7 : decode cF_fill 7 = .ok (.if_icmp .ge 13, 3) := by decide +kernel
theorem dF_fill_10 : decode cF_fill 10 = .ok (.aload_n 0, 1) := by decide +kernel
theorem dF_fill_11 : decode cF_fill 11 = .ok (.iload_n 2, 1) := by decide +kernel
theorem dF_fill_12 : decode cF_fill 12 = .ok (.iload_n 1, 1) := by decide +kernel
theorem dF_fill_13 : decode cF_fill 13 = .ok (.iastore, 1) := by decide +kernel
theorem dF_fill_14 : decode cF_fill 14 = .ok (.iinc 2 1, 3) := by decide +kernel
theorem dF_fill_17 : decode cF_fill 17 = .ok (.goto (-12), 3) := by decide +kernel
theorem dF_fill_20 : decode cF_fill 20 = .ok (.return_, 1) := by decide +kernel
theorem dC_tell_0 : decode cC_tell 0 = .ok (.aload_n 0, 1) := by decide +kernel
theorem dC_tell_1 : decode cC_tell 1 = .ok (.iload_n 1, 1) := by decide +kernel
theorem dC_tell_2 : decode cC_tell 2 = .ok (.invokevirtual 53, 3) := by decide +kernel
theorem dC_tell_5 : decode cC_tell 5 = .ok (.astore 4, 2) := by decide +kernel
theorem dC_tell_7 : decode cC_tell 7 = .ok (.aload 4, 2) := by decide +kernel
theorem dC_tell_9 : decode cC_tell 9 = .ok (.ifnull 18, 3) := by decide +kernel
theorem dC_tell_12 : decode cC_tell 12 = .ok (.aload 4, 2) := by decide +kernel
theorem dC_tell_14 : decode cC_tell 14 = .ok (.getfield 57, 3) := by decide +kernel
theorem dC_tell_17 : decode cC_tell 17 = .ok (.ifCond .ne 10, 3) := by decide +kernel
theorem dC_tell_20 : decode cC_tell 20 = .ok (.iload_n 2, 1) := by decide +kernel
theorem dC_tell_21 : decode cC_tell 21 = .ok (.invokestatic 60, 3) := by decide +kernel
theorem dC_tell_24 : decode cC_tell 24 = .ok (.ifCond .ne 5, 3) := by decide +kernel
theorem dC_tell_27 : decode cC_tell 27 = .ok (.iconst 0, 1) := by decide +kernel
theorem dC_tell_28 : decode cC_tell 28 = .ok (.ireturn, 1) := by decide +kernel
theorem dC_tell_29 : decode cC_tell 29 = .ok (.iload_n 3, 1) := by decide +kernel
theorem dC_tell_30 : decode cC_tell 30 = .ok (.iconst (-1), 1) := by decide +kernel
theorem dC_tell_31 : decode cC_tell 31 = .ok (.if_icmp .ne 19, 3) := by decide +kernel
theorem dC_tell_34 : decode cC_tell 34 = .ok (.aload 4, 2) := by decide +kernel
theorem dC_tell_36 : decode cC_tell 36 = .ok (.getfield 63, 3) := by decide +kernel
theorem dC_tell_39 : decode cC_tell 39 = .ok (.ifCond .eq 7, 3) := by decide +kernel
theorem dC_tell_42 : decode cC_tell 42 = .ok (.iconst 1, 1) := by decide +kernel
theorem dC_tell_43 : decode cC_tell 43 = .ok (.goto 11, 3) := by decide +kernel
theorem dC_tell_46 : decode cC_tell 46 = .ok (.iconst 0, 1) := by decide +kernel
theorem dC_tell_47 : decode cC_tell 47 = .ok (.goto 7, 3) := by decide +kernel
theorem dC_tell_50 : decode cC_tell 50 = .ok (.iload_n 3, 1) := by decide +kernel
theorem dC_tell_51 : decode cC_tell 51 = .ok (.invokestatic 66, 3) := by decide +kernel
theorem dC_tell_54 : decode cC_tell 54 = .ok (.istore 5, 2) := by decide +kernel
theorem dC_tell_56 : decode cC_tell 56 = .ok (.iload 5, 2) := by decide +kernel
theorem dC_tell_58 : decode cC_tell 58 = .ok (.ifCond .eq 11, 3) := by decide +kernel
theorem dC_tell_61 : decode cC_tell 61 = .ok (.aload 4, 2) := by decide +kernel
theorem dC_tell_63 : decode cC_tell 63 = .ok (.getfield 69, 3) := by decide +kernel
theorem dC_tell_66 : decode cC_tell 66 = .ok (.iload_n 2, 1) := by decide +kernel
theorem dC_tell_67 : decode cC_tell 67 = .ok (.iload_n 3, 1) := by decide +kernel
theorem dC_tell_68 : decode cC_tell 68 = .ok (.iastore, 1) := by decide +kernel
theorem dC_tell_69 : decode cC_tell 69 = .ok (.iload 5, 2) := by decide +kernel
theorem dC_tell_71 : decode cC_tell 71 = .ok (.ireturn, 1) := by decide +kernel
theorem dC_findJob_0 : decode cC_findJob 0 = .ok (.aload_n 0, 1) := by decide +kernel
theorem dC_findJob_1 : decode cC_findJob 1 = .ok (.getfield 16, 3) := by decide +kernel
theorem dC_findJob_4 : decode cC_findJob 4 = .ok (.astore_n 2, 1) := by decide +kernel
theorem dC_findJob_5 : decode cC_findJob 5 = .ok (.aload_n 2, 1) := by decide +kernel
theorem dC_findJob_6 : decode cC_findJob 6 = .ok (.ifnull 21, 3) := by decide +kernel
theorem dC_findJob_9 : decode cC_findJob 9 = .ok (.aload_n 2, 1) := by decide +kernel
theorem dC_findJob_10 : decode cC_findJob 10 = .ok (.getfield 50, 3) := by decide +kernel
theorem dC_findJob_13 : decode cC_findJob 13 = .ok (.iload_n 1, 1) := by decide +kernel
theorem dC_findJob_14 : decode cC_findJob 14 = .ok (.if_icmp .ne 5, 3) := by decide +kernel
theorem dC_findJob_17 : decode cC_findJob 17 = .ok (.aload_n 2, 1) := by decide +kernel
theorem dC_findJob_18 : decode cC_findJob 18 = .ok (.areturn, 1) := by decide +kernel
theorem dC_findJob_19 : decode cC_findJob 19 = .ok (.aload_n 2, 1) := by decide +kernel
theorem dC_findJob_20 : decode cC_findJob 20 = .ok (.getfield 108, 3) := by decide +kernel
theorem dC_findJob_23 : decode cC_findJob 23 = .ok (.astore_n 2, 1) := by decide +kernel
theorem dC_findJob_24 : decode cC_findJob 24 = .ok (.goto (-19), 3) := by decide +kernel
theorem dC_findJob_27 : decode cC_findJob 27 = .ok (.aconst_null, 1) := by decide +kernel
theorem dC_findJob_28 : decode cC_findJob 28 = .ok (.areturn, 1) := by decide +kernel
theorem dC_isFile_0 : decode cC_isFile 0 = .ok (.iload_n 0, 1) := by decide +kernel
theorem dC_isFile_1 : decode cC_isFile 1 = .ok (.ifCond .lt 13, 3) := by decide +kernel
theorem dC_isFile_4 : decode cC_isFile 4 = .ok (.iload_n 0, 1) := by decide +kernel
theorem dC_isFile_5 : decode cC_isFile 5 = .ok (.bipush 50, 2) := by decide +kernel
theorem dC_isFile_7 : decode cC_isFile 7 = .ok (.if_icmp .ge 7, 3) := by decide +kernel
theorem dC_isFile_10 : decode cC_isFile 10 = .ok (.iconst 1, 1) := by decide +kernel
theorem dC_isFile_11 : decode cC_isFile 11 = .ok (.goto 4, 3) := by decide +kernel
theorem dC_isFile_14 : decode cC_isFile 14 = .ok (.iconst 0, 1) := by decide +kernel
theorem dC_isFile_15 : decode cC_isFile 15 = .ok (.ireturn, 1) := by decide +kernel
theorem dC_isVersion_0 : decode cC_isVersion 0 = .ok (.iload_n 0, 1) := by decide +kernel
theorem dC_isVersion_1 : decode cC_isVersion 1 = .ok (.ifCond .lt 13, 3) := by decide +kernel
theorem dC_isVersion_4 : decode cC_isVersion 4 = .ok (.iload_n 0, 1) := by decide +kernel
theorem dC_isVersion_5 : decode cC_isVersion 5 = .ok (.ldc 135, 2) := by decide +kernel
theorem dC_isVersion_7 : decode cC_isVersion 7 = .ok (.if_icmp .gt 7, 3) := by decide +kernel
theorem dC_isVersion_10 : decode cC_isVersion 10 = .ok (.iconst 1, 1) := by decide +kernel
theorem dC_isVersion_11 : decode cC_isVersion 11 = .ok (.goto 4, 3) := by decide +kernel
theorem dC_isVersion_14 : decode cC_isVersion 14 = .ok (.iconst 0, 1) := by decide +kernel
theorem dC_isVersion_15 : decode cC_isVersion 15 = .ok (.ireturn, 1) := by decide +kernel
theorem dC_end_0 : decode cC_end 0 = .ok (.aload_n 0, 1) := by decide +kernel
theorem dC_end_1 : decode cC_end 1 = .ok (.iload_n 1, 1) := by decide +kernel
theorem dC_end_2 : decode cC_end 2 = .ok (.invokevirtual 53, 3) := by decide +kernel
theorem dC_end_5 : decode cC_end 5 = .ok (.astore_n 3, 1) := by decide +kernel
theorem dC_end_6 : decode cC_end 6 = .ok (.aload_n 3, 1) := by decide +kernel
theorem dC_end_7 : decode cC_end 7 = .ok (.ifnull 10, 3) := by decide +kernel
theorem dC_end_10 : decode cC_end 10 = .ok (.aload_n 3, 1) := by decide +kernel
theorem dC_end_11 : decode cC_end 11 = .ok (.getfield 57, 3) := by decide +kernel
theorem dC_end_14 : decode cC_end 14 = .ok (.ifCond .eq 5, 3) := by decide +kernel
theorem dC_end_17 : decode cC_end 17 = .ok (.iconst 0, 1) := by decide +kernel
theorem dC_end_18 : decode cC_end 18 = .ok (.ireturn, 1) := by decide +kernel
theorem dC_end_19 : decode cC_end 19 = .ok (.aload_n 3, 1) := by decide +kernel
theorem dC_end_20 : decode cC_end 20 = .ok (.iload_n 2, 1) := by decide +kernel
theorem dC_end_21 : decode cC_end 21 = .ok (.ifCond .eq 7, 3) := by decide +kernel
theorem dC_end_24 : decode cC_end 24 = .ok (.iconst 1, 1) := by decide +kernel
theorem dC_end_25 : decode cC_end 25 = .ok (.goto 4, 3) := by decide +kernel
theorem dC_end_28 : decode cC_end 28 = .ok (.iconst 2, 1) := by decide +kernel
theorem dC_end_29 : decode cC_end 29 = .ok (.putfield 57, 3) := by decide +kernel
theorem dC_end_32 : decode cC_end 32 = .ok (.aload_n 3, 1) := by decide +kernel
theorem dC_end_33 : decode cC_end 33 = .ok (.aload_n 0, 1) := by decide +kernel
theorem dC_end_34 : decode cC_end 34 = .ok (.getfield 9, 3) := by decide +kernel
theorem dC_end_37 : decode cC_end 37 = .ok (.putfield 73, 3) := by decide +kernel
theorem dC_end_40 : decode cC_end 40 = .ok (.iconst 1, 1) := by decide +kernel
theorem dC_end_41 : decode cC_end 41 = .ok (.ireturn, 1) := by decide +kernel
theorem dC_chain_0 : decode cC_chain 0 = .ok (.iconst 0, 1) := by decide +kernel
theorem dC_chain_1 : decode cC_chain 1 = .ok (.istore_n 3, 1) := by decide +kernel
theorem dC_chain_2 : decode cC_chain 2 = .ok (.aload_n 0, 1) := by decide +kernel
theorem dC_chain_3 : decode cC_chain 3 = .ok (.iload_n 1, 1) := by decide +kernel
theorem dC_chain_4 : decode cC_chain 4 = .ok (.iload_n 2, 1) := by decide +kernel
theorem dC_chain_5 : decode cC_chain 5 = .ok (.invokevirtual 76, 3) := by decide +kernel
theorem dC_chain_8 : decode cC_chain 8 = .ok (.astore 4, 2) := by decide +kernel
theorem dC_chain_10 : decode cC_chain 10 = .ok (.aload 4, 2) := by decide +kernel
theorem dC_chain_12 : decode cC_chain 12 = .ok (.ifnull 16, 3) := by decide +kernel
theorem dC_chain_15 : decode cC_chain 15 = .ok (.iinc 3 1, 3) := by decide +kernel
theorem dC_chain_18 : decode cC_chain 18 = .ok (.aload 4, 2) := by decide +kernel
theorem dC_chain_20 : decode cC_chain 20 = .ok (.getfield 79, 3) := by decide +kernel
theorem dC_chain_23 : decode cC_chain 23 = .ok (.astore 4, 2) := by decide +kernel
theorem dC_chain_25 : decode cC_chain 25 = .ok (.goto (-15), 3) := by decide +kernel
theorem dC_chain_28 : decode cC_chain 28 = .ok (.iload_n 3, 1) := by decide +kernel
theorem dC_chain_29 : decode cC_chain 29 = .ok (.ireturn, 1) := by decide +kernel
theorem dC_findHead_0 : decode cC_findHead 0 = .ok (.aload_n 0, 1) := by decide +kernel
theorem dC_findHead_1 : decode cC_findHead 1 = .ok (.getfield 16, 3) := by decide +kernel
theorem dC_findHead_4 : decode cC_findHead 4 = .ok (.astore_n 3, 1) := by decide +kernel
theorem dC_findHead_5 : decode cC_findHead 5 = .ok (.aload_n 3, 1) := by decide +kernel
theorem dC_findHead_6 : decode cC_findHead 6 = .ok (.ifnull 36, 3) := by decide +kernel
theorem dC_findHead_9 : decode cC_findHead 9 = .ok (.aload_n 3, 1) := by decide +kernel
theorem dC_findHead_10 : decode cC_findHead 10 = .ok (.getfield 111, 3) := by decide +kernel
theorem dC_findHead_13 : decode cC_findHead 13 = .ok (.iload_n 1, 1) := by decide +kernel
theorem dC_findHead_14 : decode cC_findHead 14 = .ok (.if_icmp .ne 20, 3) := by decide +kernel
theorem dC_findHead_17 : decode cC_findHead 17 = .ok (.aload_n 3, 1) := by decide +kernel
theorem dC_findHead_18 : decode cC_findHead 18 = .ok (.invokestatic 136, 3) := by decide +kernel
theorem dC_findHead_21 : decode cC_findHead 21 = .ok (.ifCond .eq 13, 3) := by decide +kernel
theorem dC_findHead_24 : decode cC_findHead 24 = .ok (.aload_n 3, 1) := by decide +kernel
theorem dC_findHead_25 : decode cC_findHead 25 = .ok (.getfield 73, 3) := by decide +kernel
theorem dC_findHead_28 : decode cC_findHead 28 = .ok (.iload_n 2, 1) := by decide +kernel
theorem dC_findHead_29 : decode cC_findHead 29 = .ok (.if_icmp .gt 5, 3) := by decide +kernel
theorem dC_findHead_32 : decode cC_findHead 32 = .ok (.aload_n 3, 1) := by decide +kernel
theorem dC_findHead_33 : decode cC_findHead 33 = .ok (.areturn, 1) := by decide +kernel
theorem dC_findHead_34 : decode cC_findHead 34 = .ok (.aload_n 3, 1) := by decide +kernel
theorem dC_findHead_35 : decode cC_findHead 35 = .ok (.getfield 108, 3) := by decide +kernel
theorem dC_findHead_38 : decode cC_findHead 38 = .ok (.astore_n 3, 1) := by decide +kernel
theorem dC_findHead_39 : decode cC_findHead 39 = .ok (.goto (-34), 3) := by decide +kernel
theorem dC_findHead_42 : decode cC_findHead 42 = .ok (.aconst_null, 1) := by decide +kernel
theorem dC_findHead_43 : decode cC_findHead 43 = .ok (.areturn, 1) := by decide +kernel
theorem dC_view_0 : decode cC_view 0 = .ok (.aload_n 0, 1) := by decide +kernel
theorem dC_view_1 : decode cC_view 1 = .ok (.iload_n 1, 1) := by decide +kernel
theorem dC_view_2 : decode cC_view 2 = .ok (.iload_n 2, 1) := by decide +kernel
theorem dC_view_3 : decode cC_view 3 = .ok (.invokevirtual 76, 3) := by decide +kernel
theorem dC_view_6 : decode cC_view 6 = .ok (.iload_n 3, 1) := by decide +kernel
theorem dC_view_7 : decode cC_view 7 = .ok (.invokestatic 87, 3) := by decide +kernel
theorem dC_view_10 : decode cC_view 10 = .ok (.ireturn, 1) := by decide +kernel
theorem dC_versionIn_0 : decode cC_versionIn 0 = .ok (.aload_n 0, 1) := by decide +kernel
theorem dC_versionIn_1 : decode cC_versionIn 1 = .ok (.iload_n 1, 1) := by decide +kernel
theorem dC_versionIn_2 : decode cC_versionIn 2 = .ok (.invokestatic 91, 3) := by decide +kernel
theorem dC_versionIn_5 : decode cC_versionIn 5 = .ok (.astore_n 2, 1) := by decide +kernel
theorem dC_versionIn_6 : decode cC_versionIn 6 = .ok (.aload_n 2, 1) := by decide +kernel
theorem dC_versionIn_7 : decode cC_versionIn 7 = .ok (.ifnonnull 7, 3) := by decide +kernel
theorem dC_versionIn_10 : decode cC_versionIn 10 = .ok (.iconst (-1), 1) := by decide +kernel
theorem dC_versionIn_11 : decode cC_versionIn 11 = .ok (.goto 9, 3) := by decide +kernel
theorem dC_versionIn_14 : decode cC_versionIn 14 = .ok (.aload_n 2, 1) := by decide +kernel
theorem dC_versionIn_15 : decode cC_versionIn 15 = .ok (.getfield 69, 3) := by decide +kernel
theorem dC_versionIn_18 : decode cC_versionIn 18 = .ok (.iload_n 1, 1) := by decide +kernel
theorem dC_versionIn_19 : decode cC_versionIn 19 = .ok (.iaload, 1) := by decide +kernel
theorem dC_versionIn_20 : decode cC_versionIn 20 = .ok (.ireturn, 1) := by decide +kernel
theorem dC_findTeller_0 : decode cC_findTeller 0 = .ok (.iload_n 1, 1) := by decide +kernel
theorem dC_findTeller_1 : decode cC_findTeller 1 = .ok (.invokestatic 60, 3) := by decide +kernel
theorem dC_findTeller_4 : decode cC_findTeller 4 = .ok (.ifCond .ne 5, 3) := by decide +kernel
theorem dC_findTeller_7 : decode cC_findTeller 7 = .ok (.aconst_null, 1) := by decide +kernel
theorem dC_findTeller_8 : decode cC_findTeller 8 = .ok (.areturn, 1) := by decide +kernel
theorem dC_findTeller_9 : decode cC_findTeller 9 = .ok (.aload_n 0, 1) := by decide +kernel
theorem dC_findTeller_10 : decode cC_findTeller 10 = .ok (.astore_n 2, 1) := by decide +kernel
theorem dC_findTeller_11 : decode cC_findTeller 11 = .ok (.aload_n 2, 1) := by decide +kernel
theorem dC_findTeller_12 : decode cC_findTeller 12 = .ok (.ifnull 24, 3) := by decide +kernel
theorem dC_findTeller_15 : decode cC_findTeller 15 = .ok (.aload_n 2, 1) := by decide +kernel
theorem dC_findTeller_16 : decode cC_findTeller 16 = .ok (.getfield 69, 3) := by decide +kernel
theorem dC_findTeller_19 : decode cC_findTeller 19 = .ok (.iload_n 1, 1) := by decide +kernel
theorem dC_findTeller_20 : decode cC_findTeller 20 = .ok (.iaload, 1) := by decide +kernel
theorem dC_findTeller_21 : decode cC_findTeller 21 = .ok (.bipush (-2), 2) := by decide +kernel
theorem dC_findTeller_23 : decode cC_findTeller 23 = .ok (.if_icmp .eq 5, 3) := by decide +kernel
theorem dC_findTeller_26 : decode cC_findTeller 26 = .ok (.aload_n 2, 1) := by decide +kernel
theorem dC_findTeller_27 : decode cC_findTeller 27 = .ok (.areturn, 1) := by decide +kernel
theorem dC_findTeller_28 : decode cC_findTeller 28 = .ok (.aload_n 2, 1) := by decide +kernel
theorem dC_findTeller_29 : decode cC_findTeller 29 = .ok (.getfield 79, 3) := by decide +kernel
theorem dC_findTeller_32 : decode cC_findTeller 32 = .ok (.astore_n 2, 1) := by decide +kernel
theorem dC_findTeller_33 : decode cC_findTeller 33 = .ok (.goto (-22), 3) := by decide +kernel
theorem dC_findTeller_36 : decode cC_findTeller 36 = .ok (.aconst_null, 1) := by decide +kernel
theorem dC_findTeller_37 : decode cC_findTeller 37 = .ok (.areturn, 1) := by decide +kernel
theorem dC_files_0 : decode cC_files 0 = .ok (.aload_n 0, 1) := by decide +kernel
theorem dC_files_1 : decode cC_files 1 = .ok (.iload_n 1, 1) := by decide +kernel
theorem dC_files_2 : decode cC_files 2 = .ok (.iload_n 2, 1) := by decide +kernel
theorem dC_files_3 : decode cC_files 3 = .ok (.invokevirtual 76, 3) := by decide +kernel
theorem dC_files_6 : decode cC_files 6 = .ok (.astore_n 3, 1) := by decide +kernel
theorem dC_files_7 : decode cC_files 7 = .ok (.iconst 0, 1) := by decide +kernel
theorem dC_files_8 : decode cC_files 8 = .ok (.istore 4, 2) := by decide +kernel
theorem dC_files_10 : decode cC_files 10 = .ok (.iconst 0, 1) := by decide +kernel
theorem dC_files_11 : decode cC_files 11 = .ok (.istore 5, 2) := by decide +kernel
theorem dC_files_13 : decode cC_files 13 = .ok (.iload 5, 2) := by decide +kernel
theorem dC_files_15 : decode cC_files 15 = .ok (.bipush 50, 2) := by decide +kernel
theorem dC_files_17 : decode cC_files 17 = .ok (.if_icmp .ge 22, 3) := by decide +kernel
theorem dC_files_20 : decode cC_files 20 = .ok (.aload_n 3, 1) := by decide +kernel
theorem dC_files_21 : decode cC_files 21 = .ok (.iload 5, 2) := by decide +kernel
theorem dC_files_23 : decode cC_files 23 = .ok (.invokestatic 87, 3) := by decide +kernel
theorem dC_files_26 : decode cC_files 26 = .ok (.iconst (-1), 1) := by decide +kernel
theorem dC_files_27 : decode cC_files 27 = .ok (.if_icmp .eq 6, 3) := by decide +kernel
theorem dC_files_30 : decode cC_files 30 = .ok (.iinc 4 1, 3) := by decide +kernel
theorem dC_files_33 : decode cC_files 33 = .ok (.iinc 5 1, 3) := by decide +kernel
theorem dC_files_36 : decode cC_files 36 = .ok (.goto (-23), 3) := by decide +kernel
theorem dC_files_39 : decode cC_files 39 = .ok (.iload 4, 2) := by decide +kernel
theorem dC_files_41 : decode cC_files 41 = .ok (.ireturn, 1) := by decide +kernel
theorem dC_source_0 : decode cC_source 0 = .ok (.aload_n 0, 1) := by decide +kernel
theorem dC_source_1 : decode cC_source 1 = .ok (.iload_n 1, 1) := by decide +kernel
theorem dC_source_2 : decode cC_source 2 = .ok (.iload_n 2, 1) := by decide +kernel
theorem dC_source_3 : decode cC_source 3 = .ok (.invokevirtual 76, 3) := by decide +kernel
theorem dC_source_6 : decode cC_source 6 = .ok (.iload_n 3, 1) := by decide +kernel
theorem dC_source_7 : decode cC_source 7 = .ok (.invokestatic 91, 3) := by decide +kernel
theorem dC_source_10 : decode cC_source 10 = .ok (.astore 4, 2) := by decide +kernel
theorem dC_source_12 : decode cC_source 12 = .ok (.aload 4, 2) := by decide +kernel
theorem dC_source_14 : decode cC_source 14 = .ok (.ifnonnull 7, 3) := by decide +kernel
theorem dC_source_17 : decode cC_source 17 = .ok (.iconst (-1), 1) := by decide +kernel
theorem dC_source_18 : decode cC_source 18 = .ok (.goto 8, 3) := by decide +kernel
theorem dC_source_21 : decode cC_source 21 = .ok (.aload 4, 2) := by decide +kernel
theorem dC_source_23 : decode cC_source 23 = .ok (.getfield 50, 3) := by decide +kernel
theorem dC_source_26 : decode cC_source 26 = .ok (.ireturn, 1) := by decide +kernel
theorem dC_prune_0 : decode cC_prune 0 = .ok (.aload_n 0, 1) := by decide +kernel
theorem dC_prune_1 : decode cC_prune 1 = .ok (.iload_n 1, 1) := by decide +kernel
theorem dC_prune_2 : decode cC_prune 2 = .ok (.invokevirtual 53, 3) := by decide +kernel
theorem dC_prune_5 : decode cC_prune 5 = .ok (.astore_n 2, 1) := by decide +kernel
theorem dC_prune_6 : decode cC_prune 6 = .ok (.aload_n 2, 1) := by decide +kernel
theorem dC_prune_7 : decode cC_prune 7 = .ok (.ifnull 10, 3) := by decide +kernel
theorem dC_prune_10 : decode cC_prune 10 = .ok (.aload_n 2, 1) := by decide +kernel
theorem dC_prune_11 : decode cC_prune 11 = .ok (.invokestatic 95, 3) := by decide +kernel
theorem dC_prune_14 : decode cC_prune 14 = .ok (.ifCond .ne 5, 3) := by decide +kernel
theorem dC_prune_17 : decode cC_prune 17 = .ok (.iconst 0, 1) := by decide +kernel
theorem dC_prune_18 : decode cC_prune 18 = .ok (.ireturn, 1) := by decide +kernel
theorem dC_prune_19 : decode cC_prune 19 = .ok (.aload_n 2, 1) := by decide +kernel
theorem dC_prune_20 : decode cC_prune 20 = .ok (.invokestatic 99, 3) := by decide +kernel
theorem dC_prune_23 : decode cC_prune 23 = .ok (.iconst 1, 1) := by decide +kernel
theorem dC_prune_24 : decode cC_prune 24 = .ok (.ireturn, 1) := by decide +kernel
theorem dC_isFree_0 : decode cC_isFree 0 = .ok (.aload_n 0, 1) := by decide +kernel
theorem dC_isFree_1 : decode cC_isFree 1 = .ok (.getfield 57, 3) := by decide +kernel
theorem dC_isFree_4 : decode cC_isFree 4 = .ok (.ifCond .eq 21, 3) := by decide +kernel
theorem dC_isFree_7 : decode cC_isFree 7 = .ok (.aload_n 0, 1) := by decide +kernel
theorem dC_isFree_8 : decode cC_isFree 8 = .ok (.getfield 121, 3) := by decide +kernel
theorem dC_isFree_11 : decode cC_isFree 11 = .ok (.ifCond .ne 14, 3) := by decide +kernel
theorem dC_isFree_14 : decode cC_isFree 14 = .ok (.aload_n 0, 1) := by decide +kernel
theorem dC_isFree_15 : decode cC_isFree 15 = .ok (.getfield 42, 3) := by decide +kernel
theorem dC_isFree_18 : decode cC_isFree 18 = .ok (.ifCond .ne 7, 3) := by decide +kernel
theorem dC_isFree_21 : decode cC_isFree 21 = .ok (.iconst 1, 1) := by decide +kernel
theorem dC_isFree_22 : decode cC_isFree 22 = .ok (.goto 4, 3) := by decide +kernel
theorem dC_isFree_25 : decode cC_isFree 25 = .ok (.iconst 0, 1) := by decide +kernel
theorem dC_isFree_26 : decode cC_isFree 26 = .ok (.ireturn, 1) := by decide +kernel
theorem dC_drop_0 : decode cC_drop 0 = .ok (.aload_n 0, 1) := by decide +kernel
theorem dC_drop_1 : decode cC_drop 1 = .ok (.iconst 1, 1) := by decide +kernel
theorem dC_drop_2 : decode cC_drop 2 = .ok (.putfield 121, 3) := by decide +kernel
theorem dC_drop_5 : decode cC_drop 5 = .ok (.aload_n 0, 1) := by decide +kernel
theorem dC_drop_6 : decode cC_drop 6 = .ok (.getfield 69, 3) := by decide +kernel
theorem dC_drop_9 : decode cC_drop 9 = .ok (.bipush (-2), 2) := by decide +kernel
theorem dC_drop_11 : decode cC_drop 11 = .ok (.invokestatic 139, 3) := by decide +kernel
theorem dC_drop_14 : decode cC_drop 14 = .ok (.aload_n 0, 1) := by decide +kernel
theorem dC_drop_15 : decode cC_drop 15 = .ok (.getfield 79, 3) := by decide +kernel
theorem dC_drop_18 : decode cC_drop 18 = .ok (.ifnull 16, 3) := by decide +kernel
theorem dC_drop_21 : decode cC_drop 21 = .ok (.aload_n 0, 1) := by decide +kernel
theorem dC_drop_22 : decode cC_drop 22 = .ok (.getfield 79, 3) := by decide +kernel
theorem dC_drop_25 : decode cC_drop 25 = .ok (.dup, 1) := by decide +kernel
theorem dC_drop_26 : decode cC_drop 26 = .ok (.getfield 42, 3) := by decide +kernel
theorem dC_drop_29 : decode cC_drop 29 = .ok (.iconst 1, 1) := by decide +kernel
theorem dC_drop_30 : decode cC_drop 30 = .ok (.isub, 1) := by decide +kernel
theorem dC_drop_31 : decode cC_drop 31 = .ok (.putfield 42, 3) := by decide +kernel
theorem dC_drop_34 : decode cC_drop 34 = .ok (.return_, 1) := by decide +kernel
theorem dC_job_0 : decode cC_job 0 = .ok (.aload_n 0, 1) := by decide +kernel
theorem dC_job_1 : decode cC_job 1 = .ok (.iload_n 1, 1) := by decide +kernel
theorem dC_job_2 : decode cC_job 2 = .ok (.invokevirtual 53, 3) := by decide +kernel
theorem dC_job_5 : decode cC_job 5 = .ok (.astore_n 3, 1) := by decide +kernel
theorem dC_job_6 : decode cC_job 6 = .ok (.aload_n 3, 1) := by decide +kernel
theorem dC_job_7 : decode cC_job 7 = .ok (.ifnonnull 5, 3) := by decide +kernel
theorem dC_job_10 : decode cC_job 10 = .ok (.iconst (-1), 1) := by decide +kernel
theorem dC_job_11 : decode cC_job 11 = .ok (.ireturn, 1) := by decide +kernel
theorem dC_job_12 : decode cC_job 12 = .ok (.iload_n 2, 1) := by decide +kernel
theorem dC_job_13 : decode cC_job 13 = .ok (.tableswitch 158 0 10 #[59, 64, 69, 82, 101, 106, 111, 116, 129, 134, 153], 59) := by decide +kernel
theorem dC_job_72 : decode cC_job 72 = .ok (.aload_n 3, 1) := by decide +kernel
theorem dC_job_73 : decode cC_job 73 = .ok (.getfield 111, 3) := by decide +kernel
theorem dC_job_76 : decode cC_job 76 = .ok (.ireturn, 1) := by decide +kernel
theorem dC_job_77 : decode cC_job 77 = .ok (.aload_n 3, 1) := by decide +kernel
theorem dC_job_78 : decode cC_job 78 = .ok (.getfield 63, 3) := by decide +kernel
theorem dC_job_81 : decode cC_job 81 = .ok (.ireturn, 1) := by decide +kernel
theorem dC_job_82 : decode cC_job 82 = .ok (.aload_n 3, 1) := by decide +kernel
theorem dC_job_83 : decode cC_job 83 = .ok (.getfield 114, 3) := by decide +kernel
theorem dC_job_86 : decode cC_job 86 = .ok (.ifCond .eq 7, 3) := by decide +kernel
theorem dC_job_89 : decode cC_job 89 = .ok (.iconst 1, 1) := by decide +kernel
theorem dC_job_90 : decode cC_job 90 = .ok (.goto 4, 3) := by decide +kernel
theorem dC_job_93 : decode cC_job 93 = .ok (.iconst 0, 1) := by decide +kernel
theorem dC_job_94 : decode cC_job 94 = .ok (.ireturn, 1) := by decide +kernel
theorem dC_job_95 : decode cC_job 95 = .ok (.aload_n 3, 1) := by decide +kernel
theorem dC_job_96 : decode cC_job 96 = .ok (.getfield 79, 3) := by decide +kernel
theorem dC_job_99 : decode cC_job 99 = .ok (.ifnonnull 7, 3) := by decide +kernel
theorem dC_job_102 : decode cC_job 102 = .ok (.iconst (-1), 1) := by decide +kernel
theorem dC_job_103 : decode cC_job 103 = .ok (.goto 10, 3) := by decide +kernel
theorem dC_job_106 : decode cC_job 106 = .ok (.aload_n 3, 1) := by decide +kernel
theorem dC_job_107 : decode cC_job 107 = .ok (.getfield 79, 3) := by decide +kernel
theorem dC_job_110 : decode cC_job 110 = .ok (.getfield 50, 3) := by decide +kernel
theorem dC_job_113 : decode cC_job 113 = .ok (.ireturn, 1) := by decide +kernel
theorem dC_job_114 : decode cC_job 114 = .ok (.aload_n 3, 1) := by decide +kernel
theorem dC_job_115 : decode cC_job 115 = .ok (.getfield 118, 3) := by decide +kernel
theorem dC_job_118 : decode cC_job 118 = .ok (.ireturn, 1) := by decide +kernel
theorem dC_job_119 : decode cC_job 119 = .ok (.aload_n 3, 1) := by decide +kernel
theorem dC_job_120 : decode cC_job 120 = .ok (.getfield 73, 3) := by decide +kernel
theorem dC_job_123 : decode cC_job 123 = .ok (.ireturn, 1) := by decide +kernel
theorem dC_job_124 : decode cC_job 124 = .ok (.aload_n 3, 1) := by decide +kernel
theorem dC_job_125 : decode cC_job 125 = .ok (.getfield 57, 3) := by decide +kernel
theorem dC_job_128 : decode cC_job 128 = .ok (.ireturn, 1) := by decide +kernel
theorem dC_job_129 : decode cC_job 129 = .ok (.aload_n 3, 1) := by decide +kernel
theorem dC_job_130 : decode cC_job 130 = .ok (.getfield 121, 3) := by decide +kernel
theorem dC_job_133 : decode cC_job 133 = .ok (.ifCond .eq 7, 3) := by decide +kernel
theorem dC_job_136 : decode cC_job 136 = .ok (.iconst 1, 1) := by decide +kernel
theorem dC_job_137 : decode cC_job 137 = .ok (.goto 4, 3) := by decide +kernel
theorem dC_job_140 : decode cC_job 140 = .ok (.iconst 0, 1) := by decide +kernel
theorem dC_job_141 : decode cC_job 141 = .ok (.ireturn, 1) := by decide +kernel
theorem dC_job_142 : decode cC_job 142 = .ok (.aload_n 3, 1) := by decide +kernel
theorem dC_job_143 : decode cC_job 143 = .ok (.invokestatic 124, 3) := by decide +kernel
theorem dC_job_146 : decode cC_job 146 = .ok (.ireturn, 1) := by decide +kernel
theorem dC_job_147 : decode cC_job 147 = .ok (.aload_n 3, 1) := by decide +kernel
theorem dC_job_148 : decode cC_job 148 = .ok (.getfield 79, 3) := by decide +kernel
theorem dC_job_151 : decode cC_job 151 = .ok (.ifnonnull 7, 3) := by decide +kernel
theorem dC_job_154 : decode cC_job 154 = .ok (.iconst (-1), 1) := by decide +kernel
theorem dC_job_155 : decode cC_job 155 = .ok (.goto 10, 3) := by decide +kernel
theorem dC_job_158 : decode cC_job 158 = .ok (.aload_n 3, 1) := by decide +kernel
theorem dC_job_159 : decode cC_job 159 = .ok (.getfield 79, 3) := by decide +kernel
theorem dC_job_162 : decode cC_job 162 = .ok (.getfield 118, 3) := by decide +kernel
theorem dC_job_165 : decode cC_job 165 = .ok (.ireturn, 1) := by decide +kernel
theorem dC_job_166 : decode cC_job 166 = .ok (.aload_n 3, 1) := by decide +kernel
theorem dC_job_167 : decode cC_job 167 = .ok (.getfield 42, 3) := by decide +kernel
theorem dC_job_170 : decode cC_job 170 = .ok (.ireturn, 1) := by decide +kernel
theorem dC_job_171 : decode cC_job 171 = .ok (.iconst (-1), 1) := by decide +kernel
theorem dC_job_172 : decode cC_job 172 = .ok (.ireturn, 1) := by decide +kernel
theorem dC_countTold_0 : decode cC_countTold 0 = .ok (.iconst 0, 1) := by decide +kernel
theorem dC_countTold_1 : decode cC_countTold 1 = .ok (.istore_n 1, 1) := by decide +kernel
theorem dC_countTold_2 : decode cC_countTold 2 = .ok (.iconst 0, 1) := by decide +kernel
theorem dC_countTold_3 : decode cC_countTold 3 = .ok (.istore_n 2, 1) := by decide +kernel
theorem dC_countTold_4 : decode cC_countTold 4 = .ok (.iload_n 2, 1) := by decide +kernel
theorem dC_countTold_5 : decode cC_countTold 5 = .ok (.bipush 50, 2) := by decide +kernel
theorem dC_countTold_7 : decode cC_countTold 7 = .ok (.if_icmp .ge 23, 3) := by decide +kernel
theorem dC_countTold_10 : decode cC_countTold 10 = .ok (.aload_n 0, 1) := by decide +kernel
theorem dC_countTold_11 : decode cC_countTold 11 = .ok (.getfield 69, 3) := by decide +kernel
theorem dC_countTold_14 : decode cC_countTold 14 = .ok (.iload_n 2, 1) := by decide +kernel
theorem dC_countTold_15 : decode cC_countTold 15 = .ok (.iaload, 1) := by decide +kernel
theorem dC_countTold_16 : decode cC_countTold 16 = .ok (.bipush (-2), 2) := by decide +kernel
theorem dC_countTold_18 : decode cC_countTold 18 = .ok (.if_icmp .eq 6, 3) := by decide +kernel
theorem dC_countTold_21 : decode cC_countTold 21 = .ok (.iinc 1 1, 3) := by decide +kernel
theorem dC_countTold_24 : decode cC_countTold 24 = .ok (.iinc 2 1, 3) := by decide +kernel
theorem dC_countTold_27 : decode cC_countTold 27 = .ok (.goto (-23), 3) := by decide +kernel
theorem dC_countTold_30 : decode cC_countTold 30 = .ok (.iload_n 1, 1) := by decide +kernel
theorem dC_countTold_31 : decode cC_countTold 31 = .ok (.ireturn, 1) := by decide +kernel
theorem dC_count_0 : decode cC_count 0 = .ok (.iload_n 1, 1) := by decide +kernel
theorem dC_count_1 : decode cC_count 1 = .ok (.tableswitch 51 0 3 #[31, 36, 41, 46], 31) := by decide +kernel
theorem dC_count_32 : decode cC_count 32 = .ok (.aload_n 0, 1) := by decide +kernel
theorem dC_count_33 : decode cC_count 33 = .ok (.getfield 9, 3) := by decide +kernel
theorem dC_count_36 : decode cC_count 36 = .ok (.ireturn, 1) := by decide +kernel
theorem dC_count_37 : decode cC_count 37 = .ok (.aload_n 0, 1) := by decide +kernel
theorem dC_count_38 : decode cC_count 38 = .ok (.getfield 13, 3) := by decide +kernel
theorem dC_count_41 : decode cC_count 41 = .ok (.ireturn, 1) := by decide +kernel
theorem dC_count_42 : decode cC_count 42 = .ok (.aload_n 0, 1) := by decide +kernel
theorem dC_count_43 : decode cC_count 43 = .ok (.invokevirtual 128, 3) := by decide +kernel
theorem dC_count_46 : decode cC_count 46 = .ok (.ireturn, 1) := by decide +kernel
theorem dC_count_47 : decode cC_count 47 = .ok (.aload_n 0, 1) := by decide +kernel
theorem dC_count_48 : decode cC_count 48 = .ok (.invokevirtual 132, 3) := by decide +kernel
theorem dC_count_51 : decode cC_count 51 = .ok (.ireturn, 1) := by decide +kernel
theorem dC_count_52 : decode cC_count 52 = .ok (.iconst (-1), 1) := by decide +kernel
theorem dC_count_53 : decode cC_count 53 = .ok (.ireturn, 1) := by decide +kernel
theorem dC_countRunning_0 : decode cC_countRunning 0 = .ok (.iconst 0, 1) := by decide +kernel
theorem dC_countRunning_1 : decode cC_countRunning 1 = .ok (.istore_n 1, 1) := by decide +kernel
theorem dC_countRunning_2 : decode cC_countRunning 2 = .ok (.aload_n 0, 1) := by decide +kernel
theorem dC_countRunning_3 : decode cC_countRunning 3 = .ok (.getfield 16, 3) := by decide +kernel
theorem dC_countRunning_6 : decode cC_countRunning 6 = .ok (.astore_n 2, 1) := by decide +kernel
theorem dC_countRunning_7 : decode cC_countRunning 7 = .ok (.aload_n 2, 1) := by decide +kernel
theorem dC_countRunning_8 : decode cC_countRunning 8 = .ok (.ifnull 21, 3) := by decide +kernel
theorem dC_countRunning_11 : decode cC_countRunning 11 = .ok (.aload_n 2, 1) := by decide +kernel
theorem dC_countRunning_12 : decode cC_countRunning 12 = .ok (.getfield 57, 3) := by decide +kernel
theorem dC_countRunning_15 : decode cC_countRunning 15 = .ok (.ifCond .ne 6, 3) := by decide +kernel
theorem dC_countRunning_18 : decode cC_countRunning 18 = .ok (.iinc 1 1, 3) := by decide +kernel
theorem dC_countRunning_21 : decode cC_countRunning 21 = .ok (.aload_n 2, 1) := by decide +kernel
theorem dC_countRunning_22 : decode cC_countRunning 22 = .ok (.getfield 108, 3) := by decide +kernel
theorem dC_countRunning_25 : decode cC_countRunning 25 = .ok (.astore_n 2, 1) := by decide +kernel
theorem dC_countRunning_26 : decode cC_countRunning 26 = .ok (.goto (-19), 3) := by decide +kernel
theorem dC_countRunning_29 : decode cC_countRunning 29 = .ok (.iload_n 1, 1) := by decide +kernel
theorem dC_countRunning_30 : decode cC_countRunning 30 = .ok (.ireturn, 1) := by decide +kernel
theorem dC_countPruned_0 : decode cC_countPruned 0 = .ok (.iconst 0, 1) := by decide +kernel
theorem dC_countPruned_1 : decode cC_countPruned 1 = .ok (.istore_n 1, 1) := by decide +kernel
theorem dC_countPruned_2 : decode cC_countPruned 2 = .ok (.aload_n 0, 1) := by decide +kernel
theorem dC_countPruned_3 : decode cC_countPruned 3 = .ok (.getfield 16, 3) := by decide +kernel
theorem dC_countPruned_6 : decode cC_countPruned 6 = .ok (.astore_n 2, 1) := by decide +kernel
theorem dC_countPruned_7 : decode cC_countPruned 7 = .ok (.aload_n 2, 1) := by decide +kernel
theorem dC_countPruned_8 : decode cC_countPruned 8 = .ok (.ifnull 21, 3) := by decide +kernel
theorem dC_countPruned_11 : decode cC_countPruned 11 = .ok (.aload_n 2, 1) := by decide +kernel
theorem dC_countPruned_12 : decode cC_countPruned 12 = .ok (.getfield 121, 3) := by decide +kernel
theorem dC_countPruned_15 : decode cC_countPruned 15 = .ok (.ifCond .eq 6, 3) := by decide +kernel
theorem dC_countPruned_18 : decode cC_countPruned 18 = .ok (.iinc 1 1, 3) := by decide +kernel
theorem dC_countPruned_21 : decode cC_countPruned 21 = .ok (.aload_n 2, 1) := by decide +kernel
theorem dC_countPruned_22 : decode cC_countPruned 22 = .ok (.getfield 108, 3) := by decide +kernel
theorem dC_countPruned_25 : decode cC_countPruned 25 = .ok (.astore_n 2, 1) := by decide +kernel
theorem dC_countPruned_26 : decode cC_countPruned 26 = .ok (.goto (-19), 3) := by decide +kernel
theorem dC_countPruned_29 : decode cC_countPruned 29 = .ok (.iload_n 1, 1) := by decide +kernel
theorem dC_countPruned_30 : decode cC_countPruned 30 = .ok (.ireturn, 1) := by decide +kernel
theorem dC_pass_0 : decode cC_pass 0 = .ok (.iload_n 1, 1) := by decide +kernel
theorem dC_pass_1 : decode cC_pass 1 = .ok (.ifCond .lt 14, 3) := by decide +kernel
theorem dC_pass_4 : decode cC_pass 4 = .ok (.iload_n 1, 1) := by decide +kernel
theorem dC_pass_5 : decode cC_pass 5 = .ok (.ldc 20, 2) := by decide +kernel
theorem dC_pass_7 : decode cC_pass 7 = .ok (.aload_n 0, 1) := by decide +kernel
theorem dC_pass_8 : decode cC_pass 8 = .ok (.getfield 9, 3) := by decide +kernel
theorem dC_pass_11 : decode cC_pass 11 = .ok (.isub, 1) := by decide +kernel
theorem dC_pass_12 : decode cC_pass 12 = .ok (.if_icmp .le 13, 3) := by decide +kernel
theorem dC_pass_15 : decode cC_pass 15 = .ok (.new 21, 3) := by decide +kernel
theorem dC_pass_18 : decode cC_pass 18 = .ok (.dup, 1) := by decide +kernel
theorem dC_pass_19 : decode cC_pass 19 = .ok (.ldc 23, 2) := by decide +kernel
theorem dC_pass_21 : decode cC_pass 21 = .ok (.invokespecial 25, 3) := by decide +kernel
theorem dC_pass_24 : decode cC_pass 24 = .ok (.athrow, 1) := by decide +kernel
theorem dC_pass_25 : decode cC_pass 25 = .ok (.aload_n 0, 1) := by decide +kernel
theorem dC_pass_26 : decode cC_pass 26 = .ok (.dup, 1) := by decide +kernel
theorem dC_pass_27 : decode cC_pass 27 = .ok (.getfield 9, 3) := by decide +kernel
theorem dC_pass_30 : decode cC_pass 30 = .ok (.iload_n 1, 1) := by decide +kernel
theorem dC_pass_31 : decode cC_pass 31 = .ok (.iadd, 1) := by decide +kernel
theorem dC_pass_32 : decode cC_pass 32 = .ok (.putfield 9, 3) := by decide +kernel
theorem dC_pass_35 : decode cC_pass 35 = .ok (.aload_n 0, 1) := by decide +kernel
theorem dC_pass_36 : decode cC_pass 36 = .ok (.getfield 9, 3) := by decide +kernel
theorem dC_pass_39 : decode cC_pass 39 = .ok (.ireturn, 1) := by decide +kernel
theorem dC_link_0 : decode cC_link 0 = .ok (.iconst 0, 1) := by decide +kernel
theorem dC_link_1 : decode cC_link 1 = .ok (.istore 4, 2) := by decide +kernel
theorem dC_link_3 : decode cC_link 3 = .ok (.aload_n 0, 1) := by decide +kernel
theorem dC_link_4 : decode cC_link 4 = .ok (.iload_n 1, 1) := by decide +kernel
theorem dC_link_5 : decode cC_link 5 = .ok (.iload_n 2, 1) := by decide +kernel
theorem dC_link_6 : decode cC_link 6 = .ok (.invokevirtual 76, 3) := by decide +kernel
theorem dC_link_9 : decode cC_link 9 = .ok (.astore 5, 2) := by decide +kernel
theorem dC_link_11 : decode cC_link 11 = .ok (.aload 5, 2) := by decide +kernel
theorem dC_link_13 : decode cC_link 13 = .ok (.ifnull 28, 3) := by decide +kernel
theorem dC_link_16 : decode cC_link 16 = .ok (.iload 4, 2) := by decide +kernel
theorem dC_link_18 : decode cC_link 18 = .ok (.iload_n 3, 1) := by decide +kernel
theorem dC_link_19 : decode cC_link 19 = .ok (.if_icmp .ne 9, 3) := by decide +kernel
theorem dC_link_22 : decode cC_link 22 = .ok (.aload 5, 2) := by decide +kernel
theorem dC_link_24 : decode cC_link 24 = .ok (.getfield 50, 3) := by decide +kernel
theorem dC_link_27 : decode cC_link 27 = .ok (.ireturn, 1) := by decide +kernel
theorem dC_link_28 : decode cC_link 28 = .ok (.iinc 4 1, 3) := by decide +kernel
theorem dC_link_31 : decode cC_link 31 = .ok (.aload 5, 2) := by decide +kernel
theorem dC_link_33 : decode cC_link 33 = .ok (.getfield 79, 3) := by decide +kernel
theorem dC_link_36 : decode cC_link 36 = .ok (.astore 5, 2) := by decide +kernel
theorem dC_link_38 : decode cC_link 38 = .ok (.goto (-27), 3) := by decide +kernel
theorem dC_link_41 : decode cC_link 41 = .ok (.new 82, 3) := by decide +kernel
theorem dC_link_44 : decode cC_link 44 = .ok (.dup, 1) := by decide +kernel
theorem dC_link_45 : decode cC_link 45 = .ok (.ldc 84, 2) := by decide +kernel
theorem dC_link_47 : decode cC_link 47 = .ok (.invokespecial 86, 3) := by decide +kernel
theorem dC_link_50 : decode cC_link 50 = .ok (.athrow, 1) := by decide +kernel
theorem dC_expire_0 : decode cC_expire 0 = .ok (.iload_n 1, 1) := by decide +kernel
theorem dC_expire_1 : decode cC_expire 1 = .ok (.ifCond .ge 13, 3) := by decide +kernel
theorem dC_expire_4 : decode cC_expire 4 = .ok (.new 21, 3) := by decide +kernel
theorem dC_expire_7 : decode cC_expire 7 = .ok (.dup, 1) := by decide +kernel
theorem dC_expire_8 : decode cC_expire 8 = .ok (.ldc 103, 2) := by decide +kernel
theorem dC_expire_10 : decode cC_expire 10 = .ok (.invokespecial 25, 3) := by decide +kernel
theorem dC_expire_13 : decode cC_expire 13 = .ok (.athrow, 1) := by decide +kernel
theorem dC_expire_14 : decode cC_expire 14 = .ok (.iconst 0, 1) := by decide +kernel
theorem dC_expire_15 : decode cC_expire 15 = .ok (.istore_n 2, 1) := by decide +kernel
theorem dC_expire_16 : decode cC_expire 16 = .ok (.aload_n 0, 1) := by decide +kernel
theorem dC_expire_17 : decode cC_expire 17 = .ok (.getfield 16, 3) := by decide +kernel
theorem dC_expire_20 : decode cC_expire 20 = .ok (.astore_n 3, 1) := by decide +kernel
theorem dC_expire_21 : decode cC_expire 21 = .ok (.aload_n 3, 1) := by decide +kernel
theorem dC_expire_22 : decode cC_expire 22 = .ok (.ifnull 46, 3) := by decide +kernel
theorem dC_expire_25 : decode cC_expire 25 = .ok (.aload_n 3, 1) := by decide +kernel
theorem dC_expire_26 : decode cC_expire 26 = .ok (.invokestatic 95, 3) := by decide +kernel
theorem dC_expire_29 : decode cC_expire 29 = .ok (.ifCond .eq 31, 3) := by decide +kernel
theorem dC_expire_32 : decode cC_expire 32 = .ok (.aload_n 0, 1) := by decide +kernel
theorem dC_expire_33 : decode cC_expire 33 = .ok (.getfield 9, 3) := by decide +kernel
theorem dC_expire_36 : decode cC_expire 36 = .ok (.aload_n 3, 1) := by decide +kernel
theorem dC_expire_37 : decode cC_expire 37 = .ok (.getfield 73, 3) := by decide +kernel
theorem dC_expire_40 : decode cC_expire 40 = .ok (.isub, 1) := by decide +kernel
theorem dC_expire_41 : decode cC_expire 41 = .ok (.iload_n 1, 1) := by decide +kernel
theorem dC_expire_42 : decode cC_expire 42 = .ok (.if_icmp .le 18, 3) := by decide +kernel
theorem dC_expire_45 : decode cC_expire 45 = .ok (.aload_n 0, 1) := by decide +kernel
theorem dC_expire_46 : decode cC_expire 46 = .ok (.aload_n 3, 1) := by decide +kernel
theorem dC_expire_47 : decode cC_expire 47 = .ok (.invokevirtual 105, 3) := by decide +kernel
theorem dC_expire_50 : decode cC_expire 50 = .ok (.ifCond .ne 10, 3) := by decide +kernel
theorem dC_expire_53 : decode cC_expire 53 = .ok (.aload_n 3, 1) := by decide +kernel
theorem dC_expire_54 : decode cC_expire 54 = .ok (.invokestatic 99, 3) := by decide +kernel
theorem dC_expire_57 : decode cC_expire 57 = .ok (.iinc 2 1, 3) := by decide +kernel
theorem dC_expire_60 : decode cC_expire 60 = .ok (.aload_n 3, 1) := by decide +kernel
theorem dC_expire_61 : decode cC_expire 61 = .ok (.getfield 108, 3) := by decide +kernel
theorem dC_expire_64 : decode cC_expire 64 = .ok (.astore_n 3, 1) := by decide +kernel
theorem dC_expire_65 : decode cC_expire 65 = .ok (.goto (-44), 3) := by decide +kernel
theorem dC_expire_68 : decode cC_expire 68 = .ok (.iload_n 2, 1) := by decide +kernel
theorem dC_expire_69 : decode cC_expire 69 = .ok (.ireturn, 1) := by decide +kernel
theorem dC_isOnlyGoodFull_0 : decode cC_isOnlyGoodFull 0 = .ok (.aload_n 1, 1) := by decide +kernel
theorem dC_isOnlyGoodFull_1 : decode cC_isOnlyGoodFull 1 = .ok (.getfield 63, 3) := by decide +kernel
theorem dC_isOnlyGoodFull_4 : decode cC_isOnlyGoodFull 4 = .ok (.ifCond .ne 10, 3) := by decide +kernel
theorem dC_isOnlyGoodFull_7 : decode cC_isOnlyGoodFull 7 = .ok (.aload_n 1, 1) := by decide +kernel
theorem dC_isOnlyGoodFull_8 : decode cC_isOnlyGoodFull 8 = .ok (.invokestatic 136, 3) := by decide +kernel
theorem dC_isOnlyGoodFull_11 : decode cC_isOnlyGoodFull 11 = .ok (.ifCond .ne 5, 3) := by decide +kernel
theorem dC_isOnlyGoodFull_14 : decode cC_isOnlyGoodFull 14 = .ok (.iconst 0, 1) := by decide +kernel
theorem dC_isOnlyGoodFull_15 : decode cC_isOnlyGoodFull 15 = .ok (.ireturn, 1) := by decide +kernel
theorem dC_isOnlyGoodFull_16 : decode cC_isOnlyGoodFull 16 = .ok (.aload_n 0, 1) := by decide +kernel
theorem dC_isOnlyGoodFull_17 : decode cC_isOnlyGoodFull 17 = .ok (.getfield 16, 3) := by decide +kernel
theorem dC_isOnlyGoodFull_20 : decode cC_isOnlyGoodFull 20 = .ok (.astore_n 2, 1) := by decide +kernel
theorem dC_isOnlyGoodFull_21 : decode cC_isOnlyGoodFull 21 = .ok (.aload_n 2, 1) := by decide +kernel
theorem dC_isOnlyGoodFull_22 : decode cC_isOnlyGoodFull 22 = .ok (.ifnull 43, 3) := by decide +kernel
theorem dC_isOnlyGoodFull_25 : decode cC_isOnlyGoodFull 25 = .ok (.aload_n 2, 1) := by decide +kernel
theorem dC_isOnlyGoodFull_26 : decode cC_isOnlyGoodFull 26 = .ok (.aload_n 1, 1) := by decide +kernel
theorem dC_isOnlyGoodFull_27 : decode cC_isOnlyGoodFull 27 = .ok (.if_acmp .eq 30, 3) := by decide +kernel
theorem dC_isOnlyGoodFull_30 : decode cC_isOnlyGoodFull 30 = .ok (.aload_n 2, 1) := by decide +kernel
theorem dC_isOnlyGoodFull_31 : decode cC_isOnlyGoodFull 31 = .ok (.getfield 111, 3) := by decide +kernel
theorem dC_isOnlyGoodFull_34 : decode cC_isOnlyGoodFull 34 = .ok (.aload_n 1, 1) := by decide +kernel
theorem dC_isOnlyGoodFull_35 : decode cC_isOnlyGoodFull 35 = .ok (.getfield 111, 3) := by decide +kernel
theorem dC_isOnlyGoodFull_38 : decode cC_isOnlyGoodFull 38 = .ok (.if_icmp .ne 19, 3) := by decide +kernel
theorem dC_isOnlyGoodFull_41 : decode cC_isOnlyGoodFull 41 = .ok (.aload_n 2, 1) := by decide +kernel
theorem dC_isOnlyGoodFull_42 : decode cC_isOnlyGoodFull 42 = .ok (.getfield 63, 3) := by decide +kernel
theorem dC_isOnlyGoodFull_45 : decode cC_isOnlyGoodFull 45 = .ok (.ifCond .ne 12, 3) := by decide +kernel
theorem dC_isOnlyGoodFull_48 : decode cC_isOnlyGoodFull 48 = .ok (.aload_n 2, 1) := by decide +kernel
theorem dC_isOnlyGoodFull_49 : decode cC_isOnlyGoodFull 49 = .ok (.invokestatic 136, 3) := by decide +kernel
theorem dC_isOnlyGoodFull_52 : decode cC_isOnlyGoodFull 52 = .ok (.ifCond .eq 5, 3) := by decide +kernel
theorem dC_isOnlyGoodFull_55 : decode cC_isOnlyGoodFull 55 = .ok (.iconst 0, 1) := by decide +kernel
theorem dC_isOnlyGoodFull_56 : decode cC_isOnlyGoodFull 56 = .ok (.ireturn, 1) := by decide +kernel
theorem dC_isOnlyGoodFull_57 : decode cC_isOnlyGoodFull 57 = .ok (.aload_n 2, 1) := by decide +kernel
theorem dC_isOnlyGoodFull_58 : decode cC_isOnlyGoodFull 58 = .ok (.getfield 108, 3) := by decide +kernel
theorem dC_isOnlyGoodFull_61 : decode cC_isOnlyGoodFull 61 = .ok (.astore_n 2, 1) := by decide +kernel
theorem dC_isOnlyGoodFull_62 : decode cC_isOnlyGoodFull 62 = .ok (.goto (-41), 3) := by decide +kernel
theorem dC_isOnlyGoodFull_65 : decode cC_isOnlyGoodFull 65 = .ok (.iconst 1, 1) := by decide +kernel
theorem dC_isOnlyGoodFull_66 : decode cC_isOnlyGoodFull 66 = .ok (.ireturn, 1) := by decide +kernel
