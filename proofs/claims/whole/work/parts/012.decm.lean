theorem dX5_init_0 : decode cX5_init 0 = .ok (.aload_n 0, 1) := by decide +kernel
theorem dX5_init_1 : decode cX5_init 1 = .ok (.invokespecial 1, 3) := by decide +kernel
theorem dX5_init_4 : decode cX5_init 4 = .ok (.aload_n 0, 1) := by decide +kernel
theorem dX5_init_5 : decode cX5_init 5 = .ok (.bipush 21, 2) := by decide +kernel
theorem dX5_init_7 : decode cX5_init 7 = .ok (.newarray .int, 2) := by decide +kernel
theorem dX5_init_9 : decode cX5_init 9 = .ok (.putfield 7, 3) := by decide +kernel
theorem dX5_init_12 : decode cX5_init 12 = .ok (.aload_n 0, 1) := by decide +kernel
theorem dX5_init_13 : decode cX5_init 13 = .ok (.bipush 21, 2) := by decide +kernel
theorem dX5_init_15 : decode cX5_init 15 = .ok (.newarray .int, 2) := by decide +kernel
theorem dX5_init_17 : decode cX5_init 17 = .ok (.putfield 13, 3) := by decide +kernel
theorem dX5_init_20 : decode cX5_init 20 = .ok (.aload_n 0, 1) := by decide +kernel
theorem dX5_init_21 : decode cX5_init 21 = .ok (.bipush 21, 2) := by decide +kernel
theorem dX5_init_23 : decode cX5_init 23 = .ok (.newarray .long, 2) := by decide +kernel
theorem dX5_init_25 : decode cX5_init 25 = .ok (.putfield 16, 3) := by decide +kernel
theorem dX5_init_28 : decode cX5_init 28 = .ok (.aload_n 0, 1) := by decide +kernel
theorem dX5_init_29 : decode cX5_init 29 = .ok (.sipush 201, 3) := by decide +kernel
theorem dX5_init_32 : decode cX5_init 32 = .ok (.newarray .int, 2) := by decide +kernel
theorem dX5_init_34 : decode cX5_init 34 = .ok (.putfield 20, 3) := by decide +kernel
theorem dX5_init_37 : decode cX5_init 37 = .ok (.aload_n 0, 1) := by decide +kernel
theorem dX5_init_38 : decode cX5_init 38 = .ok (.sipush 201, 3) := by decide +kernel
theorem dX5_init_41 : decode cX5_init 41 = .ok (.newarray .int, 2) := by decide +kernel
theorem dX5_init_43 : decode cX5_init 43 = .ok (.putfield 23, 3) := by decide +kernel
theorem dX5_init_46 : decode cX5_init 46 = .ok (.aload_n 0, 1) := by decide +kernel
theorem dX5_init_47 : decode cX5_init 47 = .ok (.sipush 201, 3) := by decide +kernel
theorem dX5_init_50 : decode cX5_init 50 = .ok (.newarray .int, 2) := by decide +kernel
theorem dX5_init_52 : decode cX5_init 52 = .ok (.putfield 26, 3) := by decide +kernel
theorem dX5_init_55 : decode cX5_init 55 = .ok (.aload_n 0, 1) := by decide +kernel
theorem dX5_init_56 : decode cX5_init 56 = .ok (.sipush 201, 3) := by decide +kernel
theorem dX5_init_59 : decode cX5_init 59 = .ok (.newarray .long, 2) := by decide +kernel
theorem dX5_init_61 : decode cX5_init 61 = .ok (.putfield 29, 3) := by decide +kernel
theorem dX5_init_64 : decode cX5_init 64 = .ok (.aload_n 0, 1) := by decide +kernel
theorem dX5_init_65 : decode cX5_init 65 = .ok (.sipush 201, 3) := by decide +kernel
theorem dX5_init_68 : decode cX5_init 68 = .ok (.newarray .long, 2) := by decide +kernel
theorem dX5_init_70 : decode cX5_init 70 = .ok (.putfield 32, 3) := by decide +kernel
theorem dX5_init_73 : decode cX5_init 73 = .ok (.aload_n 0, 1) := by decide +kernel
theorem dX5_init_74 : decode cX5_init 74 = .ok (.sipush 201, 3) := by decide +kernel
theorem dX5_init_77 : decode cX5_init 77 = .ok (.newarray .boolean, 2) := by decide +kernel
theorem dX5_init_79 : decode cX5_init 79 = .ok (.putfield 35, 3) := by decide +kernel
theorem dX5_init_82 : decode cX5_init 82 = .ok (.aload_n 0, 1) := by decide +kernel
theorem dX5_init_83 : decode cX5_init 83 = .ok (.sipush 201, 3) := by decide +kernel
theorem dX5_init_86 : decode cX5_init 86 = .ok (.newarray .int, 2) := by decide +kernel
theorem dX5_init_88 : decode cX5_init 88 = .ok (.putfield 39, 3) := by decide +kernel
theorem dX5_init_91 : decode cX5_init 91 = .ok (.aload_n 0, 1) := by decide +kernel
theorem dX5_init_92 : decode cX5_init 92 = .ok (.ldc 42, 2) := by decide +kernel
theorem dX5_init_94 : decode cX5_init 94 = .ok (.newarray .boolean, 2) := by decide +kernel
theorem dX5_init_96 : decode cX5_init 96 = .ok (.putfield 43, 3) := by decide +kernel
theorem dX5_init_99 : decode cX5_init 99 = .ok (.return_, 1) := by decide +kernel
theorem dX5_isRecord_0 : decode cX5_isRecord 0 = .ok (.iload_n 1, 1) := by decide +kernel
theorem dX5_isRecord_1 : decode cX5_isRecord 1 = .ok (.ifCond .le 15, 3) := by decide +kernel
theorem dX5_isRecord_4 : decode cX5_isRecord 4 = .ok (.iload_n 1, 1) := by decide +kernel
theorem dX5_isRecord_5 : decode cX5_isRecord 5 = .ok (.aload_n 0, 1) := by decide +kernel
theorem dX5_isRecord_6 : decode cX5_isRecord 6 = .ok (.getfield 50, 3) := by decide +kernel
theorem dX5_isRecord_9 : decode cX5_isRecord 9 = .ok (.if_icmp .gt 7, 3) := by decide +kernel
theorem dX5_isRecord_12 : decode cX5_isRecord 12 = .ok (.iconst 1, 1) := by decide +kernel
theorem dX5_isRecord_13 : decode cX5_isRecord 13 = .ok (.goto 4, 3) := by decide +kernel
theorem dX5_isRecord_16 : decode cX5_isRecord 16 = .ok (.iconst 0, 1) := by decide +kernel
theorem dX5_isRecord_17 : decode cX5_isRecord 17 = .ok (.ireturn, 1) := by decide +kernel
theorem dX5_isAct_0 : decode cX5_isAct 0 = .ok (.iload_n 1, 1) := by decide +kernel
theorem dX5_isAct_1 : decode cX5_isAct 1 = .ok (.ifCond .le 15, 3) := by decide +kernel
theorem dX5_isAct_4 : decode cX5_isAct 4 = .ok (.iload_n 1, 1) := by decide +kernel
theorem dX5_isAct_5 : decode cX5_isAct 5 = .ok (.aload_n 0, 1) := by decide +kernel
theorem dX5_isAct_6 : decode cX5_isAct 6 = .ok (.getfield 53, 3) := by decide +kernel
theorem dX5_isAct_9 : decode cX5_isAct 9 = .ok (.if_icmp .gt 7, 3) := by decide +kernel
theorem dX5_isAct_12 : decode cX5_isAct 12 = .ok (.iconst 1, 1) := by decide +kernel
theorem dX5_isAct_13 : decode cX5_isAct 13 = .ok (.goto 4, 3) := by decide +kernel
theorem dX5_isAct_16 : decode cX5_isAct 16 = .ok (.iconst 0, 1) := by decide +kernel
theorem dX5_isAct_17 : decode cX5_isAct 17 = .ok (.ireturn, 1) := by decide +kernel
theorem dX5_isField_0 : decode cX5_isField 0 = .ok (.aload_n 0, 1) := by decide +kernel
theorem dX5_isField_1 : decode cX5_isField 1 = .ok (.iload_n 1, 1) := by decide +kernel
theorem dX5_isField_2 : decode cX5_isField 2 = .ok (.invokevirtual 56, 3) := by decide +kernel
theorem dX5_isField_5 : decode cX5_isField 5 = .ok (.ifCond .eq 17, 3) := by decide +kernel
theorem dX5_isField_8 : decode cX5_isField 8 = .ok (.iload_n 2, 1) := by decide +kernel
theorem dX5_isField_9 : decode cX5_isField 9 = .ok (.ifCond .lt 13, 3) := by decide +kernel
theorem dX5_isField_12 : decode cX5_isField 12 = .ok (.iload_n 2, 1) := by decide +kernel
theorem dX5_isField_13 : decode cX5_isField 13 = .ok (.bipush 8, 2) := by decide +kernel
theorem dX5_isField_15 : decode cX5_isField 15 = .ok (.if_icmp .ge 7, 3) := by decide +kernel
theorem dX5_isField_18 : decode cX5_isField 18 = .ok (.iconst 1, 1) := by decide +kernel
theorem dX5_isField_19 : decode cX5_isField 19 = .ok (.goto 4, 3) := by decide +kernel
theorem dX5_isField_22 : decode cX5_isField 22 = .ok (.iconst 0, 1) := by decide +kernel
theorem dX5_isField_23 : decode cX5_isField 23 = .ok (.ireturn, 1) := by decide +kernel
theorem dX5_record_0 : decode cX5_record 0 = .ok (.aload_n 0, 1) := by decide +kernel
theorem dX5_record_1 : decode cX5_record 1 = .ok (.iconst 0, 1) := by decide +kernel
theorem dX5_record_2 : decode cX5_record 2 = .ok (.putfield 46, 3) := by decide +kernel
theorem dX5_record_5 : decode cX5_record 5 = .ok (.iload_n 1, 1) := by decide +kernel
theorem dX5_record_6 : decode cX5_record 6 = .ok (.ifCond .lt 17, 3) := by decide +kernel
theorem dX5_record_9 : decode cX5_record 9 = .ok (.iload_n 1, 1) := by decide +kernel
theorem dX5_record_10 : decode cX5_record 10 = .ok (.iconst 3, 1) := by decide +kernel
theorem dX5_record_11 : decode cX5_record 11 = .ok (.if_icmp .gt 12, 3) := by decide +kernel
theorem dX5_record_14 : decode cX5_record 14 = .ok (.aload_n 0, 1) := by decide +kernel
theorem dX5_record_15 : decode cX5_record 15 = .ok (.getfield 50, 3) := by decide +kernel
theorem dX5_record_18 : decode cX5_record 18 = .ok (.bipush 20, 2) := by decide +kernel
theorem dX5_record_20 : decode cX5_record 20 = .ok (.if_icmp .ne 5, 3) := by decide +kernel
theorem dX5_record_23 : decode cX5_record 23 = .ok (.iconst 0, 1) := by decide +kernel
theorem dX5_record_24 : decode cX5_record 24 = .ok (.ireturn, 1) := by decide +kernel
theorem dX5_record_25 : decode cX5_record 25 = .ok (.aload_n 0, 1) := by decide +kernel
theorem dX5_record_26 : decode cX5_record 26 = .ok (.dup, 1) := by decide +kernel
theorem dX5_record_27 : decode cX5_record 27 = .ok (.getfield 50, 3) := by decide +kernel
theorem dX5_record_30 : decode cX5_record 30 = .ok (.iconst 1, 1) := by decide +kernel
theorem dX5_record_31 : decode cX5_record 31 = .ok (.iadd, 1) := by decide +kernel
theorem dX5_record_32 : decode cX5_record 32 = .ok (.putfield 50, 3) := by decide +kernel
theorem dX5_record_35 : decode cX5_record 35 = .ok (.aload_n 0, 1) := by decide +kernel
theorem dX5_record_36 : decode cX5_record 36 = .ok (.getfield 7, 3) := by decide +kernel
theorem dX5_record_39 : decode cX5_record 39 = .ok (.aload_n 0, 1) := by decide +kernel
theorem dX5_record_40 : decode cX5_record 40 = .ok (.getfield 50, 3) := by decide +kernel
theorem dX5_record_43 : decode cX5_record 43 = .ok (.iload_n 1, 1) := by decide +kernel
theorem dX5_record_44 : decode cX5_record 44 = .ok (.iastore, 1) := by decide +kernel
theorem dX5_record_45 : decode cX5_record 45 = .ok (.aload_n 0, 1) := by decide +kernel
theorem dX5_record_46 : decode cX5_record 46 = .ok (.getfield 16, 3) := by decide +kernel
theorem dX5_record_49 : decode cX5_record 49 = .ok (.aload_n 0, 1) := by decide +kernel
theorem dX5_record_50 : decode cX5_record 50 = .ok (.getfield 50, 3) := by decide +kernel
theorem dX5_record_53 : decode cX5_record 53 = .ok (.ldc2_w 60, 3) := by decide +kernel
theorem dX5_record_56 : decode cX5_record 56 = .ok (.lastore, 1) := by decide +kernel
theorem dX5_record_57 : decode cX5_record 57 = .ok (.aload_n 0, 1) := by decide +kernel
theorem dX5_record_58 : decode cX5_record 58 = .ok (.getfield 50, 3) := by decide +kernel
theorem dX5_record_61 : decode cX5_record 61 = .ok (.ireturn, 1) := by decide +kernel
theorem dX5_now_0 : decode cX5_now 0 = .ok (.ldc2_w 60, 3) := by decide +kernel
theorem dX5_now_3 : decode cX5_now 3 = .ok (.lstore_n 1, 1) := by decide +kernel
theorem dX5_now_4 : decode cX5_now 4 = .ok (.iconst 1, 1) := by decide +kernel
theorem dX5_now_5 : decode cX5_now 5 = .ok (.istore_n 3, 1) := by decide +kernel
theorem dX5_now_6 : decode cX5_now 6 = .ok (.iload_n 3, 1) := by decide +kernel
theorem dX5_now_7 : decode cX5_now 7 = .ok (.aload_n 0, 1) := by decide +kernel
theorem dX5_now_8 : decode cX5_now 8 = .ok (.getfield 53, 3) := by decide +kernel
theorem dX5_now_11 : decode cX5_now 11 = .ok (.if_icmp .gt 31, 3) := by decide +kernel
theorem dX5_now_14 : decode cX5_now 14 = .ok (.aload_n 0, 1) := by decide +kernel
theorem dX5_now_15 : decode cX5_now 15 = .ok (.getfield 32, 3) := by decide +kernel
theorem dX5_now_18 : decode cX5_now 18 = .ok (.iload_n 3, 1) := by decide +kernel
theorem dX5_now_19 : decode cX5_now 19 = .ok (.laload, 1) := by decide +kernel
theorem dX5_now_20 : decode cX5_now 20 = .ok (.lload_n 1, 1) := by decide +kernel
theorem dX5_now_21 : decode cX5_now 21 = .ok (.lcmp, 1) := by decide +kernel
theorem dX5_now_22 : decode cX5_now 22 = .ok (.ifCond .le 12, 3) := by decide +kernel
theorem dX5_now_25 : decode cX5_now 25 = .ok (.aload_n 0, 1) := by decide +kernel
theorem dX5_now_26 : decode cX5_now 26 = .ok (.getfield 32, 3) := by decide +kernel
theorem dX5_now_29 : decode cX5_now 29 = .ok (.iload_n 3, 1) := by decide +kernel
theorem dX5_now_30 : decode cX5_now 30 = .ok (.laload, 1) := by decide +kernel
theorem dX5_now_31 : decode cX5_now 31 = .ok (.goto 4, 3) := by decide +kernel
theorem dX5_now_34 : decode cX5_now 34 = .ok (.lload_n 1, 1) := by decide +kernel
theorem dX5_now_35 : decode cX5_now 35 = .ok (.lstore_n 1, 1) := by decide +kernel
theorem dX5_now_36 : decode cX5_now 36 = .ok (.iinc 3 1, 3) := by decide +kernel
theorem dX5_now_39 : decode cX5_now 39 = .ok (.goto (-33), 3) := by decide +kernel
theorem dX5_now_42 : decode cX5_now 42 = .ok (.lload_n 1, 1) := by decide +kernel
theorem dX5_now_43 : decode cX5_now 43 = .ok (.lreturn, 1) := by decide +kernel
theorem dX5_isLocked_0 : decode cX5_isLocked 0 = .ok (.aload_n 0, 1) := by decide +kernel
theorem dX5_isLocked_1 : decode cX5_isLocked 1 = .ok (.invokevirtual 62, 3) := by decide +kernel
theorem dX5_isLocked_4 : decode cX5_isLocked 4 = .ok (.aload_n 0, 1) := by decide +kernel
theorem dX5_isLocked_5 : decode cX5_isLocked 5 = .ok (.getfield 16, 3) := by decide +kernel
theorem dX5_isLocked_8 : decode cX5_isLocked 8 = .ok (.iload_n 1, 1) := by decide +kernel
theorem dX5_isLocked_9 : decode cX5_isLocked 9 = .ok (.laload, 1) := by decide +kernel
theorem dX5_isLocked_10 : decode cX5_isLocked 10 = .ok (.lcmp, 1) := by decide +kernel
theorem dX5_isLocked_11 : decode cX5_isLocked 11 = .ok (.ifCond .ge 7, 3) := by decide +kernel
theorem dX5_isLocked_14 : decode cX5_isLocked 14 = .ok (.iconst 1, 1) := by decide +kernel
theorem dX5_isLocked_15 : decode cX5_isLocked 15 = .ok (.goto 4, 3) := by decide +kernel
theorem dX5_isLocked_18 : decode cX5_isLocked 18 = .ok (.iconst 0, 1) := by decide +kernel
theorem dX5_isLocked_19 : decode cX5_isLocked 19 = .ok (.ireturn, 1) := by decide +kernel
theorem dX5_act_0 : decode cX5_act 0 = .ok (.aload_n 0, 1) := by decide +kernel
theorem dX5_act_1 : decode cX5_act 1 = .ok (.iconst 0, 1) := by decide +kernel
theorem dX5_act_2 : decode cX5_act 2 = .ok (.putfield 46, 3) := by decide +kernel
theorem dX5_act_5 : decode cX5_act 5 = .ok (.aload_n 0, 1) := by decide +kernel
theorem dX5_act_6 : decode cX5_act 6 = .ok (.iload_n 1, 1) := by decide +kernel
theorem dX5_act_7 : decode cX5_act 7 = .ok (.iload_n 2, 1) := by decide +kernel
theorem dX5_act_8 : decode cX5_act 8 = .ok (.invokevirtual 66, 3) := by decide +kernel
theorem dX5_act_11 : decode cX5_act 11 = .ok (.ifCond .eq 25, 3) := by decide +kernel
theorem dX5_act_14 : decode cX5_act 14 = .ok (.lload_n 3, 1) := by decide +kernel
theorem dX5_act_15 : decode cX5_act 15 = .ok (.lconst 0, 1) := by decide +kernel
theorem dX5_act_16 : decode cX5_act 16 = .ok (.lcmp, 1) := by decide +kernel
theorem dX5_act_17 : decode cX5_act 17 = .ok (.ifCond .lt 19, 3) := by decide +kernel
theorem dX5_act_20 : decode cX5_act 20 = .ok (.lload_n 3, 1) := by decide +kernel
theorem dX5_act_21 : decode cX5_act 21 = .ok (.ldc2_w 70, 3) := by decide +kernel
theorem dX5_act_24 : decode cX5_act 24 = .ok (.lcmp, 1) := by decide +kernel
theorem dX5_act_25 : decode cX5_act 25 = .ok (.ifCond .gt 11, 3) := by decide +kernel
theorem dX5_act_28 : decode cX5_act 28 = .ok (.aload_n 0, 1) := by decide +kernel
theorem dX5_act_29 : decode cX5_act 29 = .ok (.iload_n 1, 1) := by decide +kernel
theorem dX5_act_30 : decode cX5_act 30 = .ok (.invokevirtual 72, 3) := by decide +kernel
theorem dX5_act_33 : decode cX5_act 33 = .ok (.ifCond .eq 5, 3) := by decide +kernel
theorem dX5_act_36 : decode cX5_act 36 = .ok (.iconst 0, 1) := by decide +kernel
theorem dX5_act_37 : decode cX5_act 37 = .ok (.ireturn, 1) := by decide +kernel
theorem dX5_act_38 : decode cX5_act 38 = .ok (.iconst 1, 1) := by decide +kernel
theorem dX5_act_39 : decode cX5_act 39 = .ok (.istore 9, 2) := by decide +kernel
theorem dX5_act_41 : decode cX5_act 41 = .ok (.iload 9, 2) := by decide +kernel
theorem dX5_act_43 : decode cX5_act 43 = .ok (.aload_n 0, 1) := by decide +kernel
theorem dX5_act_44 : decode cX5_act 44 = .ok (.getfield 53, 3) := by decide +kernel
theorem dX5_act_47 : decode cX5_act 47 = .ok (.if_icmp .gt 83, 3) := by decide +kernel
theorem dX5_act_50 : decode cX5_act 50 = .ok (.aload_n 0, 1) := by decide +kernel
theorem dX5_act_51 : decode cX5_act 51 = .ok (.getfield 35, 3) := by decide +kernel
theorem dX5_act_54 : decode cX5_act 54 = .ok (.iload 9, 2) := by decide +kernel
theorem dX5_act_56 : decode cX5_act 56 = .ok (.baload, 1) := by decide +kernel
theorem dX5_act_57 : decode cX5_act 57 = .ok (.ifCond .ne 67, 3) := by decide +kernel
theorem dX5_act_60 : decode cX5_act 60 = .ok (.aload_n 0, 1) := by decide +kernel
theorem dX5_act_61 : decode cX5_act 61 = .ok (.getfield 20, 3) := by decide +kernel
theorem dX5_act_64 : decode cX5_act 64 = .ok (.iload 9, 2) := by decide +kernel
theorem dX5_act_66 : decode cX5_act 66 = .ok (.iaload, 1) := by decide +kernel
theorem dX5_act_67 : decode cX5_act 67 = .ok (.iload_n 1, 1) := by decide +kernel
theorem dX5_act_68 : decode cX5_act 68 = .ok (.if_icmp .ne 56, 3) := by decide +kernel
theorem dX5_act_71 : decode cX5_act 71 = .ok (.aload_n 0, 1) := by decide +kernel
theorem dX5_act_72 : decode cX5_act 72 = .ok (.getfield 23, 3) := by decide +kernel
theorem dX5_act_75 : decode cX5_act 75 = .ok (.iload 9, 2) := by decide +kernel
theorem dX5_act_77 : decode cX5_act 77 = .ok (.iaload, 1) := by decide +kernel
theorem dX5_act_78 : decode cX5_act 78 = .ok (.iload_n 2, 1) := by decide +kernel
theorem dX5_act_79 : decode cX5_act 79 = .ok (.if_icmp .ne 45, 3) := by decide +kernel
theorem dX5_act_82 : decode cX5_act 82 = .ok (.aload_n 0, 1) := by decide +kernel
theorem dX5_act_83 : decode cX5_act 83 = .ok (.getfield 26, 3) := by decide +kernel
theorem dX5_act_86 : decode cX5_act 86 = .ok (.iload 9, 2) := by decide +kernel
theorem dX5_act_88 : decode cX5_act 88 = .ok (.iaload, 1) := by decide +kernel
theorem dX5_act_89 : decode cX5_act 89 = .ok (.i2l, 1) := by decide +kernel
theorem dX5_act_90 : decode cX5_act 90 = .ok (.lload_n 3, 1) := by decide +kernel
theorem dX5_act_91 : decode cX5_act 91 = .ok (.lcmp, 1) := by decide +kernel
theorem dX5_act_92 : decode cX5_act 92 = .ok (.ifCond .ne 32, 3) := by decide +kernel
theorem dX5_act_95 : decode cX5_act 95 = .ok (.aload_n 0, 1) := by decide +kernel
theorem dX5_act_96 : decode cX5_act 96 = .ok (.getfield 29, 3) := by decide +kernel
theorem dX5_act_99 : decode cX5_act 99 = .ok (.iload 9, 2) := by decide +kernel
theorem dX5_act_101 : decode cX5_act 101 = .ok (.laload, 1) := by decide +kernel
theorem dX5_act_102 : decode cX5_act 102 = .ok (.lload 5, 2) := by decide +kernel
theorem dX5_act_104 : decode cX5_act 104 = .ok (.lcmp, 1) := by decide +kernel
theorem dX5_act_105 : decode cX5_act 105 = .ok (.ifCond .ne 19, 3) := by decide +kernel
theorem dX5_act_108 : decode cX5_act 108 = .ok (.aload_n 0, 1) := by decide +kernel
theorem dX5_act_109 : decode cX5_act 109 = .ok (.getfield 32, 3) := by decide +kernel
theorem dX5_act_112 : decode cX5_act 112 = .ok (.iload 9, 2) := by decide +kernel
theorem dX5_act_114 : decode cX5_act 114 = .ok (.laload, 1) := by decide +kernel
theorem dX5_act_115 : decode cX5_act 115 = .ok (.lload 7, 2) := by decide +kernel
theorem dX5_act_117 : decode cX5_act 117 = .ok (.lcmp, 1) := by decide +kernel
theorem dX5_act_118 : decode cX5_act 118 = .ok (.ifCond .ne 6, 3) := by decide +kernel
theorem dX5_act_121 : decode cX5_act 121 = .ok (.iload 9, 2) := by decide +kernel
theorem dX5_act_123 : decode cX5_act 123 = .ok (.ireturn, 1) := by decide +kernel
theorem dX5_act_124 : decode cX5_act 124 = .ok (.iinc 9 1, 3) := by decide +kernel
theorem dX5_act_127 : decode cX5_act 127 = .ok (.goto (-86), 3) := by decide +kernel
theorem dX5_act_130 : decode cX5_act 130 = .ok (.iload_n 2, 1) := by decide +kernel
theorem dX5_act_131 : decode cX5_act 131 = .ok (.ifCond .ne 19, 3) := by decide +kernel
theorem dX5_act_134 : decode cX5_act 134 = .ok (.lload_n 3, 1) := by decide +kernel
theorem dX5_act_135 : decode cX5_act 135 = .ok (.lconst 1, 1) := by decide +kernel
theorem dX5_act_136 : decode cX5_act 136 = .ok (.lcmp, 1) := by decide +kernel
theorem dX5_act_137 : decode cX5_act 137 = .ok (.ifCond .ne 13, 3) := by decide +kernel
theorem dX5_act_140 : decode cX5_act 140 = .ok (.aload_n 0, 1) := by decide +kernel
theorem dX5_act_141 : decode cX5_act 141 = .ok (.getfield 7, 3) := by decide +kernel
theorem dX5_act_144 : decode cX5_act 144 = .ok (.iload_n 1, 1) := by decide +kernel
theorem dX5_act_145 : decode cX5_act 145 = .ok (.iaload, 1) := by decide +kernel
theorem dX5_act_146 : decode cX5_act 146 = .ok (.iconst 1, 1) := by decide +kernel
theorem dX5_act_147 : decode cX5_act 147 = .ok (.if_icmp .eq 13, 3) := by decide +kernel
theorem dX5_act_150 : decode cX5_act 150 = .ok (.aload_n 0, 1) := by decide +kernel
theorem dX5_act_151 : decode cX5_act 151 = .ok (.getfield 53, 3) := by decide +kernel
theorem dX5_act_154 : decode cX5_act 154 = .ok (.sipush 200, 3) := by decide +kernel
theorem dX5_act_157 : decode cX5_act 157 = .ok (.if_icmp .ne 5, 3) := by decide +kernel
theorem dX5_act_160 : decode cX5_act 160 = .ok (.iconst 0, 1) := by decide +kernel
theorem dX5_act_161 : decode cX5_act 161 = .ok (.ireturn, 1) := by decide +kernel
theorem dX5_act_162 : decode cX5_act 162 = .ok (.aload_n 0, 1) := by decide +kernel
theorem dX5_act_163 : decode cX5_act 163 = .ok (.dup, 1) := by decide +kernel
theorem dX5_act_164 : decode cX5_act 164 = .ok (.getfield 53, 3) := by decide +kernel
theorem dX5_act_167 : decode cX5_act 167 = .ok (.iconst 1, 1) := by decide +kernel
theorem dX5_act_168 : decode cX5_act 168 = .ok (.iadd, 1) := by decide +kernel
theorem dX5_act_169 : decode cX5_act 169 = .ok (.putfield 53, 3) := by decide +kernel
theorem dX5_act_172 : decode cX5_act 172 = .ok (.aload_n 0, 1) := by decide +kernel
theorem dX5_act_173 : decode cX5_act 173 = .ok (.getfield 20, 3) := by decide +kernel
theorem dX5_act_176 : decode cX5_act 176 = .ok (.aload_n 0, 1) := by decide +kernel
theorem dX5_act_177 : decode cX5_act 177 = .ok (.getfield 53, 3) := by decide +kernel
theorem dX5_act_180 : decode cX5_act 180 = .ok (.iload_n 1, 1) := by decide +kernel
theorem dX5_act_181 : decode cX5_act 181 = .ok (.iastore, 1) := by decide +kernel
theorem dX5_act_182 : decode cX5_act 182 = .ok (.aload_n 0, 1) := by decide +kernel
theorem dX5_act_183 : decode cX5_act 183 = .ok (.getfield 23, 3) := by decide +kernel
theorem dX5_act_186 : decode cX5_act 186 = .ok (.aload_n 0, 1) := by decide +kernel
theorem dX5_act_187 : decode cX5_act 187 = .ok (.getfield 53, 3) := by decide +kernel
theorem dX5_act_190 : decode cX5_act 190 = .ok (.iload_n 2, 1) := by decide +kernel
theorem dX5_act_191 : decode cX5_act 191 = .ok (.iastore, 1) := by decide +kernel
theorem dX5_act_192 : decode cX5_act 192 = .ok (.aload_n 0, 1) := by decide +kernel
theorem dX5_act_193 : decode cX5_act 193 = .ok (.getfield 26, 3) := by decide +kernel
theorem dX5_act_196 : decode cX5_act 196 = .ok (.aload_n 0, 1) := by decide +kernel
theorem dX5_act_197 : decode cX5_act 197 = .ok (.getfield 53, 3) := by decide +kernel
theorem dX5_act_200 : decode cX5_act 200 = .ok (.lload_n 3, 1) := by decide +kernel
theorem dX5_act_201 : decode cX5_act 201 = .ok (.l2i, 1) := by decide +kernel
theorem dX5_act_202 : decode cX5_act 202 = .ok (.iastore, 1) := by decide +kernel
theorem dX5_act_203 : decode cX5_act 203 = .ok (.aload_n 0, 1) := by decide +kernel
theorem dX5_act_204 : decode cX5_act 204 = .ok (.getfield 29, 3) := by decide +kernel
theorem dX5_act_207 : decode cX5_act 207 = .ok (.aload_n 0, 1) := by decide +kernel
theorem dX5_act_208 : decode cX5_act 208 = .ok (.getfield 53, 3) := by decide +kernel
theorem dX5_act_211 : decode cX5_act 211 = .ok (.lload 5, 2) := by decide +kernel
theorem dX5_act_213 : decode cX5_act 213 = .ok (.lastore, 1) := by decide +kernel
theorem dX5_act_214 : decode cX5_act 214 = .ok (.aload_n 0, 1) := by decide +kernel
theorem dX5_act_215 : decode cX5_act 215 = .ok (.getfield 32, 3) := by decide +kernel
theorem dX5_act_218 : decode cX5_act 218 = .ok (.aload_n 0, 1) := by decide +kernel
theorem dX5_act_219 : decode cX5_act 219 = .ok (.getfield 53, 3) := by decide +kernel
theorem dX5_act_222 : decode cX5_act 222 = .ok (.lload 7, 2) := by decide +kernel
theorem dX5_act_224 : decode cX5_act 224 = .ok (.lastore, 1) := by decide +kernel
theorem dX5_act_225 : decode cX5_act 225 = .ok (.aload_n 0, 1) := by decide +kernel
theorem dX5_act_226 : decode cX5_act 226 = .ok (.getfield 53, 3) := by decide +kernel
theorem dX5_act_229 : decode cX5_act 229 = .ok (.ireturn, 1) := by decide +kernel
theorem dX5_isOf_0 : decode cX5_isOf 0 = .ok (.aload_n 0, 1) := by decide +kernel
theorem dX5_isOf_1 : decode cX5_isOf 1 = .ok (.getfield 20, 3) := by decide +kernel
theorem dX5_isOf_4 : decode cX5_isOf 4 = .ok (.iload_n 1, 1) := by decide +kernel
theorem dX5_isOf_5 : decode cX5_isOf 5 = .ok (.iaload, 1) := by decide +kernel
theorem dX5_isOf_6 : decode cX5_isOf 6 = .ok (.iload_n 2, 1) := by decide +kernel
theorem dX5_isOf_7 : decode cX5_isOf 7 = .ok (.if_icmp .ne 17, 3) := by decide +kernel
theorem dX5_isOf_10 : decode cX5_isOf 10 = .ok (.aload_n 0, 1) := by decide +kernel
theorem dX5_isOf_11 : decode cX5_isOf 11 = .ok (.getfield 23, 3) := by decide +kernel
theorem dX5_isOf_14 : decode cX5_isOf 14 = .ok (.iload_n 1, 1) := by decide +kernel
theorem dX5_isOf_15 : decode cX5_isOf 15 = .ok (.iaload, 1) := by decide +kernel
theorem dX5_isOf_16 : decode cX5_isOf 16 = .ok (.iload_n 3, 1) := by decide +kernel
theorem dX5_isOf_17 : decode cX5_isOf 17 = .ok (.if_icmp .ne 7, 3) := by decide +kernel
theorem dX5_isOf_20 : decode cX5_isOf 20 = .ok (.iconst 1, 1) := by decide +kernel
theorem dX5_isOf_21 : decode cX5_isOf 21 = .ok (.goto 4, 3) := by decide +kernel
theorem dX5_isOf_24 : decode cX5_isOf 24 = .ok (.iconst 0, 1) := by decide +kernel
theorem dX5_isOf_25 : decode cX5_isOf 25 = .ok (.ireturn, 1) := by decide +kernel
theorem dX5_isBefore_0 : decode cX5_isBefore 0 = .ok (.aload_n 0, 1) := by decide +kernel
theorem dX5_isBefore_1 : decode cX5_isBefore 1 = .ok (.getfield 32, 3) := by decide +kernel
theorem dX5_isBefore_4 : decode cX5_isBefore 4 = .ok (.iload_n 1, 1) := by decide +kernel
theorem dX5_isBefore_5 : decode cX5_isBefore 5 = .ok (.laload, 1) := by decide +kernel
theorem dX5_isBefore_6 : decode cX5_isBefore 6 = .ok (.aload_n 0, 1) := by decide +kernel
theorem dX5_isBefore_7 : decode cX5_isBefore 7 = .ok (.getfield 32, 3) := by decide +kernel
theorem dX5_isBefore_10 : decode cX5_isBefore 10 = .ok (.iload_n 2, 1) := by decide +kernel
theorem dX5_isBefore_11 : decode cX5_isBefore 11 = .ok (.laload, 1) := by decide +kernel
theorem dX5_isBefore_12 : decode cX5_isBefore 12 = .ok (.lcmp, 1) := by decide +kernel
theorem dX5_isBefore_13 : decode cX5_isBefore 13 = .ok (.ifCond .eq 25, 3) := by decide +kernel
theorem dX5_isBefore_16 : decode cX5_isBefore 16 = .ok (.aload_n 0, 1) := by decide +kernel
theorem dX5_isBefore_17 : decode cX5_isBefore 17 = .ok (.getfield 32, 3) := by decide +kernel
theorem dX5_isBefore_20 : decode cX5_isBefore 20 = .ok (.iload_n 1, 1) := by decide +kernel
theorem dX5_isBefore_21 : decode cX5_isBefore 21 = .ok (.laload, 1) := by decide +kernel
theorem dX5_isBefore_22 : decode cX5_isBefore 22 = .ok (.aload_n 0, 1) := by decide +kernel
theorem dX5_isBefore_23 : decode cX5_isBefore 23 = .ok (.getfield 32, 3) := by decide +kernel
theorem dX5_isBefore_26 : decode cX5_isBefore 26 = .ok (.iload_n 2, 1) := by decide +kernel
theorem dX5_isBefore_27 : decode cX5_isBefore 27 = .ok (.laload, 1) := by decide +kernel
theorem dX5_isBefore_28 : decode cX5_isBefore 28 = .ok (.lcmp, 1) := by decide +kernel
theorem dX5_isBefore_29 : decode cX5_isBefore 29 = .ok (.ifCond .ge 7, 3) := by decide +kernel
theorem dX5_isBefore_32 : decode cX5_isBefore 32 = .ok (.iconst 1, 1) := by decide +kernel
theorem dX5_isBefore_33 : decode cX5_isBefore 33 = .ok (.goto 4, 3) := by decide +kernel
theorem dX5_isBefore_36 : decode cX5_isBefore 36 = .ok (.iconst 0, 1) := by decide +kernel
theorem dX5_isBefore_37 : decode cX5_isBefore 37 = .ok (.ireturn, 1) := by decide +kernel
theorem dX5_isBefore_38 : decode cX5_isBefore 38 = .ok (.aload_n 0, 1) := by decide +kernel
theorem dX5_isBefore_39 : decode cX5_isBefore 39 = .ok (.getfield 29, 3) := by decide +kernel
theorem dX5_isBefore_42 : decode cX5_isBefore 42 = .ok (.iload_n 1, 1) := by decide +kernel
theorem dX5_isBefore_43 : decode cX5_isBefore 43 = .ok (.laload, 1) := by decide +kernel
theorem dX5_isBefore_44 : decode cX5_isBefore 44 = .ok (.aload_n 0, 1) := by decide +kernel
theorem dX5_isBefore_45 : decode cX5_isBefore 45 = .ok (.getfield 29, 3) := by decide +kernel
theorem dX5_isBefore_48 : decode cX5_isBefore 48 = .ok (.iload_n 2, 1) := by decide +kernel
theorem dX5_isBefore_49 : decode cX5_isBefore 49 = .ok (.laload, 1) := by decide +kernel
theorem dX5_isBefore_50 : decode cX5_isBefore 50 = .ok (.lcmp, 1) := by decide +kernel
theorem dX5_isBefore_51 : decode cX5_isBefore 51 = .ok (.ifCond .eq 27, 3) := by decide +kernel
theorem dX5_isBefore_54 : decode cX5_isBefore 54 = .ok (.aload_n 0, 1) := by decide +kernel
theorem dX5_isBefore_55 : decode cX5_isBefore 55 = .ok (.getfield 29, 3) := by decide +kernel
theorem dX5_isBefore_58 : decode cX5_isBefore 58 = .ok (.iload_n 1, 1) := by decide +kernel
theorem dX5_isBefore_59 : decode cX5_isBefore 59 = .ok (.laload, 1) := by decide +kernel
theorem dX5_isBefore_60 : decode cX5_isBefore 60 = .ok (.aload_n 0, 1) := by decide +kernel
theorem dX5_isBefore_61 : decode cX5_isBefore 61 = .ok (.getfield 29, 3) := by decide +kernel
theorem dX5_isBefore_64 : decode cX5_isBefore 64 = .ok (.iload_n 2, 1) := by decide +kernel
theorem dX5_isBefore_65 : decode cX5_isBefore 65 = .ok (.laload, 1) := by decide +kernel
theorem dX5_isBefore_66 : decode cX5_isBefore 66 = .ok (.lcmp, 1) := by decide +kernel
theorem dX5_isBefore_67 : decode cX5_isBefore 67 = .ok (.ifCond .ge 7, 3) := by decide +kernel
theorem dX5_isBefore_70 : decode cX5_isBefore 70 = .ok (.iconst 1, 1) := by decide +kernel
theorem dX5_isBefore_71 : decode cX5_isBefore 71 = .ok (.goto 17, 3) := by decide +kernel
theorem dX5_isBefore_74 : decode cX5_isBefore 74 = .ok (.iconst 0, 1) := by decide +kernel
theorem dX5_isBefore_75 : decode cX5_isBefore 75 = .ok (.goto 13, 3) := by decide +kernel
theorem dX5_isBefore_78 : decode cX5_isBefore 78 = .ok (.iload_n 1, 1) := by decide +kernel
theorem dX5_isBefore_79 : decode cX5_isBefore 79 = .ok (.iload_n 2, 1) := by decide +kernel
theorem dX5_isBefore_80 : decode cX5_isBefore 80 = .ok (.if_icmp .ge 7, 3) := by decide +kernel
theorem dX5_isBefore_83 : decode cX5_isBefore 83 = .ok (.iconst 1, 1) := by decide +kernel
theorem dX5_isBefore_84 : decode cX5_isBefore 84 = .ok (.goto 4, 3) := by decide +kernel
theorem dX5_isBefore_87 : decode cX5_isBefore 87 = .ok (.iconst 0, 1) := by decide +kernel
theorem dX5_isBefore_88 : decode cX5_isBefore 88 = .ok (.ireturn, 1) := by decide +kernel
theorem dX5_last_0 : decode cX5_last 0 = .ok (.iconst 0, 1) := by decide +kernel
theorem dX5_last_1 : decode cX5_last 1 = .ok (.istore 5, 2) := by decide +kernel
theorem dX5_last_3 : decode cX5_last 3 = .ok (.iconst 1, 1) := by decide +kernel
theorem dX5_last_4 : decode cX5_last 4 = .ok (.istore 6, 2) := by decide +kernel
theorem dX5_last_6 : decode cX5_last 6 = .ok (.iload 6, 2) := by decide +kernel
theorem dX5_last_8 : decode cX5_last 8 = .ok (.aload_n 0, 1) := by decide +kernel
theorem dX5_last_9 : decode cX5_last 9 = .ok (.getfield 53, 3) := by decide +kernel
theorem dX5_last_12 : decode cX5_last 12 = .ok (.if_icmp .gt 62, 3) := by decide +kernel
theorem dX5_last_15 : decode cX5_last 15 = .ok (.aload_n 0, 1) := by decide +kernel
theorem dX5_last_16 : decode cX5_last 16 = .ok (.iload 6, 2) := by decide +kernel
theorem dX5_last_18 : decode cX5_last 18 = .ok (.iload_n 1, 1) := by decide +kernel
theorem dX5_last_19 : decode cX5_last 19 = .ok (.iload_n 2, 1) := by decide +kernel
theorem dX5_last_20 : decode cX5_last 20 = .ok (.invokevirtual 75, 3) := by decide +kernel
theorem dX5_last_23 : decode cX5_last 23 = .ok (.ifCond .eq 45, 3) := by decide +kernel
theorem dX5_last_26 : decode cX5_last 26 = .ok (.aload_n 0, 1) := by decide +kernel
theorem dX5_last_27 : decode cX5_last 27 = .ok (.getfield 35, 3) := by decide +kernel
theorem dX5_last_30 : decode cX5_last 30 = .ok (.iload 6, 2) := by decide +kernel
theorem dX5_last_32 : decode cX5_last 32 = .ok (.baload, 1) := by decide +kernel
theorem dX5_last_33 : decode cX5_last 33 = .ok (.ifCond .ne 35, 3) := by decide +kernel
theorem dX5_last_36 : decode cX5_last 36 = .ok (.aload_n 0, 1) := by decide +kernel
theorem dX5_last_37 : decode cX5_last 37 = .ok (.getfield 32, 3) := by decide +kernel
theorem dX5_last_40 : decode cX5_last 40 = .ok (.iload 6, 2) := by decide +kernel
theorem dX5_last_42 : decode cX5_last 42 = .ok (.laload, 1) := by decide +kernel
theorem dX5_last_43 : decode cX5_last 43 = .ok (.lload_n 3, 1) := by decide +kernel
theorem dX5_last_44 : decode cX5_last 44 = .ok (.lcmp, 1) := by decide +kernel
theorem dX5_last_45 : decode cX5_last 45 = .ok (.ifCond .gt 23, 3) := by decide +kernel
theorem dX5_last_48 : decode cX5_last 48 = .ok (.iload 5, 2) := by decide +kernel
theorem dX5_last_50 : decode cX5_last 50 = .ok (.ifCond .eq 14, 3) := by decide +kernel
theorem dX5_last_53 : decode cX5_last 53 = .ok (.aload_n 0, 1) := by decide +kernel
theorem dX5_last_54 : decode cX5_last 54 = .ok (.iload 5, 2) := by decide +kernel
theorem dX5_last_56 : decode cX5_last 56 = .ok (.iload 6, 2) := by decide +kernel
theorem dX5_last_58 : decode cX5_last 58 = .ok (.invokevirtual 79, 3) := by decide +kernel
theorem dX5_last_61 : decode cX5_last 61 = .ok (.ifCond .eq 7, 3) := by decide +kernel
theorem dX5_last_64 : decode cX5_last 64 = .ok (.iload 6, 2) := by decide +kernel
theorem dX5_last_66 : decode cX5_last 66 = .ok (.istore 5, 2) := by decide +kernel
theorem dX5_last_68 : decode cX5_last 68 = .ok (.iinc 6 1, 3) := by decide +kernel
theorem dX5_last_71 : decode cX5_last 71 = .ok (.goto (-65), 3) := by decide +kernel
theorem dX5_last_74 : decode cX5_last 74 = .ok (.iload 5, 2) := by decide +kernel
theorem dX5_last_76 : decode cX5_last 76 = .ok (.ireturn, 1) := by decide +kernel
theorem dX5_at_0 : decode cX5_at 0 = .ok (.aload_n 0, 1) := by decide +kernel
theorem dX5_at_1 : decode cX5_at 1 = .ok (.iconst 0, 1) := by decide +kernel
theorem dX5_at_2 : decode cX5_at 2 = .ok (.putfield 46, 3) := by decide +kernel
theorem dX5_at_5 : decode cX5_at 5 = .ok (.aload_n 0, 1) := by decide +kernel
theorem dX5_at_6 : decode cX5_at 6 = .ok (.iload_n 1, 1) := by decide +kernel
theorem dX5_at_7 : decode cX5_at 7 = .ok (.iload_n 2, 1) := by decide +kernel
theorem dX5_at_8 : decode cX5_at 8 = .ok (.invokevirtual 66, 3) := by decide +kernel
theorem dX5_at_11 : decode cX5_at 11 = .ok (.ifCond .eq 13, 3) := by decide +kernel
theorem dX5_at_14 : decode cX5_at 14 = .ok (.aload_n 0, 1) := by decide +kernel
theorem dX5_at_15 : decode cX5_at 15 = .ok (.iload_n 1, 1) := by decide +kernel
theorem dX5_at_16 : decode cX5_at 16 = .ok (.iload_n 2, 1) := by decide +kernel
theorem dX5_at_17 : decode cX5_at 17 = .ok (.lload_n 3, 1) := by decide +kernel
theorem dX5_at_18 : decode cX5_at 18 = .ok (.invokevirtual 82, 3) := by decide +kernel
theorem dX5_at_21 : decode cX5_at 21 = .ok (.goto 4, 3) := by decide +kernel
theorem dX5_at_24 : decode cX5_at 24 = .ok (.iconst 0, 1) := by decide +kernel
theorem dX5_at_25 : decode cX5_at 25 = .ok (.istore 5, 2) := by decide +kernel
theorem dX5_at_27 : decode cX5_at 27 = .ok (.iload 5, 2) := by decide +kernel
theorem dX5_at_29 : decode cX5_at 29 = .ok (.ifCond .ne 7, 3) := by decide +kernel
theorem dX5_at_32 : decode cX5_at 32 = .ok (.iconst (-1), 1) := by decide +kernel
theorem dX5_at_33 : decode cX5_at 33 = .ok (.goto 10, 3) := by decide +kernel
theorem dX5_at_36 : decode cX5_at 36 = .ok (.aload_n 0, 1) := by decide +kernel
theorem dX5_at_37 : decode cX5_at 37 = .ok (.getfield 26, 3) := by decide +kernel
theorem dX5_at_40 : decode cX5_at 40 = .ok (.iload 5, 2) := by decide +kernel
theorem dX5_at_42 : decode cX5_at 42 = .ok (.iaload, 1) := by decide +kernel
theorem dX5_at_43 : decode cX5_at 43 = .ok (.ireturn, 1) := by decide +kernel
theorem dX5_stale_0 : decode cX5_stale 0 = .ok (.aload_n 0, 1) := by decide +kernel
theorem dX5_stale_1 : decode cX5_stale 1 = .ok (.iconst 0, 1) := by decide +kernel
theorem dX5_stale_2 : decode cX5_stale 2 = .ok (.putfield 46, 3) := by decide +kernel
theorem dX5_stale_5 : decode cX5_stale 5 = .ok (.aload_n 0, 1) := by decide +kernel
theorem dX5_stale_6 : decode cX5_stale 6 = .ok (.iload_n 1, 1) := by decide +kernel
theorem dX5_stale_7 : decode cX5_stale 7 = .ok (.iload 4, 2) := by decide +kernel
theorem dX5_stale_9 : decode cX5_stale 9 = .ok (.invokevirtual 66, 3) := by decide +kernel
theorem dX5_stale_12 : decode cX5_stale 12 = .ok (.ifCond .ne 5, 3) := by decide +kernel
theorem dX5_stale_15 : decode cX5_stale 15 = .ok (.iconst (-1), 1) := by decide +kernel
theorem dX5_stale_16 : decode cX5_stale 16 = .ok (.ireturn, 1) := by decide +kernel
theorem dX5_stale_17 : decode cX5_stale 17 = .ok (.aload_n 0, 1) := by decide +kernel
theorem dX5_stale_18 : decode cX5_stale 18 = .ok (.iload_n 1, 1) := by decide +kernel
theorem dX5_stale_19 : decode cX5_stale 19 = .ok (.iload 4, 2) := by decide +kernel
theorem dX5_stale_21 : decode cX5_stale 21 = .ok (.lload_n 2, 1) := by decide +kernel
theorem dX5_stale_22 : decode cX5_stale 22 = .ok (.invokevirtual 82, 3) := by decide +kernel
theorem dX5_stale_25 : decode cX5_stale 25 = .ok (.istore 5, 2) := by decide +kernel
theorem dX5_stale_27 : decode cX5_stale 27 = .ok (.aload_n 0, 1) := by decide +kernel
theorem dX5_stale_28 : decode cX5_stale 28 = .ok (.iload_n 1, 1) := by decide +kernel
theorem dX5_stale_29 : decode cX5_stale 29 = .ok (.iload 4, 2) := by decide +kernel
theorem dX5_stale_31 : decode cX5_stale 31 = .ok (.ldc2_w 86, 3) := by decide +kernel
theorem dX5_stale_34 : decode cX5_stale 34 = .ok (.invokevirtual 82, 3) := by decide +kernel
theorem dX5_stale_37 : decode cX5_stale 37 = .ok (.istore 6, 2) := by decide +kernel
theorem dX5_stale_39 : decode cX5_stale 39 = .ok (.iload 6, 2) := by decide +kernel
theorem dX5_stale_41 : decode cX5_stale 41 = .ok (.ifCond .eq 15, 3) := by decide +kernel
theorem dX5_stale_44 : decode cX5_stale 44 = .ok (.aload_n 0, 1) := by decide +kernel
theorem dX5_stale_45 : decode cX5_stale 45 = .ok (.getfield 32, 3) := by decide +kernel
theorem dX5_stale_48 : decode cX5_stale 48 = .ok (.iload 6, 2) := by decide +kernel
theorem dX5_stale_50 : decode cX5_stale 50 = .ok (.laload, 1) := by decide +kernel
theorem dX5_stale_51 : decode cX5_stale 51 = .ok (.lload_n 2, 1) := by decide +kernel
theorem dX5_stale_52 : decode cX5_stale 52 = .ok (.lcmp, 1) := by decide +kernel
theorem dX5_stale_53 : decode cX5_stale 53 = .ok (.ifCond .gt 5, 3) := by decide +kernel
theorem dX5_stale_56 : decode cX5_stale 56 = .ok (.iconst 1, 1) := by decide +kernel
theorem dX5_stale_57 : decode cX5_stale 57 = .ok (.ireturn, 1) := by decide +kernel
theorem dX5_stale_58 : decode cX5_stale 58 = .ok (.iload 5, 2) := by decide +kernel
theorem dX5_stale_60 : decode cX5_stale 60 = .ok (.ifCond .eq 24, 3) := by decide +kernel
theorem dX5_stale_63 : decode cX5_stale 63 = .ok (.aload_n 0, 1) := by decide +kernel
theorem dX5_stale_64 : decode cX5_stale 64 = .ok (.getfield 26, 3) := by decide +kernel
theorem dX5_stale_67 : decode cX5_stale 67 = .ok (.iload 5, 2) := by decide +kernel
theorem dX5_stale_69 : decode cX5_stale 69 = .ok (.iaload, 1) := by decide +kernel
theorem dX5_stale_70 : decode cX5_stale 70 = .ok (.aload_n 0, 1) := by decide +kernel
theorem dX5_stale_71 : decode cX5_stale 71 = .ok (.getfield 26, 3) := by decide +kernel
theorem dX5_stale_74 : decode cX5_stale 74 = .ok (.iload 6, 2) := by decide +kernel
theorem dX5_stale_76 : decode cX5_stale 76 = .ok (.iaload, 1) := by decide +kernel
theorem dX5_stale_77 : decode cX5_stale 77 = .ok (.if_icmp .ne 7, 3) := by decide +kernel
theorem dX5_stale_80 : decode cX5_stale 80 = .ok (.iconst 2, 1) := by decide +kernel
theorem dX5_stale_81 : decode cX5_stale 81 = .ok (.goto 4, 3) := by decide +kernel
theorem dX5_stale_84 : decode cX5_stale 84 = .ok (.iconst 0, 1) := by decide +kernel
theorem dX5_stale_85 : decode cX5_stale 85 = .ok (.ireturn, 1) := by decide +kernel
theorem dX5_isLeantOn_0 : decode cX5_isLeantOn 0 = .ok (.iconst 0, 1) := by decide +kernel
theorem dX5_isLeantOn_1 : decode cX5_isLeantOn 1 = .ok (.istore_n 3, 1) := by decide +kernel
theorem dX5_isLeantOn_2 : decode cX5_isLeantOn 2 = .ok (.iconst 1, 1) := by decide +kernel
theorem dX5_isLeantOn_3 : decode cX5_isLeantOn 3 = .ok (.istore 4, 2) := by decide +kernel
theorem dX5_isLeantOn_5 : decode cX5_isLeantOn 5 = .ok (.iload 4, 2) := by decide +kernel
theorem dX5_isLeantOn_7 : decode cX5_isLeantOn 7 = .ok (.aload_n 0, 1) := by decide +kernel
theorem dX5_isLeantOn_8 : decode cX5_isLeantOn 8 = .ok (.getfield 53, 3) := by decide +kernel
theorem dX5_isLeantOn_11 : decode cX5_isLeantOn 11 = .ok (.if_icmp .gt 60, 3) := by decide +kernel
theorem dX5_isLeantOn_14 : decode cX5_isLeantOn 14 = .ok (.iload_n 3, 1) := by decide +kernel
theorem dX5_isLeantOn_15 : decode cX5_isLeantOn 15 = .ok (.ifCond .ne 44, 3) := by decide +kernel
theorem dX5_isLeantOn_18 : decode cX5_isLeantOn 18 = .ok (.aload_n 0, 1) := by decide +kernel
theorem dX5_isLeantOn_19 : decode cX5_isLeantOn 19 = .ok (.getfield 43, 3) := by decide +kernel
theorem dX5_isLeantOn_22 : decode cX5_isLeantOn 22 = .ok (.sipush 201, 3) := by decide +kernel
theorem dX5_isLeantOn_25 : decode cX5_isLeantOn 25 = .ok (.iload 4, 2) := by decide +kernel
theorem dX5_isLeantOn_27 : decode cX5_isLeantOn 27 = .ok (.imul, 1) := by decide +kernel
theorem dX5_isLeantOn_28 : decode cX5_isLeantOn 28 = .ok (.iload_n 1, 1) := by decide +kernel
theorem dX5_isLeantOn_29 : decode cX5_isLeantOn 29 = .ok (.iadd, 1) := by decide +kernel
theorem dX5_isLeantOn_30 : decode cX5_isLeantOn 30 = .ok (.baload, 1) := by decide +kernel
theorem dX5_isLeantOn_31 : decode cX5_isLeantOn 31 = .ok (.ifCond .eq 32, 3) := by decide +kernel
theorem dX5_isLeantOn_34 : decode cX5_isLeantOn 34 = .ok (.aload_n 0, 1) := by decide +kernel
theorem dX5_isLeantOn_35 : decode cX5_isLeantOn 35 = .ok (.getfield 35, 3) := by decide +kernel
theorem dX5_isLeantOn_38 : decode cX5_isLeantOn 38 = .ok (.iload 4, 2) := by decide +kernel
theorem dX5_isLeantOn_40 : decode cX5_isLeantOn 40 = .ok (.baload, 1) := by decide +kernel
theorem dX5_isLeantOn_41 : decode cX5_isLeantOn 41 = .ok (.ifCond .ne 22, 3) := by decide +kernel
theorem dX5_isLeantOn_44 : decode cX5_isLeantOn 44 = .ok (.iload_n 2, 1) := by decide +kernel
theorem dX5_isLeantOn_45 : decode cX5_isLeantOn 45 = .ok (.ifCond .eq 14, 3) := by decide +kernel
theorem dX5_isLeantOn_48 : decode cX5_isLeantOn 48 = .ok (.aload_n 0, 1) := by decide +kernel
theorem dX5_isLeantOn_49 : decode cX5_isLeantOn 49 = .ok (.getfield 39, 3) := by decide +kernel
theorem dX5_isLeantOn_52 : decode cX5_isLeantOn 52 = .ok (.iload 4, 2) := by decide +kernel
theorem dX5_isLeantOn_54 : decode cX5_isLeantOn 54 = .ok (.iaload, 1) := by decide +kernel
theorem dX5_isLeantOn_55 : decode cX5_isLeantOn 55 = .ok (.iload_n 2, 1) := by decide +kernel
theorem dX5_isLeantOn_56 : decode cX5_isLeantOn 56 = .ok (.if_icmp .eq 7, 3) := by decide +kernel
theorem dX5_isLeantOn_59 : decode cX5_isLeantOn 59 = .ok (.iconst 1, 1) := by decide +kernel
theorem dX5_isLeantOn_60 : decode cX5_isLeantOn 60 = .ok (.goto 4, 3) := by decide +kernel
theorem dX5_isLeantOn_63 : decode cX5_isLeantOn 63 = .ok (.iconst 0, 1) := by decide +kernel
theorem dX5_isLeantOn_64 : decode cX5_isLeantOn 64 = .ok (.istore_n 3, 1) := by decide +kernel
theorem dX5_isLeantOn_65 : decode cX5_isLeantOn 65 = .ok (.iinc 4 1, 3) := by decide +kernel
theorem dX5_isLeantOn_68 : decode cX5_isLeantOn 68 = .ok (.goto (-63), 3) := by decide +kernel
theorem dX5_isLeantOn_71 : decode cX5_isLeantOn 71 = .ok (.iload_n 3, 1) := by decide +kernel
theorem dX5_isLeantOn_72 : decode cX5_isLeantOn 72 = .ok (.ireturn, 1) := by decide +kernel
theorem dX5_undo_0 : decode cX5_undo 0 = .ok (.aload_n 0, 1) := by decide +kernel
theorem dX5_undo_1 : decode cX5_undo 1 = .ok (.iconst 0, 1) := by decide +kernel
theorem dX5_undo_2 : decode cX5_undo 2 = .ok (.putfield 46, 3) := by decide +kernel
theorem dX5_undo_5 : decode cX5_undo 5 = .ok (.aload_n 0, 1) := by decide +kernel
theorem dX5_undo_6 : decode cX5_undo 6 = .ok (.iload_n 1, 1) := by decide +kernel
theorem dX5_undo_7 : decode cX5_undo 7 = .ok (.invokevirtual 88, 3) := by decide +kernel
theorem dX5_undo_10 : decode cX5_undo 10 = .ok (.ifCond .eq 21, 3) := by decide +kernel
theorem dX5_undo_13 : decode cX5_undo 13 = .ok (.aload_n 0, 1) := by decide +kernel
theorem dX5_undo_14 : decode cX5_undo 14 = .ok (.getfield 35, 3) := by decide +kernel
theorem dX5_undo_17 : decode cX5_undo 17 = .ok (.iload_n 1, 1) := by decide +kernel
theorem dX5_undo_18 : decode cX5_undo 18 = .ok (.baload, 1) := by decide +kernel
theorem dX5_undo_19 : decode cX5_undo 19 = .ok (.ifCond .ne 12, 3) := by decide +kernel
theorem dX5_undo_22 : decode cX5_undo 22 = .ok (.aload_n 0, 1) := by decide +kernel
theorem dX5_undo_23 : decode cX5_undo 23 = .ok (.iload_n 1, 1) := by decide +kernel
theorem dX5_undo_24 : decode cX5_undo 24 = .ok (.iconst 0, 1) := by decide +kernel
theorem dX5_undo_25 : decode cX5_undo 25 = .ok (.invokevirtual 91, 3) := by decide +kernel
theorem dX5_undo_28 : decode cX5_undo 28 = .ok (.ifCond .eq 5, 3) := by decide +kernel
theorem dX5_undo_31 : decode cX5_undo 31 = .ok (.iconst 0, 1) := by decide +kernel
theorem dX5_undo_32 : decode cX5_undo 32 = .ok (.ireturn, 1) := by decide +kernel
theorem dX5_undo_33 : decode cX5_undo 33 = .ok (.aload_n 0, 1) := by decide +kernel
theorem dX5_undo_34 : decode cX5_undo 34 = .ok (.getfield 35, 3) := by decide +kernel
theorem dX5_undo_37 : decode cX5_undo 37 = .ok (.iload_n 1, 1) := by decide +kernel
theorem dX5_undo_38 : decode cX5_undo 38 = .ok (.iconst 1, 1) := by decide +kernel
theorem dX5_undo_39 : decode cX5_undo 39 = .ok (.bastore, 1) := by decide +kernel
theorem dX5_undo_40 : decode cX5_undo 40 = .ok (.iconst 1, 1) := by decide +kernel
theorem dX5_undo_41 : decode cX5_undo 41 = .ok (.ireturn, 1) := by decide +kernel
theorem dX5_lean_0 : decode cX5_lean 0 = .ok (.aload_n 0, 1) := by decide +kernel
theorem dX5_lean_1 : decode cX5_lean 1 = .ok (.iconst 0, 1) := by decide +kernel
theorem dX5_lean_2 : decode cX5_lean 2 = .ok (.putfield 46, 3) := by decide +kernel
theorem dX5_lean_5 : decode cX5_lean 5 = .ok (.aload_n 0, 1) := by decide +kernel
theorem dX5_lean_6 : decode cX5_lean 6 = .ok (.iload_n 1, 1) := by decide +kernel
theorem dX5_lean_7 : decode cX5_lean 7 = .ok (.invokevirtual 88, 3) := by decide +kernel
theorem dX5_lean_10 : decode cX5_lean 10 = .ok (.ifCond .eq 31, 3) := by decide +kernel
theorem dX5_lean_13 : decode cX5_lean 13 = .ok (.aload_n 0, 1) := by decide +kernel
theorem dX5_lean_14 : decode cX5_lean 14 = .ok (.iload_n 2, 1) := by decide +kernel
theorem dX5_lean_15 : decode cX5_lean 15 = .ok (.invokevirtual 88, 3) := by decide +kernel
theorem dX5_lean_18 : decode cX5_lean 18 = .ok (.ifCond .eq 23, 3) := by decide +kernel
theorem dX5_lean_21 : decode cX5_lean 21 = .ok (.iload_n 2, 1) := by decide +kernel
theorem dX5_lean_22 : decode cX5_lean 22 = .ok (.iload_n 1, 1) := by decide +kernel
theorem dX5_lean_23 : decode cX5_lean 23 = .ok (.if_icmp .ge 18, 3) := by decide +kernel
theorem dX5_lean_26 : decode cX5_lean 26 = .ok (.aload_n 0, 1) := by decide +kernel
theorem dX5_lean_27 : decode cX5_lean 27 = .ok (.getfield 43, 3) := by decide +kernel
theorem dX5_lean_30 : decode cX5_lean 30 = .ok (.sipush 201, 3) := by decide +kernel
theorem dX5_lean_33 : decode cX5_lean 33 = .ok (.iload_n 1, 1) := by decide +kernel
theorem dX5_lean_34 : decode cX5_lean 34 = .ok (.imul, 1) := by decide +kernel
theorem dX5_lean_35 : decode cX5_lean 35 = .ok (.iload_n 2, 1) := by decide +kernel
theorem dX5_lean_36 : decode cX5_lean 36 = .ok (.iadd, 1) := by decide +kernel
theorem dX5_lean_37 : decode cX5_lean 37 = .ok (.baload, 1) := by decide +kernel
theorem dX5_lean_38 : decode cX5_lean 38 = .ok (.ifCond .eq 5, 3) := by decide +kernel
theorem dX5_lean_41 : decode cX5_lean 41 = .ok (.iconst 0, 1) := by decide +kernel
theorem dX5_lean_42 : decode cX5_lean 42 = .ok (.ireturn, 1) := by decide +kernel
theorem dX5_lean_43 : decode cX5_lean 43 = .ok (.aload_n 0, 1) := by decide +kernel
theorem dX5_lean_44 : decode cX5_lean 44 = .ok (.getfield 43, 3) := by decide +kernel
theorem dX5_lean_47 : decode cX5_lean 47 = .ok (.sipush 201, 3) := by decide +kernel
theorem dX5_lean_50 : decode cX5_lean 50 = .ok (.iload_n 1, 1) := by decide +kernel
theorem dX5_lean_51 : decode cX5_lean 51 = .ok (.imul, 1) := by decide +kernel
theorem dX5_lean_52 : decode cX5_lean 52 = .ok (.iload_n 2, 1) := by decide +kernel
theorem dX5_lean_53 : decode cX5_lean 53 = .ok (.iadd, 1) := by decide +kernel
theorem dX5_lean_54 : decode cX5_lean 54 = .ok (.iconst 1, 1) := by decide +kernel
theorem dX5_lean_55 : decode cX5_lean 55 = .ok (.bastore, 1) := by decide +kernel
theorem dX5_lean_56 : decode cX5_lean 56 = .ok (.iconst 1, 1) := by decide +kernel
theorem dX5_lean_57 : decode cX5_lean 57 = .ok (.ireturn, 1) := by decide +kernel
theorem dX5_lock_0 : decode cX5_lock 0 = .ok (.aload_n 0, 1) := by decide +kernel
theorem dX5_lock_1 : decode cX5_lock 1 = .ok (.iconst 0, 1) := by decide +kernel
theorem dX5_lock_2 : decode cX5_lock 2 = .ok (.putfield 46, 3) := by decide +kernel
theorem dX5_lock_5 : decode cX5_lock 5 = .ok (.aload_n 0, 1) := by decide +kernel
theorem dX5_lock_6 : decode cX5_lock 6 = .ok (.iload_n 1, 1) := by decide +kernel
theorem dX5_lock_7 : decode cX5_lock 7 = .ok (.invokevirtual 56, 3) := by decide +kernel
theorem dX5_lock_10 : decode cX5_lock 10 = .ok (.ifCond .eq 21, 3) := by decide +kernel
theorem dX5_lock_13 : decode cX5_lock 13 = .ok (.aload_n 0, 1) := by decide +kernel
theorem dX5_lock_14 : decode cX5_lock 14 = .ok (.iload_n 1, 1) := by decide +kernel
theorem dX5_lock_15 : decode cX5_lock 15 = .ok (.invokevirtual 72, 3) := by decide +kernel
theorem dX5_lock_18 : decode cX5_lock 18 = .ok (.ifCond .eq 15, 3) := by decide +kernel
theorem dX5_lock_21 : decode cX5_lock 21 = .ok (.aload_n 0, 1) := by decide +kernel
theorem dX5_lock_22 : decode cX5_lock 22 = .ok (.getfield 13, 3) := by decide +kernel
theorem dX5_lock_25 : decode cX5_lock 25 = .ok (.iload_n 1, 1) := by decide +kernel
theorem dX5_lock_26 : decode cX5_lock 26 = .ok (.iaload, 1) := by decide +kernel
theorem dX5_lock_27 : decode cX5_lock 27 = .ok (.iload_n 2, 1) := by decide +kernel
theorem dX5_lock_28 : decode cX5_lock 28 = .ok (.if_icmp .eq 5, 3) := by decide +kernel
theorem dX5_lock_31 : decode cX5_lock 31 = .ok (.iconst 0, 1) := by decide +kernel
theorem dX5_lock_32 : decode cX5_lock 32 = .ok (.ireturn, 1) := by decide +kernel
theorem dX5_lock_33 : decode cX5_lock 33 = .ok (.aload_n 0, 1) := by decide +kernel
theorem dX5_lock_34 : decode cX5_lock 34 = .ok (.getfield 13, 3) := by decide +kernel
theorem dX5_lock_37 : decode cX5_lock 37 = .ok (.iload_n 1, 1) := by decide +kernel
theorem dX5_lock_38 : decode cX5_lock 38 = .ok (.iload_n 2, 1) := by decide +kernel
theorem dX5_lock_39 : decode cX5_lock 39 = .ok (.iastore, 1) := by decide +kernel
theorem dX5_lock_40 : decode cX5_lock 40 = .ok (.aload_n 0, 1) := by decide +kernel
theorem dX5_lock_41 : decode cX5_lock 41 = .ok (.getfield 16, 3) := by decide +kernel
theorem dX5_lock_44 : decode cX5_lock 44 = .ok (.iload_n 1, 1) := by decide +kernel
theorem dX5_lock_45 : decode cX5_lock 45 = .ok (.lload_n 3, 1) := by decide +kernel
theorem dX5_lock_46 : decode cX5_lock 46 = .ok (.lastore, 1) := by decide +kernel
theorem dX5_lock_47 : decode cX5_lock 47 = .ok (.iconst 1, 1) := by decide +kernel
theorem dX5_lock_48 : decode cX5_lock 48 = .ok (.ireturn, 1) := by decide +kernel
theorem dX5_batch_0 : decode cX5_batch 0 = .ok (.aload_n 0, 1) := by decide +kernel
theorem dX5_batch_1 : decode cX5_batch 1 = .ok (.iconst 0, 1) := by decide +kernel
theorem dX5_batch_2 : decode cX5_batch 2 = .ok (.putfield 46, 3) := by decide +kernel
theorem dX5_batch_5 : decode cX5_batch 5 = .ok (.aload_n 0, 1) := by decide +kernel
theorem dX5_batch_6 : decode cX5_batch 6 = .ok (.iload_n 1, 1) := by decide +kernel
theorem dX5_batch_7 : decode cX5_batch 7 = .ok (.invokevirtual 88, 3) := by decide +kernel
theorem dX5_batch_10 : decode cX5_batch 10 = .ok (.ifCond .eq 25, 3) := by decide +kernel
theorem dX5_batch_13 : decode cX5_batch 13 = .ok (.aload_n 0, 1) := by decide +kernel
theorem dX5_batch_14 : decode cX5_batch 14 = .ok (.iload_n 2, 1) := by decide +kernel
theorem dX5_batch_15 : decode cX5_batch 15 = .ok (.invokevirtual 88, 3) := by decide +kernel
theorem dX5_batch_18 : decode cX5_batch 18 = .ok (.ifCond .eq 17, 3) := by decide +kernel
theorem dX5_batch_21 : decode cX5_batch 21 = .ok (.iload_n 1, 1) := by decide +kernel
theorem dX5_batch_22 : decode cX5_batch 22 = .ok (.iload_n 2, 1) := by decide +kernel
theorem dX5_batch_23 : decode cX5_batch 23 = .ok (.if_icmp .gt 12, 3) := by decide +kernel
theorem dX5_batch_26 : decode cX5_batch 26 = .ok (.aload_n 0, 1) := by decide +kernel
theorem dX5_batch_27 : decode cX5_batch 27 = .ok (.getfield 94, 3) := by decide +kernel
theorem dX5_batch_30 : decode cX5_batch 30 = .ok (.bipush 30, 2) := by decide +kernel
theorem dX5_batch_32 : decode cX5_batch 32 = .ok (.if_icmp .ne 5, 3) := by decide +kernel
theorem dX5_batch_35 : decode cX5_batch 35 = .ok (.iconst 0, 1) := by decide +kernel
theorem dX5_batch_36 : decode cX5_batch 36 = .ok (.ireturn, 1) := by decide +kernel
theorem dX5_batch_37 : decode cX5_batch 37 = .ok (.iload_n 1, 1) := by decide +kernel
theorem dX5_batch_38 : decode cX5_batch 38 = .ok (.istore_n 3, 1) := by decide +kernel
theorem dX5_batch_39 : decode cX5_batch 39 = .ok (.iload_n 3, 1) := by decide +kernel
theorem dX5_batch_40 : decode cX5_batch 40 = .ok (.iload_n 2, 1) := by decide +kernel
theorem dX5_batch_41 : decode cX5_batch 41 = .ok (.if_icmp .gt 20, 3) := by decide +kernel
theorem dX5_batch_44 : decode cX5_batch 44 = .ok (.aload_n 0, 1) := by decide +kernel
theorem dX5_batch_45 : decode cX5_batch 45 = .ok (.getfield 39, 3) := by decide +kernel
theorem dX5_batch_48 : decode cX5_batch 48 = .ok (.iload_n 3, 1) := by decide +kernel
theorem dX5_batch_49 : decode cX5_batch 49 = .ok (.iaload, 1) := by decide +kernel
theorem dX5_batch_50 : decode cX5_batch 50 = .ok (.ifCond .eq 5, 3) := by decide +kernel
theorem dX5_batch_53 : decode cX5_batch 53 = .ok (.iconst 0, 1) := by decide +kernel
theorem dX5_batch_54 : decode cX5_batch 54 = .ok (.ireturn, 1) := by decide +kernel
theorem dX5_batch_55 : decode cX5_batch 55 = .ok (.iinc 3 1, 3) := by decide +kernel
theorem dX5_batch_58 : decode cX5_batch 58 = .ok (.goto (-19), 3) := by decide +kernel
theorem dX5_batch_61 : decode cX5_batch 61 = .ok (.aload_n 0, 1) := by decide +kernel
theorem dX5_batch_62 : decode cX5_batch 62 = .ok (.dup, 1) := by decide +kernel
theorem dX5_batch_63 : decode cX5_batch 63 = .ok (.getfield 94, 3) := by decide +kernel
theorem dX5_batch_66 : decode cX5_batch 66 = .ok (.iconst 1, 1) := by decide +kernel
theorem dX5_batch_67 : decode cX5_batch 67 = .ok (.iadd, 1) := by decide +kernel
theorem dX5_batch_68 : decode cX5_batch 68 = .ok (.putfield 94, 3) := by decide +kernel
theorem dX5_batch_71 : decode cX5_batch 71 = .ok (.iload_n 1, 1) := by decide +kernel
theorem dX5_batch_72 : decode cX5_batch 72 = .ok (.istore_n 3, 1) := by decide +kernel
theorem dX5_batch_73 : decode cX5_batch 73 = .ok (.iload_n 3, 1) := by decide +kernel
theorem dX5_batch_74 : decode cX5_batch 74 = .ok (.iload_n 2, 1) := by decide +kernel
theorem dX5_batch_75 : decode cX5_batch 75 = .ok (.if_icmp .gt 19, 3) := by decide +kernel
theorem dX5_batch_78 : decode cX5_batch 78 = .ok (.aload_n 0, 1) := by decide +kernel
theorem dX5_batch_79 : decode cX5_batch 79 = .ok (.getfield 39, 3) := by decide +kernel
theorem dX5_batch_82 : decode cX5_batch 82 = .ok (.iload_n 3, 1) := by decide +kernel
theorem dX5_batch_83 : decode cX5_batch 83 = .ok (.aload_n 0, 1) := by decide +kernel
theorem dX5_batch_84 : decode cX5_batch 84 = .ok (.getfield 94, 3) := by decide +kernel
theorem dX5_batch_87 : decode cX5_batch 87 = .ok (.iastore, 1) := by decide +kernel
theorem dX5_batch_88 : decode cX5_batch 88 = .ok (.iinc 3 1, 3) := by decide +kernel
theorem dX5_batch_91 : decode cX5_batch 91 = .ok (.goto (-18), 3) := by decide +kernel
theorem dX5_batch_94 : decode cX5_batch 94 = .ok (.aload_n 0, 1) := by decide +kernel
theorem dX5_batch_95 : decode cX5_batch 95 = .ok (.getfield 94, 3) := by decide +kernel
theorem dX5_batch_98 : decode cX5_batch 98 = .ok (.ireturn, 1) := by decide +kernel
theorem dX5_drop_0 : decode cX5_drop 0 = .ok (.aload_n 0, 1) := by decide +kernel
theorem dX5_drop_1 : decode cX5_drop 1 = .ok (.iconst 0, 1) := by decide +kernel
theorem dX5_drop_2 : decode cX5_drop 2 = .ok (.putfield 46, 3) := by decide +kernel
theorem dX5_drop_5 : decode cX5_drop 5 = .ok (.iload_n 1, 1) := by decide +kernel
theorem dX5_drop_6 : decode cX5_drop 6 = .ok (.iconst 1, 1) := by decide +kernel
theorem dX5_drop_7 : decode cX5_drop 7 = .ok (.if_icmp .lt 11, 3) := by decide +kernel
theorem dX5_drop_10 : decode cX5_drop 10 = .ok (.iload_n 1, 1) := by decide +kernel
theorem dX5_drop_11 : decode cX5_drop 11 = .ok (.aload_n 0, 1) := by decide +kernel
theorem dX5_drop_12 : decode cX5_drop 12 = .ok (.getfield 94, 3) := by decide +kernel
theorem dX5_drop_15 : decode cX5_drop 15 = .ok (.if_icmp .le 5, 3) := by decide +kernel
theorem dX5_drop_18 : decode cX5_drop 18 = .ok (.iconst 0, 1) := by decide +kernel
theorem dX5_drop_19 : decode cX5_drop 19 = .ok (.ireturn, 1) := by decide +kernel
theorem dX5_drop_20 : decode cX5_drop 20 = .ok (.iconst 0, 1) := by decide +kernel
theorem dX5_drop_21 : decode cX5_drop 21 = .ok (.istore_n 2, 1) := by decide +kernel
theorem dX5_drop_22 : decode cX5_drop 22 = .ok (.iconst 0, 1) := by decide +kernel
theorem dX5_drop_23 : decode cX5_drop 23 = .ok (.istore_n 3, 1) := by decide +kernel
theorem dX5_drop_24 : decode cX5_drop 24 = .ok (.iconst 1, 1) := by decide +kernel
theorem dX5_drop_25 : decode cX5_drop 25 = .ok (.istore 4, 2) := by decide +kernel
theorem dX5_drop_27 : decode cX5_drop 27 = .ok (.iload 4, 2) := by decide +kernel
theorem dX5_drop_29 : decode cX5_drop 29 = .ok (.aload_n 0, 1) := by decide +kernel
theorem dX5_drop_30 : decode cX5_drop 30 = .ok (.getfield 53, 3) := by decide +kernel
theorem dX5_drop_33 : decode cX5_drop 33 = .ok (.if_icmp .gt 53, 3) := by decide +kernel
theorem dX5_drop_36 : decode cX5_drop 36 = .ok (.aload_n 0, 1) := by decide +kernel
theorem dX5_drop_37 : decode cX5_drop 37 = .ok (.getfield 39, 3) := by decide +kernel
theorem dX5_drop_40 : decode cX5_drop 40 = .ok (.iload 4, 2) := by decide +kernel
theorem dX5_drop_42 : decode cX5_drop 42 = .ok (.iaload, 1) := by decide +kernel
theorem dX5_drop_43 : decode cX5_drop 43 = .ok (.iload_n 1, 1) := by decide +kernel
theorem dX5_drop_44 : decode cX5_drop 44 = .ok (.if_icmp .ne 36, 3) := by decide +kernel
theorem dX5_drop_47 : decode cX5_drop 47 = .ok (.aload_n 0, 1) := by decide +kernel
theorem dX5_drop_48 : decode cX5_drop 48 = .ok (.getfield 35, 3) := by decide +kernel
theorem dX5_drop_51 : decode cX5_drop 51 = .ok (.iload 4, 2) := by decide +kernel
theorem dX5_drop_53 : decode cX5_drop 53 = .ok (.baload, 1) := by decide +kernel
theorem dX5_drop_54 : decode cX5_drop 54 = .ok (.ifCond .ne 26, 3) := by decide +kernel
theorem dX5_drop_57 : decode cX5_drop 57 = .ok (.iinc 2 1, 3) := by decide +kernel
theorem dX5_drop_60 : decode cX5_drop 60 = .ok (.iload_n 3, 1) := by decide +kernel
theorem dX5_drop_61 : decode cX5_drop 61 = .ok (.ifCond .ne 13, 3) := by decide +kernel
theorem dX5_drop_64 : decode cX5_drop 64 = .ok (.aload_n 0, 1) := by decide +kernel
theorem dX5_drop_65 : decode cX5_drop 65 = .ok (.iload 4, 2) := by decide +kernel
theorem dX5_drop_67 : decode cX5_drop 67 = .ok (.iload_n 1, 1) := by decide +kernel
theorem dX5_drop_68 : decode cX5_drop 68 = .ok (.invokevirtual 91, 3) := by decide +kernel
theorem dX5_drop_71 : decode cX5_drop 71 = .ok (.ifCond .eq 7, 3) := by decide +kernel
theorem dX5_drop_74 : decode cX5_drop 74 = .ok (.iconst 1, 1) := by decide +kernel
theorem dX5_drop_75 : decode cX5_drop 75 = .ok (.goto 4, 3) := by decide +kernel
theorem dX5_drop_78 : decode cX5_drop 78 = .ok (.iconst 0, 1) := by decide +kernel
theorem dX5_drop_79 : decode cX5_drop 79 = .ok (.istore_n 3, 1) := by decide +kernel
theorem dX5_drop_80 : decode cX5_drop 80 = .ok (.iinc 4 1, 3) := by decide +kernel
theorem dX5_drop_83 : decode cX5_drop 83 = .ok (.goto (-56), 3) := by decide +kernel
theorem dX5_drop_86 : decode cX5_drop 86 = .ok (.iload_n 3, 1) := by decide +kernel
theorem dX5_drop_87 : decode cX5_drop 87 = .ok (.ifCond .eq 5, 3) := by decide +kernel
theorem dX5_drop_90 : decode cX5_drop 90 = .ok (.iconst 0, 1) := by decide +kernel
theorem dX5_drop_91 : decode cX5_drop 91 = .ok (.ireturn, 1) := by decide +kernel
theorem dX5_drop_92 : decode cX5_drop 92 = .ok (.iconst 1, 1) := by decide +kernel
theorem dX5_drop_93 : decode cX5_drop 93 = .ok (.istore 4, 2) := by decide +kernel
theorem dX5_drop_95 : decode cX5_drop 95 = .ok (.iload 4, 2) := by decide +kernel
theorem dX5_drop_97 : decode cX5_drop 97 = .ok (.aload_n 0, 1) := by decide +kernel
theorem dX5_drop_98 : decode cX5_drop 98 = .ok (.getfield 53, 3) := by decide +kernel
theorem dX5_drop_101 : decode cX5_drop 101 = .ok (.if_icmp .gt 42, 3) := by decide +kernel
theorem dX5_drop_104 : decode cX5_drop 104 = .ok (.aload_n 0, 1) := by decide +kernel
theorem dX5_drop_105 : decode cX5_drop 105 = .ok (.getfield 35, 3) := by decide +kernel
theorem dX5_drop_108 : decode cX5_drop 108 = .ok (.iload 4, 2) := by decide +kernel
theorem dX5_drop_110 : decode cX5_drop 110 = .ok (.aload_n 0, 1) := by decide +kernel
theorem dX5_drop_111 : decode cX5_drop 111 = .ok (.getfield 35, 3) := by decide +kernel
theorem dX5_drop_114 : decode cX5_drop 114 = .ok (.iload 4, 2) := by decide +kernel
theorem dX5_drop_116 : decode cX5_drop 116 = .ok (.baload, 1) := by decide +kernel
theorem dX5_drop_117 : decode cX5_drop 117 = .ok (.ifCond .ne 14, 3) := by decide +kernel
theorem dX5_drop_120 : decode cX5_drop 120 = .ok (.aload_n 0, 1) := by decide +kernel
theorem dX5_drop_121 : decode cX5_drop 121 = .ok (.getfield 39, 3) := by decide +kernel
theorem dX5_drop_124 : decode cX5_drop 124 = .ok (.iload 4, 2) := by decide +kernel
theorem dX5_drop_126 : decode cX5_drop 126 = .ok (.iaload, 1) := by decide +kernel
theorem dX5_drop_127 : decode cX5_drop 127 = .ok (.iload_n 1, 1) := by decide +kernel
theorem dX5_drop_128 : decode cX5_drop 128 = .ok (.if_icmp .ne 7, 3) := by decide +kernel
theorem dX5_drop_131 : decode cX5_drop 131 = .ok (.iconst 1, 1) := by decide +kernel
theorem dX5_drop_132 : decode cX5_drop 132 = .ok (.goto 4, 3) := by decide +kernel
theorem dX5_drop_135 : decode cX5_drop 135 = .ok (.iconst 0, 1) := by decide +kernel
theorem dX5_drop_136 : decode cX5_drop 136 = .ok (.bastore, 1) := by decide +kernel
theorem dX5_drop_137 : decode cX5_drop 137 = .ok (.iinc 4 1, 3) := by decide +kernel
theorem dX5_drop_140 : decode cX5_drop 140 = .ok (.goto (-45), 3) := by decide +kernel
theorem dX5_drop_143 : decode cX5_drop 143 = .ok (.iload_n 2, 1) := by decide +kernel
theorem dX5_drop_144 : decode cX5_drop 144 = .ok (.ireturn, 1) := by decide +kernel
theorem dX5_conflict_0 : decode cX5_conflict 0 = .ok (.aload_n 0, 1) := by decide +kernel
theorem dX5_conflict_1 : decode cX5_conflict 1 = .ok (.iconst 0, 1) := by decide +kernel
theorem dX5_conflict_2 : decode cX5_conflict 2 = .ok (.putfield 46, 3) := by decide +kernel
theorem dX5_conflict_5 : decode cX5_conflict 5 = .ok (.iconst 0, 1) := by decide +kernel
theorem dX5_conflict_6 : decode cX5_conflict 6 = .ok (.istore_n 3, 1) := by decide +kernel
theorem dX5_conflict_7 : decode cX5_conflict 7 = .ok (.iconst 1, 1) := by decide +kernel
theorem dX5_conflict_8 : decode cX5_conflict 8 = .ok (.istore 4, 2) := by decide +kernel
theorem dX5_conflict_10 : decode cX5_conflict 10 = .ok (.iload 4, 2) := by decide +kernel
theorem dX5_conflict_12 : decode cX5_conflict 12 = .ok (.aload_n 0, 1) := by decide +kernel
theorem dX5_conflict_13 : decode cX5_conflict 13 = .ok (.getfield 53, 3) := by decide +kernel
theorem dX5_conflict_16 : decode cX5_conflict 16 = .ok (.if_icmp .gt 141, 3) := by decide +kernel
theorem dX5_conflict_19 : decode cX5_conflict 19 = .ok (.iload_n 1, 1) := by decide +kernel
theorem dX5_conflict_20 : decode cX5_conflict 20 = .ok (.ifCond .lt 137, 3) := by decide +kernel
theorem dX5_conflict_23 : decode cX5_conflict 23 = .ok (.iload 4, 2) := by decide +kernel
theorem dX5_conflict_25 : decode cX5_conflict 25 = .ok (.iconst 1, 1) := by decide +kernel
theorem dX5_conflict_26 : decode cX5_conflict 26 = .ok (.iadd, 1) := by decide +kernel
theorem dX5_conflict_27 : decode cX5_conflict 27 = .ok (.istore 5, 2) := by decide +kernel
theorem dX5_conflict_29 : decode cX5_conflict 29 = .ok (.iload 5, 2) := by decide +kernel
theorem dX5_conflict_31 : decode cX5_conflict 31 = .ok (.aload_n 0, 1) := by decide +kernel
theorem dX5_conflict_32 : decode cX5_conflict 32 = .ok (.getfield 53, 3) := by decide +kernel
theorem dX5_conflict_35 : decode cX5_conflict 35 = .ok (.if_icmp .gt 116, 3) := by decide +kernel
theorem dX5_conflict_38 : decode cX5_conflict 38 = .ok (.aload_n 0, 1) := by decide +kernel
theorem dX5_conflict_39 : decode cX5_conflict 39 = .ok (.getfield 35, 3) := by decide +kernel
theorem dX5_conflict_42 : decode cX5_conflict 42 = .ok (.iload 4, 2) := by decide +kernel
theorem dX5_conflict_44 : decode cX5_conflict 44 = .ok (.baload, 1) := by decide +kernel
theorem dX5_conflict_45 : decode cX5_conflict 45 = .ok (.ifCond .ne 100, 3) := by decide +kernel
theorem dX5_conflict_48 : decode cX5_conflict 48 = .ok (.aload_n 0, 1) := by decide +kernel
theorem dX5_conflict_49 : decode cX5_conflict 49 = .ok (.getfield 35, 3) := by decide +kernel
theorem dX5_conflict_52 : decode cX5_conflict 52 = .ok (.iload 5, 2) := by decide +kernel
theorem dX5_conflict_54 : decode cX5_conflict 54 = .ok (.baload, 1) := by decide +kernel
theorem dX5_conflict_55 : decode cX5_conflict 55 = .ok (.ifCond .ne 90, 3) := by decide +kernel
theorem dX5_conflict_58 : decode cX5_conflict 58 = .ok (.aload_n 0, 1) := by decide +kernel
theorem dX5_conflict_59 : decode cX5_conflict 59 = .ok (.iload 4, 2) := by decide +kernel
theorem dX5_conflict_61 : decode cX5_conflict 61 = .ok (.aload_n 0, 1) := by decide +kernel
theorem dX5_conflict_62 : decode cX5_conflict 62 = .ok (.getfield 20, 3) := by decide +kernel
theorem dX5_conflict_65 : decode cX5_conflict 65 = .ok (.iload 5, 2) := by decide +kernel
theorem dX5_conflict_67 : decode cX5_conflict 67 = .ok (.iaload, 1) := by decide +kernel
theorem dX5_conflict_68 : decode cX5_conflict 68 = .ok (.aload_n 0, 1) := by decide +kernel
theorem dX5_conflict_69 : decode cX5_conflict 69 = .ok (.getfield 23, 3) := by decide +kernel
theorem dX5_conflict_72 : decode cX5_conflict 72 = .ok (.iload 5, 2) := by decide +kernel
theorem dX5_conflict_74 : decode cX5_conflict 74 = .ok (.iaload, 1) := by decide +kernel
theorem dX5_conflict_75 : decode cX5_conflict 75 = .ok (.invokevirtual 75, 3) := by decide +kernel
theorem dX5_conflict_78 : decode cX5_conflict 78 = .ok (.ifCond .eq 67, 3) := by decide +kernel
theorem dX5_conflict_81 : decode cX5_conflict 81 = .ok (.aload_n 0, 1) := by decide +kernel
theorem dX5_conflict_82 : decode cX5_conflict 82 = .ok (.getfield 32, 3) := by decide +kernel
theorem dX5_conflict_85 : decode cX5_conflict 85 = .ok (.iload 4, 2) := by decide +kernel
theorem dX5_conflict_87 : decode cX5_conflict 87 = .ok (.laload, 1) := by decide +kernel
theorem dX5_conflict_88 : decode cX5_conflict 88 = .ok (.aload_n 0, 1) := by decide +kernel
theorem dX5_conflict_89 : decode cX5_conflict 89 = .ok (.getfield 32, 3) := by decide +kernel
theorem dX5_conflict_92 : decode cX5_conflict 92 = .ok (.iload 5, 2) := by decide +kernel
theorem dX5_conflict_94 : decode cX5_conflict 94 = .ok (.laload, 1) := by decide +kernel
theorem dX5_conflict_95 : decode cX5_conflict 95 = .ok (.lcmp, 1) := by decide +kernel
theorem dX5_conflict_96 : decode cX5_conflict 96 = .ok (.ifCond .ne 49, 3) := by decide +kernel
theorem dX5_conflict_99 : decode cX5_conflict 99 = .ok (.aload_n 0, 1) := by decide +kernel
theorem dX5_conflict_100 : decode cX5_conflict 100 = .ok (.getfield 26, 3) := by decide +kernel
theorem dX5_conflict_103 : decode cX5_conflict 103 = .ok (.iload 4, 2) := by decide +kernel
theorem dX5_conflict_105 : decode cX5_conflict 105 = .ok (.iaload, 1) := by decide +kernel
theorem dX5_conflict_106 : decode cX5_conflict 106 = .ok (.aload_n 0, 1) := by decide +kernel
theorem dX5_conflict_107 : decode cX5_conflict 107 = .ok (.getfield 26, 3) := by decide +kernel
theorem dX5_conflict_110 : decode cX5_conflict 110 = .ok (.iload 5, 2) := by decide +kernel
theorem dX5_conflict_112 : decode cX5_conflict 112 = .ok (.iaload, 1) := by decide +kernel
theorem dX5_conflict_113 : decode cX5_conflict 113 = .ok (.if_icmp .eq 32, 3) := by decide +kernel
theorem dX5_conflict_116 : decode cX5_conflict 116 = .ok (.iload_n 3, 1) := by decide +kernel
theorem dX5_conflict_117 : decode cX5_conflict 117 = .ok (.iload_n 1, 1) := by decide +kernel
theorem dX5_conflict_118 : decode cX5_conflict 118 = .ok (.if_icmp .ne 24, 3) := by decide +kernel
theorem dX5_conflict_121 : decode cX5_conflict 121 = .ok (.iload_n 2, 1) := by decide +kernel
theorem dX5_conflict_122 : decode cX5_conflict 122 = .ok (.ifCond .ne 8, 3) := by decide +kernel
theorem dX5_conflict_125 : decode cX5_conflict 125 = .ok (.iload 4, 2) := by decide +kernel
theorem dX5_conflict_127 : decode cX5_conflict 127 = .ok (.goto 14, 3) := by decide +kernel
theorem dX5_conflict_130 : decode cX5_conflict 130 = .ok (.iload_n 2, 1) := by decide +kernel
theorem dX5_conflict_131 : decode cX5_conflict 131 = .ok (.iconst 1, 1) := by decide +kernel
theorem dX5_conflict_132 : decode cX5_conflict 132 = .ok (.if_icmp .ne 8, 3) := by decide +kernel
theorem dX5_conflict_135 : decode cX5_conflict 135 = .ok (.iload 5, 2) := by decide +kernel
theorem dX5_conflict_137 : decode cX5_conflict 137 = .ok (.goto 4, 3) := by decide +kernel
theorem dX5_conflict_140 : decode cX5_conflict 140 = .ok (.iconst (-1), 1) := by decide +kernel
theorem dX5_conflict_141 : decode cX5_conflict 141 = .ok (.ireturn, 1) := by decide +kernel
theorem dX5_conflict_142 : decode cX5_conflict 142 = .ok (.iinc 3 1, 3) := by decide +kernel
theorem dX5_conflict_145 : decode cX5_conflict 145 = .ok (.iinc 5 1, 3) := by decide +kernel
theorem dX5_conflict_148 : decode cX5_conflict 148 = .ok (.goto (-119), 3) := by decide +kernel
theorem dX5_conflict_151 : decode cX5_conflict 151 = .ok (.iinc 4 1, 3) := by decide +kernel
theorem dX5_conflict_154 : decode cX5_conflict 154 = .ok (.goto (-144), 3) := by decide +kernel
theorem dX5_conflict_157 : decode cX5_conflict 157 = .ok (.iconst (-1), 1) := by decide +kernel
theorem dX5_conflict_158 : decode cX5_conflict 158 = .ok (.ireturn, 1) := by decide +kernel
theorem dX5_history_0 : decode cX5_history 0 = .ok (.aload_n 0, 1) := by decide +kernel
theorem dX5_history_1 : decode cX5_history 1 = .ok (.iconst 0, 1) := by decide +kernel
theorem dX5_history_2 : decode cX5_history 2 = .ok (.putfield 46, 3) := by decide +kernel
theorem dX5_history_5 : decode cX5_history 5 = .ok (.iconst 1, 1) := by decide +kernel
theorem dX5_history_6 : decode cX5_history 6 = .ok (.istore 4, 2) := by decide +kernel
theorem dX5_history_8 : decode cX5_history 8 = .ok (.iload 4, 2) := by decide +kernel
theorem dX5_history_10 : decode cX5_history 10 = .ok (.aload_n 0, 1) := by decide +kernel
theorem dX5_history_11 : decode cX5_history 11 = .ok (.getfield 53, 3) := by decide +kernel
theorem dX5_history_14 : decode cX5_history 14 = .ok (.if_icmp .gt 95, 3) := by decide +kernel
theorem dX5_history_17 : decode cX5_history 17 = .ok (.aload_n 0, 1) := by decide +kernel
theorem dX5_history_18 : decode cX5_history 18 = .ok (.iload_n 1, 1) := by decide +kernel
theorem dX5_history_19 : decode cX5_history 19 = .ok (.iload_n 2, 1) := by decide +kernel
theorem dX5_history_20 : decode cX5_history 20 = .ok (.invokevirtual 66, 3) := by decide +kernel
theorem dX5_history_23 : decode cX5_history 23 = .ok (.ifCond .eq 86, 3) := by decide +kernel
theorem dX5_history_26 : decode cX5_history 26 = .ok (.iload_n 3, 1) := by decide +kernel
theorem dX5_history_27 : decode cX5_history 27 = .ok (.ifCond .lt 82, 3) := by decide +kernel
theorem dX5_history_30 : decode cX5_history 30 = .ok (.aload_n 0, 1) := by decide +kernel
theorem dX5_history_31 : decode cX5_history 31 = .ok (.iload 4, 2) := by decide +kernel
theorem dX5_history_33 : decode cX5_history 33 = .ok (.iload_n 1, 1) := by decide +kernel
theorem dX5_history_34 : decode cX5_history 34 = .ok (.iload_n 2, 1) := by decide +kernel
theorem dX5_history_35 : decode cX5_history 35 = .ok (.invokevirtual 75, 3) := by decide +kernel
theorem dX5_history_38 : decode cX5_history 38 = .ok (.ifCond .eq 65, 3) := by decide +kernel
theorem dX5_history_41 : decode cX5_history 41 = .ok (.iconst 0, 1) := by decide +kernel
theorem dX5_history_42 : decode cX5_history 42 = .ok (.istore 5, 2) := by decide +kernel
theorem dX5_history_44 : decode cX5_history 44 = .ok (.iconst 1, 1) := by decide +kernel
theorem dX5_history_45 : decode cX5_history 45 = .ok (.istore 6, 2) := by decide +kernel
theorem dX5_history_47 : decode cX5_history 47 = .ok (.iload 6, 2) := by decide +kernel
theorem dX5_history_49 : decode cX5_history 49 = .ok (.aload_n 0, 1) := by decide +kernel
theorem dX5_history_50 : decode cX5_history 50 = .ok (.getfield 53, 3) := by decide +kernel
theorem dX5_history_53 : decode cX5_history 53 = .ok (.if_icmp .gt 41, 3) := by decide +kernel
theorem dX5_history_56 : decode cX5_history 56 = .ok (.iload 5, 2) := by decide +kernel
theorem dX5_history_58 : decode cX5_history 58 = .ok (.aload_n 0, 1) := by decide +kernel
theorem dX5_history_59 : decode cX5_history 59 = .ok (.iload 6, 2) := by decide +kernel
theorem dX5_history_61 : decode cX5_history 61 = .ok (.iload_n 1, 1) := by decide +kernel
theorem dX5_history_62 : decode cX5_history 62 = .ok (.iload_n 2, 1) := by decide +kernel
theorem dX5_history_63 : decode cX5_history 63 = .ok (.invokevirtual 75, 3) := by decide +kernel
theorem dX5_history_66 : decode cX5_history 66 = .ok (.ifCond .eq 18, 3) := by decide +kernel
theorem dX5_history_69 : decode cX5_history 69 = .ok (.aload_n 0, 1) := by decide +kernel
theorem dX5_history_70 : decode cX5_history 70 = .ok (.iload 6, 2) := by decide +kernel
theorem dX5_history_72 : decode cX5_history 72 = .ok (.iload 4, 2) := by decide +kernel
theorem dX5_history_74 : decode cX5_history 74 = .ok (.invokevirtual 79, 3) := by decide +kernel
theorem dX5_history_77 : decode cX5_history 77 = .ok (.ifCond .eq 7, 3) := by decide +kernel
theorem dX5_history_80 : decode cX5_history 80 = .ok (.iconst 1, 1) := by decide +kernel
theorem dX5_history_81 : decode cX5_history 81 = .ok (.goto 4, 3) := by decide +kernel
theorem dX5_history_84 : decode cX5_history 84 = .ok (.iconst 0, 1) := by decide +kernel
theorem dX5_history_85 : decode cX5_history 85 = .ok (.iadd, 1) := by decide +kernel
theorem dX5_history_86 : decode cX5_history 86 = .ok (.istore 5, 2) := by decide +kernel
theorem dX5_history_88 : decode cX5_history 88 = .ok (.iinc 6 1, 3) := by decide +kernel
theorem dX5_history_91 : decode cX5_history 91 = .ok (.goto (-44), 3) := by decide +kernel
theorem dX5_history_94 : decode cX5_history 94 = .ok (.iload 5, 2) := by decide +kernel
theorem dX5_history_96 : decode cX5_history 96 = .ok (.iload_n 3, 1) := by decide +kernel
theorem dX5_history_97 : decode cX5_history 97 = .ok (.if_icmp .ne 6, 3) := by decide +kernel
theorem dX5_history_100 : decode cX5_history 100 = .ok (.iload 4, 2) := by decide +kernel
theorem dX5_history_102 : decode cX5_history 102 = .ok (.ireturn, 1) := by decide +kernel
theorem dX5_history_103 : decode cX5_history 103 = .ok (.iinc 4 1, 3) := by decide +kernel
theorem dX5_history_106 : decode cX5_history 106 = .ok (.goto (-98), 3) := by decide +kernel
theorem dX5_history_109 : decode cX5_history 109 = .ok (.iconst 0, 1) := by decide +kernel
theorem dX5_history_110 : decode cX5_history 110 = .ok (.ireturn, 1) := by decide +kernel
