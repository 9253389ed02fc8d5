theorem dX4_init_0 : decode cX4_init 0 = .ok (.aload_n 0, 1) := by decide +kernel
theorem dX4_init_1 : decode cX4_init 1 = .ok (.invokespecial 1, 3) := by decide +kernel
theorem dX4_init_4 : decode cX4_init 4 = .ok (.aload_n 0, 1) := by decide +kernel
theorem dX4_init_5 : decode cX4_init 5 = .ok (.new 7, 3) := by decide +kernel
theorem dX4_init_8 : decode cX4_init 8 = .ok (.dup, 1) := by decide +kernel
theorem dX4_init_9 : decode cX4_init 9 = .ok (.invokespecial 9, 3) := by decide +kernel
theorem dX4_init_12 : decode cX4_init 12 = .ok (.putfield 10, 3) := by decide +kernel
theorem dX4_init_15 : decode cX4_init 15 = .ok (.aload_n 0, 1) := by decide +kernel
theorem dX4_init_16 : decode cX4_init 16 = .ok (.new 16, 3) := by decide +kernel
theorem dX4_init_19 : decode cX4_init 19 = .ok (.dup, 1) := by decide +kernel
theorem dX4_init_20 : decode cX4_init 20 = .ok (.invokespecial 18, 3) := by decide +kernel
theorem dX4_init_23 : decode cX4_init 23 = .ok (.putfield 19, 3) := by decide +kernel
theorem dX4_init_26 : decode cX4_init 26 = .ok (.aload_n 0, 1) := by decide +kernel
theorem dX4_init_27 : decode cX4_init 27 = .ok (.new 23, 3) := by decide +kernel
theorem dX4_init_30 : decode cX4_init 30 = .ok (.dup, 1) := by decide +kernel
theorem dX4_init_31 : decode cX4_init 31 = .ok (.invokespecial 25, 3) := by decide +kernel
theorem dX4_init_34 : decode cX4_init 34 = .ok (.putfield 26, 3) := by decide +kernel
theorem dX4_init_37 : decode cX4_init 37 = .ok (.aload_n 0, 1) := by decide +kernel
theorem dX4_init_38 : decode cX4_init 38 = .ok (.new 30, 3) := by decide +kernel
theorem dX4_init_41 : decode cX4_init 41 = .ok (.dup, 1) := by decide +kernel
theorem dX4_init_42 : decode cX4_init 42 = .ok (.invokespecial 32, 3) := by decide +kernel
theorem dX4_init_45 : decode cX4_init 45 = .ok (.putfield 33, 3) := by decide +kernel
theorem dX4_init_48 : decode cX4_init 48 = .ok (.return_, 1) := by decide +kernel
theorem dX4_record_0 : decode cX4_record 0 = .ok (.iload_n 1, 1) := by decide +kernel
theorem dX4_record_1 : decode cX4_record 1 = .ok (.ifCond .lt 8, 3) := by decide +kernel
theorem dX4_record_4 : decode cX4_record 4 = .ok (.iload_n 1, 1) := by decide +kernel
theorem dX4_record_5 : decode cX4_record 5 = .ok (.iconst 4, 1) := by decide +kernel
theorem dX4_record_6 : decode cX4_record 6 = .ok (.if_icmp .lt 5, 3) := by decide +kernel
theorem dX4_record_9 : decode cX4_record 9 = .ok (.iconst 0, 1) := by decide +kernel
theorem dX4_record_10 : decode cX4_record 10 = .ok (.ireturn, 1) := by decide +kernel
theorem dX4_record_11 : decode cX4_record 11 = .ok (.aload_n 0, 1) := by decide +kernel
theorem dX4_record_12 : decode cX4_record 12 = .ok (.getfield 10, 3) := by decide +kernel
theorem dX4_record_15 : decode cX4_record 15 = .ok (.iload_n 1, 1) := by decide +kernel
theorem dX4_record_16 : decode cX4_record 16 = .ok (.invokevirtual 37, 3) := by decide +kernel
theorem dX4_record_19 : decode cX4_record 19 = .ok (.ireturn, 1) := by decide +kernel
theorem dX4_act_0 : decode cX4_act 0 = .ok (.aload_n 0, 1) := by decide +kernel
theorem dX4_act_1 : decode cX4_act 1 = .ok (.iload_n 1, 1) := by decide +kernel
theorem dX4_act_2 : decode cX4_act 2 = .ok (.iload_n 2, 1) := by decide +kernel
theorem dX4_act_3 : decode cX4_act 3 = .ok (.invokevirtual 41, 3) := by decide +kernel
theorem dX4_act_6 : decode cX4_act 6 = .ok (.ifCond .eq 17, 3) := by decide +kernel
theorem dX4_act_9 : decode cX4_act 9 = .ok (.lload_n 3, 1) := by decide +kernel
theorem dX4_act_10 : decode cX4_act 10 = .ok (.lconst 0, 1) := by decide +kernel
theorem dX4_act_11 : decode cX4_act 11 = .ok (.lcmp, 1) := by decide +kernel
theorem dX4_act_12 : decode cX4_act 12 = .ok (.ifCond .lt 11, 3) := by decide +kernel
theorem dX4_act_15 : decode cX4_act 15 = .ok (.lload_n 3, 1) := by decide +kernel
theorem dX4_act_16 : decode cX4_act 16 = .ok (.ldc2_w 45, 3) := by decide +kernel
theorem dX4_act_19 : decode cX4_act 19 = .ok (.lcmp, 1) := by decide +kernel
theorem dX4_act_20 : decode cX4_act 20 = .ok (.ifCond .le 5, 3) := by decide +kernel
theorem dX4_act_23 : decode cX4_act 23 = .ok (.iconst 0, 1) := by decide +kernel
theorem dX4_act_24 : decode cX4_act 24 = .ok (.ireturn, 1) := by decide +kernel
theorem dX4_act_25 : decode cX4_act 25 = .ok (.aload_n 0, 1) := by decide +kernel
theorem dX4_act_26 : decode cX4_act 26 = .ok (.iload_n 1, 1) := by decide +kernel
theorem dX4_act_27 : decode cX4_act 27 = .ok (.invokevirtual 47, 3) := by decide +kernel
theorem dX4_act_30 : decode cX4_act 30 = .ok (.ifCond .ne 13, 3) := by decide +kernel
theorem dX4_act_33 : decode cX4_act 33 = .ok (.aload_n 0, 1) := by decide +kernel
theorem dX4_act_34 : decode cX4_act 34 = .ok (.iload_n 1, 1) := by decide +kernel
theorem dX4_act_35 : decode cX4_act 35 = .ok (.iload_n 2, 1) := by decide +kernel
theorem dX4_act_36 : decode cX4_act 36 = .ok (.lload_n 3, 1) := by decide +kernel
theorem dX4_act_37 : decode cX4_act 37 = .ok (.invokevirtual 51, 3) := by decide +kernel
theorem dX4_act_40 : decode cX4_act 40 = .ok (.ifCond .eq 5, 3) := by decide +kernel
theorem dX4_act_43 : decode cX4_act 43 = .ok (.iconst 0, 1) := by decide +kernel
theorem dX4_act_44 : decode cX4_act 44 = .ok (.ireturn, 1) := by decide +kernel
theorem dX4_act_45 : decode cX4_act 45 = .ok (.lload_n 3, 1) := by decide +kernel
theorem dX4_act_46 : decode cX4_act 46 = .ok (.l2i, 1) := by decide +kernel
theorem dX4_act_47 : decode cX4_act 47 = .ok (.istore 9, 2) := by decide +kernel
theorem dX4_act_49 : decode cX4_act 49 = .ok (.aload_n 0, 1) := by decide +kernel
theorem dX4_act_50 : decode cX4_act 50 = .ok (.getfield 19, 3) := by decide +kernel
theorem dX4_act_53 : decode cX4_act 53 = .ok (.iload_n 1, 1) := by decide +kernel
theorem dX4_act_54 : decode cX4_act 54 = .ok (.iload_n 2, 1) := by decide +kernel
theorem dX4_act_55 : decode cX4_act 55 = .ok (.iload 9, 2) := by decide +kernel
theorem dX4_act_57 : decode cX4_act 57 = .ok (.lload 5, 2) := by decide +kernel
theorem dX4_act_59 : decode cX4_act 59 = .ok (.lload 7, 2) := by decide +kernel
theorem dX4_act_61 : decode cX4_act 61 = .ok (.invokevirtual 55, 3) := by decide +kernel
theorem dX4_act_64 : decode cX4_act 64 = .ok (.istore 10, 2) := by decide +kernel
theorem dX4_act_66 : decode cX4_act 66 = .ok (.iload 10, 2) := by decide +kernel
theorem dX4_act_68 : decode cX4_act 68 = .ok (.ifCond .eq 6, 3) := by decide +kernel
theorem dX4_act_71 : decode cX4_act 71 = .ok (.iload 10, 2) := by decide +kernel
theorem dX4_act_73 : decode cX4_act 73 = .ok (.ireturn, 1) := by decide +kernel
theorem dX4_act_74 : decode cX4_act 74 = .ok (.aload_n 0, 1) := by decide +kernel
theorem dX4_act_75 : decode cX4_act 75 = .ok (.getfield 19, 3) := by decide +kernel
theorem dX4_act_78 : decode cX4_act 78 = .ok (.iload_n 1, 1) := by decide +kernel
theorem dX4_act_79 : decode cX4_act 79 = .ok (.iload_n 2, 1) := by decide +kernel
theorem dX4_act_80 : decode cX4_act 80 = .ok (.iload 9, 2) := by decide +kernel
theorem dX4_act_82 : decode cX4_act 82 = .ok (.lload 5, 2) := by decide +kernel
theorem dX4_act_84 : decode cX4_act 84 = .ok (.lload 7, 2) := by decide +kernel
theorem dX4_act_86 : decode cX4_act 86 = .ok (.invokevirtual 59, 3) := by decide +kernel
theorem dX4_act_89 : decode cX4_act 89 = .ok (.ireturn, 1) := by decide +kernel
theorem dX4_at_0 : decode cX4_at 0 = .ok (.aload_n 0, 1) := by decide +kernel
theorem dX4_at_1 : decode cX4_at 1 = .ok (.iload_n 1, 1) := by decide +kernel
theorem dX4_at_2 : decode cX4_at 2 = .ok (.iload_n 2, 1) := by decide +kernel
theorem dX4_at_3 : decode cX4_at 3 = .ok (.invokevirtual 41, 3) := by decide +kernel
theorem dX4_at_6 : decode cX4_at 6 = .ok (.ifCond .ne 5, 3) := by decide +kernel
theorem dX4_at_9 : decode cX4_at 9 = .ok (.iconst (-1), 1) := by decide +kernel
theorem dX4_at_10 : decode cX4_at 10 = .ok (.ireturn, 1) := by decide +kernel
theorem dX4_at_11 : decode cX4_at 11 = .ok (.aload_n 0, 1) := by decide +kernel
theorem dX4_at_12 : decode cX4_at 12 = .ok (.getfield 19, 3) := by decide +kernel
theorem dX4_at_15 : decode cX4_at 15 = .ok (.iload_n 1, 1) := by decide +kernel
theorem dX4_at_16 : decode cX4_at 16 = .ok (.iload_n 2, 1) := by decide +kernel
theorem dX4_at_17 : decode cX4_at 17 = .ok (.lload_n 3, 1) := by decide +kernel
theorem dX4_at_18 : decode cX4_at 18 = .ok (.invokevirtual 61, 3) := by decide +kernel
theorem dX4_at_21 : decode cX4_at 21 = .ok (.istore 5, 2) := by decide +kernel
theorem dX4_at_23 : decode cX4_at 23 = .ok (.iload 5, 2) := by decide +kernel
theorem dX4_at_25 : decode cX4_at 25 = .ok (.ifCond .ne 7, 3) := by decide +kernel
theorem dX4_at_28 : decode cX4_at 28 = .ok (.iconst (-1), 1) := by decide +kernel
theorem dX4_at_29 : decode cX4_at 29 = .ok (.goto 12, 3) := by decide +kernel
theorem dX4_at_32 : decode cX4_at 32 = .ok (.aload_n 0, 1) := by decide +kernel
theorem dX4_at_33 : decode cX4_at 33 = .ok (.getfield 19, 3) := by decide +kernel
theorem dX4_at_36 : decode cX4_at 36 = .ok (.iload 5, 2) := by decide +kernel
theorem dX4_at_38 : decode cX4_at 38 = .ok (.invokevirtual 65, 3) := by decide +kernel
theorem dX4_at_41 : decode cX4_at 41 = .ok (.ireturn, 1) := by decide +kernel
theorem dX4_stale_0 : decode cX4_stale 0 = .ok (.aload_n 0, 1) := by decide +kernel
theorem dX4_stale_1 : decode cX4_stale 1 = .ok (.iload_n 1, 1) := by decide +kernel
theorem dX4_stale_2 : decode cX4_stale 2 = .ok (.iload 4, 2) := by decide +kernel
theorem dX4_stale_4 : decode cX4_stale 4 = .ok (.invokevirtual 41, 3) := by decide +kernel
theorem dX4_stale_7 : decode cX4_stale 7 = .ok (.ifCond .ne 5, 3) := by decide +kernel
theorem dX4_stale_10 : decode cX4_stale 10 = .ok (.iconst (-1), 1) := by decide +kernel
theorem dX4_stale_11 : decode cX4_stale 11 = .ok (.ireturn, 1) := by decide +kernel
theorem dX4_stale_12 : decode cX4_stale 12 = .ok (.aload_n 0, 1) := by decide +kernel
theorem dX4_stale_13 : decode cX4_stale 13 = .ok (.getfield 19, 3) := by decide +kernel
theorem dX4_stale_16 : decode cX4_stale 16 = .ok (.iload_n 1, 1) := by decide +kernel
theorem dX4_stale_17 : decode cX4_stale 17 = .ok (.iload 4, 2) := by decide +kernel
theorem dX4_stale_19 : decode cX4_stale 19 = .ok (.aload_n 0, 1) := by decide +kernel
theorem dX4_stale_20 : decode cX4_stale 20 = .ok (.getfield 19, 3) := by decide +kernel
theorem dX4_stale_23 : decode cX4_stale 23 = .ok (.invokevirtual 68, 3) := by decide +kernel
theorem dX4_stale_26 : decode cX4_stale 26 = .ok (.invokevirtual 61, 3) := by decide +kernel
theorem dX4_stale_29 : decode cX4_stale 29 = .ok (.istore 5, 2) := by decide +kernel
theorem dX4_stale_31 : decode cX4_stale 31 = .ok (.iload 5, 2) := by decide +kernel
theorem dX4_stale_33 : decode cX4_stale 33 = .ok (.ifCond .eq 17, 3) := by decide +kernel
theorem dX4_stale_36 : decode cX4_stale 36 = .ok (.aload_n 0, 1) := by decide +kernel
theorem dX4_stale_37 : decode cX4_stale 37 = .ok (.getfield 19, 3) := by decide +kernel
theorem dX4_stale_40 : decode cX4_stale 40 = .ok (.iload 5, 2) := by decide +kernel
theorem dX4_stale_42 : decode cX4_stale 42 = .ok (.invokevirtual 72, 3) := by decide +kernel
theorem dX4_stale_45 : decode cX4_stale 45 = .ok (.lload_n 2, 1) := by decide +kernel
theorem dX4_stale_46 : decode cX4_stale 46 = .ok (.lcmp, 1) := by decide +kernel
theorem dX4_stale_47 : decode cX4_stale 47 = .ok (.ifCond .gt 5, 3) := by decide +kernel
theorem dX4_stale_50 : decode cX4_stale 50 = .ok (.iconst 1, 1) := by decide +kernel
theorem dX4_stale_51 : decode cX4_stale 51 = .ok (.ireturn, 1) := by decide +kernel
theorem dX4_stale_52 : decode cX4_stale 52 = .ok (.aload_n 0, 1) := by decide +kernel
theorem dX4_stale_53 : decode cX4_stale 53 = .ok (.getfield 19, 3) := by decide +kernel
theorem dX4_stale_56 : decode cX4_stale 56 = .ok (.iload_n 1, 1) := by decide +kernel
theorem dX4_stale_57 : decode cX4_stale 57 = .ok (.iload 4, 2) := by decide +kernel
theorem dX4_stale_59 : decode cX4_stale 59 = .ok (.lload_n 2, 1) := by decide +kernel
theorem dX4_stale_60 : decode cX4_stale 60 = .ok (.invokevirtual 61, 3) := by decide +kernel
theorem dX4_stale_63 : decode cX4_stale 63 = .ok (.istore 6, 2) := by decide +kernel
theorem dX4_stale_65 : decode cX4_stale 65 = .ok (.iload 6, 2) := by decide +kernel
theorem dX4_stale_67 : decode cX4_stale 67 = .ok (.ifCond .eq 28, 3) := by decide +kernel
theorem dX4_stale_70 : decode cX4_stale 70 = .ok (.aload_n 0, 1) := by decide +kernel
theorem dX4_stale_71 : decode cX4_stale 71 = .ok (.getfield 19, 3) := by decide +kernel
theorem dX4_stale_74 : decode cX4_stale 74 = .ok (.iload 6, 2) := by decide +kernel
theorem dX4_stale_76 : decode cX4_stale 76 = .ok (.invokevirtual 65, 3) := by decide +kernel
theorem dX4_stale_79 : decode cX4_stale 79 = .ok (.aload_n 0, 1) := by decide +kernel
theorem dX4_stale_80 : decode cX4_stale 80 = .ok (.getfield 19, 3) := by decide +kernel
theorem dX4_stale_83 : decode cX4_stale 83 = .ok (.iload 5, 2) := by decide +kernel
theorem dX4_stale_85 : decode cX4_stale 85 = .ok (.invokevirtual 65, 3) := by decide +kernel
theorem dX4_stale_88 : decode cX4_stale 88 = .ok (.if_icmp .ne 7, 3) := by decide +kernel
theorem dX4_stale_91 : decode cX4_stale 91 = .ok (.iconst 2, 1) := by decide +kernel
theorem dX4_stale_92 : decode cX4_stale 92 = .ok (.goto 4, 3) := by decide +kernel
theorem dX4_stale_95 : decode cX4_stale 95 = .ok (.iconst 0, 1) := by decide +kernel
theorem dX4_stale_96 : decode cX4_stale 96 = .ok (.ireturn, 1) := by decide +kernel
theorem dX4_undo_0 : decode cX4_undo 0 = .ok (.aload_n 0, 1) := by decide +kernel
theorem dX4_undo_1 : decode cX4_undo 1 = .ok (.getfield 19, 3) := by decide +kernel
theorem dX4_undo_4 : decode cX4_undo 4 = .ok (.iload_n 1, 1) := by decide +kernel
theorem dX4_undo_5 : decode cX4_undo 5 = .ok (.invokevirtual 76, 3) := by decide +kernel
theorem dX4_undo_8 : decode cX4_undo 8 = .ok (.ifCond .eq 22, 3) := by decide +kernel
theorem dX4_undo_11 : decode cX4_undo 11 = .ok (.aload_n 0, 1) := by decide +kernel
theorem dX4_undo_12 : decode cX4_undo 12 = .ok (.getfield 19, 3) := by decide +kernel
theorem dX4_undo_15 : decode cX4_undo 15 = .ok (.iload_n 1, 1) := by decide +kernel
theorem dX4_undo_16 : decode cX4_undo 16 = .ok (.invokevirtual 79, 3) := by decide +kernel
theorem dX4_undo_19 : decode cX4_undo 19 = .ok (.ifCond .eq 11, 3) := by decide +kernel
theorem dX4_undo_22 : decode cX4_undo 22 = .ok (.aload_n 0, 1) := by decide +kernel
theorem dX4_undo_23 : decode cX4_undo 23 = .ok (.iload_n 1, 1) := by decide +kernel
theorem dX4_undo_24 : decode cX4_undo 24 = .ok (.invokevirtual 82, 3) := by decide +kernel
theorem dX4_undo_27 : decode cX4_undo 27 = .ok (.ifCond .eq 5, 3) := by decide +kernel
theorem dX4_undo_30 : decode cX4_undo 30 = .ok (.iconst 0, 1) := by decide +kernel
theorem dX4_undo_31 : decode cX4_undo 31 = .ok (.ireturn, 1) := by decide +kernel
theorem dX4_undo_32 : decode cX4_undo 32 = .ok (.aload_n 0, 1) := by decide +kernel
theorem dX4_undo_33 : decode cX4_undo 33 = .ok (.getfield 19, 3) := by decide +kernel
theorem dX4_undo_36 : decode cX4_undo 36 = .ok (.iload_n 1, 1) := by decide +kernel
theorem dX4_undo_37 : decode cX4_undo 37 = .ok (.invokevirtual 85, 3) := by decide +kernel
theorem dX4_undo_40 : decode cX4_undo 40 = .ok (.iconst 1, 1) := by decide +kernel
theorem dX4_undo_41 : decode cX4_undo 41 = .ok (.ireturn, 1) := by decide +kernel
theorem dX4_lean_0 : decode cX4_lean 0 = .ok (.aload_n 0, 1) := by decide +kernel
theorem dX4_lean_1 : decode cX4_lean 1 = .ok (.getfield 19, 3) := by decide +kernel
theorem dX4_lean_4 : decode cX4_lean 4 = .ok (.iload_n 1, 1) := by decide +kernel
theorem dX4_lean_5 : decode cX4_lean 5 = .ok (.invokevirtual 76, 3) := by decide +kernel
theorem dX4_lean_8 : decode cX4_lean 8 = .ok (.ifCond .eq 31, 3) := by decide +kernel
theorem dX4_lean_11 : decode cX4_lean 11 = .ok (.aload_n 0, 1) := by decide +kernel
theorem dX4_lean_12 : decode cX4_lean 12 = .ok (.getfield 19, 3) := by decide +kernel
theorem dX4_lean_15 : decode cX4_lean 15 = .ok (.iload_n 2, 1) := by decide +kernel
theorem dX4_lean_16 : decode cX4_lean 16 = .ok (.invokevirtual 76, 3) := by decide +kernel
theorem dX4_lean_19 : decode cX4_lean 19 = .ok (.ifCond .eq 20, 3) := by decide +kernel
theorem dX4_lean_22 : decode cX4_lean 22 = .ok (.iload_n 2, 1) := by decide +kernel
theorem dX4_lean_23 : decode cX4_lean 23 = .ok (.iload_n 1, 1) := by decide +kernel
theorem dX4_lean_24 : decode cX4_lean 24 = .ok (.if_icmp .ge 15, 3) := by decide +kernel
theorem dX4_lean_27 : decode cX4_lean 27 = .ok (.aload_n 0, 1) := by decide +kernel
theorem dX4_lean_28 : decode cX4_lean 28 = .ok (.getfield 26, 3) := by decide +kernel
theorem dX4_lean_31 : decode cX4_lean 31 = .ok (.iload_n 1, 1) := by decide +kernel
theorem dX4_lean_32 : decode cX4_lean 32 = .ok (.iload_n 2, 1) := by decide +kernel
theorem dX4_lean_33 : decode cX4_lean 33 = .ok (.invokevirtual 89, 3) := by decide +kernel
theorem dX4_lean_36 : decode cX4_lean 36 = .ok (.ifCond .eq 5, 3) := by decide +kernel
theorem dX4_lean_39 : decode cX4_lean 39 = .ok (.iconst 0, 1) := by decide +kernel
theorem dX4_lean_40 : decode cX4_lean 40 = .ok (.ireturn, 1) := by decide +kernel
theorem dX4_lean_41 : decode cX4_lean 41 = .ok (.aload_n 0, 1) := by decide +kernel
theorem dX4_lean_42 : decode cX4_lean 42 = .ok (.getfield 26, 3) := by decide +kernel
theorem dX4_lean_45 : decode cX4_lean 45 = .ok (.iload_n 1, 1) := by decide +kernel
theorem dX4_lean_46 : decode cX4_lean 46 = .ok (.iload_n 2, 1) := by decide +kernel
theorem dX4_lean_47 : decode cX4_lean 47 = .ok (.invokevirtual 91, 3) := by decide +kernel
theorem dX4_lean_50 : decode cX4_lean 50 = .ok (.iconst 1, 1) := by decide +kernel
theorem dX4_lean_51 : decode cX4_lean 51 = .ok (.ireturn, 1) := by decide +kernel
theorem dX4_lock_0 : decode cX4_lock 0 = .ok (.aload_n 0, 1) := by decide +kernel
theorem dX4_lock_1 : decode cX4_lock 1 = .ok (.getfield 10, 3) := by decide +kernel
theorem dX4_lock_4 : decode cX4_lock 4 = .ok (.iload_n 1, 1) := by decide +kernel
theorem dX4_lock_5 : decode cX4_lock 5 = .ok (.invokevirtual 94, 3) := by decide +kernel
theorem dX4_lock_8 : decode cX4_lock 8 = .ok (.ifCond .eq 23, 3) := by decide +kernel
theorem dX4_lock_11 : decode cX4_lock 11 = .ok (.aload_n 0, 1) := by decide +kernel
theorem dX4_lock_12 : decode cX4_lock 12 = .ok (.iload_n 1, 1) := by decide +kernel
theorem dX4_lock_13 : decode cX4_lock 13 = .ok (.invokevirtual 47, 3) := by decide +kernel
theorem dX4_lock_16 : decode cX4_lock 16 = .ok (.ifCond .eq 17, 3) := by decide +kernel
theorem dX4_lock_19 : decode cX4_lock 19 = .ok (.aload_n 0, 1) := by decide +kernel
theorem dX4_lock_20 : decode cX4_lock 20 = .ok (.getfield 10, 3) := by decide +kernel
theorem dX4_lock_23 : decode cX4_lock 23 = .ok (.iload_n 1, 1) := by decide +kernel
theorem dX4_lock_24 : decode cX4_lock 24 = .ok (.invokevirtual 95, 3) := by decide +kernel
theorem dX4_lock_27 : decode cX4_lock 27 = .ok (.iload_n 2, 1) := by decide +kernel
theorem dX4_lock_28 : decode cX4_lock 28 = .ok (.if_icmp .eq 5, 3) := by decide +kernel
theorem dX4_lock_31 : decode cX4_lock 31 = .ok (.iconst 0, 1) := by decide +kernel
theorem dX4_lock_32 : decode cX4_lock 32 = .ok (.ireturn, 1) := by decide +kernel
theorem dX4_lock_33 : decode cX4_lock 33 = .ok (.aload_n 0, 1) := by decide +kernel
theorem dX4_lock_34 : decode cX4_lock 34 = .ok (.getfield 10, 3) := by decide +kernel
theorem dX4_lock_37 : decode cX4_lock 37 = .ok (.iload_n 1, 1) := by decide +kernel
theorem dX4_lock_38 : decode cX4_lock 38 = .ok (.iload_n 2, 1) := by decide +kernel
theorem dX4_lock_39 : decode cX4_lock 39 = .ok (.lload_n 3, 1) := by decide +kernel
theorem dX4_lock_40 : decode cX4_lock 40 = .ok (.invokevirtual 98, 3) := by decide +kernel
theorem dX4_lock_43 : decode cX4_lock 43 = .ok (.iconst 1, 1) := by decide +kernel
theorem dX4_lock_44 : decode cX4_lock 44 = .ok (.ireturn, 1) := by decide +kernel
theorem dX4_batch_0 : decode cX4_batch 0 = .ok (.aload_n 0, 1) := by decide +kernel
theorem dX4_batch_1 : decode cX4_batch 1 = .ok (.getfield 19, 3) := by decide +kernel
theorem dX4_batch_4 : decode cX4_batch 4 = .ok (.iload_n 1, 1) := by decide +kernel
theorem dX4_batch_5 : decode cX4_batch 5 = .ok (.invokevirtual 76, 3) := by decide +kernel
theorem dX4_batch_8 : decode cX4_batch 8 = .ok (.ifCond .eq 19, 3) := by decide +kernel
theorem dX4_batch_11 : decode cX4_batch 11 = .ok (.aload_n 0, 1) := by decide +kernel
theorem dX4_batch_12 : decode cX4_batch 12 = .ok (.getfield 19, 3) := by decide +kernel
theorem dX4_batch_15 : decode cX4_batch 15 = .ok (.iload_n 2, 1) := by decide +kernel
theorem dX4_batch_16 : decode cX4_batch 16 = .ok (.invokevirtual 76, 3) := by decide +kernel
theorem dX4_batch_19 : decode cX4_batch 19 = .ok (.ifCond .eq 8, 3) := by decide +kernel
theorem dX4_batch_22 : decode cX4_batch 22 = .ok (.iload_n 1, 1) := by decide +kernel
theorem dX4_batch_23 : decode cX4_batch 23 = .ok (.iload_n 2, 1) := by decide +kernel
theorem dX4_batch_24 : decode cX4_batch 24 = .ok (.if_icmp .le 5, 3) := by decide +kernel
theorem dX4_batch_27 : decode cX4_batch 27 = .ok (.iconst 0, 1) := by decide +kernel
theorem dX4_batch_28 : decode cX4_batch 28 = .ok (.ireturn, 1) := by decide +kernel
theorem dX4_batch_29 : decode cX4_batch 29 = .ok (.aload_n 0, 1) := by decide +kernel
theorem dX4_batch_30 : decode cX4_batch 30 = .ok (.getfield 33, 3) := by decide +kernel
theorem dX4_batch_33 : decode cX4_batch 33 = .ok (.iload_n 1, 1) := by decide +kernel
theorem dX4_batch_34 : decode cX4_batch 34 = .ok (.iload_n 2, 1) := by decide +kernel
theorem dX4_batch_35 : decode cX4_batch 35 = .ok (.invokevirtual 102, 3) := by decide +kernel
theorem dX4_batch_38 : decode cX4_batch 38 = .ok (.ireturn, 1) := by decide +kernel
theorem dX4_drop_0 : decode cX4_drop 0 = .ok (.aload_n 0, 1) := by decide +kernel
theorem dX4_drop_1 : decode cX4_drop 1 = .ok (.getfield 33, 3) := by decide +kernel
theorem dX4_drop_4 : decode cX4_drop 4 = .ok (.iload_n 1, 1) := by decide +kernel
theorem dX4_drop_5 : decode cX4_drop 5 = .ok (.invokevirtual 105, 3) := by decide +kernel
theorem dX4_drop_8 : decode cX4_drop 8 = .ok (.ifCond .eq 11, 3) := by decide +kernel
theorem dX4_drop_11 : decode cX4_drop 11 = .ok (.aload_n 0, 1) := by decide +kernel
theorem dX4_drop_12 : decode cX4_drop 12 = .ok (.iload_n 1, 1) := by decide +kernel
theorem dX4_drop_13 : decode cX4_drop 13 = .ok (.invokevirtual 106, 3) := by decide +kernel
theorem dX4_drop_16 : decode cX4_drop 16 = .ok (.ifCond .eq 5, 3) := by decide +kernel
theorem dX4_drop_19 : decode cX4_drop 19 = .ok (.iconst 0, 1) := by decide +kernel
theorem dX4_drop_20 : decode cX4_drop 20 = .ok (.ireturn, 1) := by decide +kernel
theorem dX4_drop_21 : decode cX4_drop 21 = .ok (.iconst 0, 1) := by decide +kernel
theorem dX4_drop_22 : decode cX4_drop 22 = .ok (.istore_n 2, 1) := by decide +kernel
theorem dX4_drop_23 : decode cX4_drop 23 = .ok (.aload_n 0, 1) := by decide +kernel
theorem dX4_drop_24 : decode cX4_drop 24 = .ok (.getfield 19, 3) := by decide +kernel
theorem dX4_drop_27 : decode cX4_drop 27 = .ok (.invokevirtual 109, 3) := by decide +kernel
theorem dX4_drop_30 : decode cX4_drop 30 = .ok (.istore_n 3, 1) := by decide +kernel
theorem dX4_drop_31 : decode cX4_drop 31 = .ok (.iload_n 3, 1) := by decide +kernel
theorem dX4_drop_32 : decode cX4_drop 32 = .ok (.iconst 1, 1) := by decide +kernel
theorem dX4_drop_33 : decode cX4_drop 33 = .ok (.if_icmp .lt 29, 3) := by decide +kernel
theorem dX4_drop_36 : decode cX4_drop 36 = .ok (.aload_n 0, 1) := by decide +kernel
theorem dX4_drop_37 : decode cX4_drop 37 = .ok (.iload_n 3, 1) := by decide +kernel
theorem dX4_drop_38 : decode cX4_drop 38 = .ok (.iload_n 1, 1) := by decide +kernel
theorem dX4_drop_39 : decode cX4_drop 39 = .ok (.invokevirtual 113, 3) := by decide +kernel
theorem dX4_drop_42 : decode cX4_drop 42 = .ok (.ifCond .eq 14, 3) := by decide +kernel
theorem dX4_drop_45 : decode cX4_drop 45 = .ok (.aload_n 0, 1) := by decide +kernel
theorem dX4_drop_46 : decode cX4_drop 46 = .ok (.getfield 19, 3) := by decide +kernel
theorem dX4_drop_49 : decode cX4_drop 49 = .ok (.iload_n 3, 1) := by decide +kernel
theorem dX4_drop_50 : decode cX4_drop 50 = .ok (.invokevirtual 85, 3) := by decide +kernel
theorem dX4_drop_53 : decode cX4_drop 53 = .ok (.iinc 2 1, 3) := by decide +kernel
theorem dX4_drop_56 : decode cX4_drop 56 = .ok (.iinc 3 (-1), 3) := by decide +kernel
theorem dX4_drop_59 : decode cX4_drop 59 = .ok (.goto (-28), 3) := by decide +kernel
theorem dX4_drop_62 : decode cX4_drop 62 = .ok (.iload_n 2, 1) := by decide +kernel
theorem dX4_drop_63 : decode cX4_drop 63 = .ok (.ireturn, 1) := by decide +kernel
theorem dX4_conflict_0 : decode cX4_conflict 0 = .ok (.iload_n 1, 1) := by decide +kernel
theorem dX4_conflict_1 : decode cX4_conflict 1 = .ok (.ifCond .lt 12, 3) := by decide +kernel
theorem dX4_conflict_4 : decode cX4_conflict 4 = .ok (.iload_n 2, 1) := by decide +kernel
theorem dX4_conflict_5 : decode cX4_conflict 5 = .ok (.ifCond .lt 8, 3) := by decide +kernel
theorem dX4_conflict_8 : decode cX4_conflict 8 = .ok (.iload_n 2, 1) := by decide +kernel
theorem dX4_conflict_9 : decode cX4_conflict 9 = .ok (.iconst 1, 1) := by decide +kernel
theorem dX4_conflict_10 : decode cX4_conflict 10 = .ok (.if_icmp .le 5, 3) := by decide +kernel
theorem dX4_conflict_13 : decode cX4_conflict 13 = .ok (.iconst (-1), 1) := by decide +kernel
theorem dX4_conflict_14 : decode cX4_conflict 14 = .ok (.ireturn, 1) := by decide +kernel
theorem dX4_conflict_15 : decode cX4_conflict 15 = .ok (.iload_n 1, 1) := by decide +kernel
theorem dX4_conflict_16 : decode cX4_conflict 16 = .ok (.istore_n 3, 1) := by decide +kernel
theorem dX4_conflict_17 : decode cX4_conflict 17 = .ok (.aload_n 0, 1) := by decide +kernel
theorem dX4_conflict_18 : decode cX4_conflict 18 = .ok (.getfield 19, 3) := by decide +kernel
theorem dX4_conflict_21 : decode cX4_conflict 21 = .ok (.invokevirtual 109, 3) := by decide +kernel
theorem dX4_conflict_24 : decode cX4_conflict 24 = .ok (.istore 4, 2) := by decide +kernel
theorem dX4_conflict_26 : decode cX4_conflict 26 = .ok (.iconst 1, 1) := by decide +kernel
theorem dX4_conflict_27 : decode cX4_conflict 27 = .ok (.istore 5, 2) := by decide +kernel
theorem dX4_conflict_29 : decode cX4_conflict 29 = .ok (.iload 5, 2) := by decide +kernel
theorem dX4_conflict_31 : decode cX4_conflict 31 = .ok (.iload 4, 2) := by decide +kernel
theorem dX4_conflict_33 : decode cX4_conflict 33 = .ok (.if_icmp .ge 61, 3) := by decide +kernel
theorem dX4_conflict_36 : decode cX4_conflict 36 = .ok (.iload 5, 2) := by decide +kernel
theorem dX4_conflict_38 : decode cX4_conflict 38 = .ok (.iconst 1, 1) := by decide +kernel
theorem dX4_conflict_39 : decode cX4_conflict 39 = .ok (.iadd, 1) := by decide +kernel
theorem dX4_conflict_40 : decode cX4_conflict 40 = .ok (.istore 6, 2) := by decide +kernel
theorem dX4_conflict_42 : decode cX4_conflict 42 = .ok (.iload 6, 2) := by decide +kernel
theorem dX4_conflict_44 : decode cX4_conflict 44 = .ok (.iload 4, 2) := by decide +kernel
theorem dX4_conflict_46 : decode cX4_conflict 46 = .ok (.if_icmp .gt 42, 3) := by decide +kernel
theorem dX4_conflict_49 : decode cX4_conflict 49 = .ok (.aload_n 0, 1) := by decide +kernel
theorem dX4_conflict_50 : decode cX4_conflict 50 = .ok (.getfield 19, 3) := by decide +kernel
theorem dX4_conflict_53 : decode cX4_conflict 53 = .ok (.iload 5, 2) := by decide +kernel
theorem dX4_conflict_55 : decode cX4_conflict 55 = .ok (.iload 6, 2) := by decide +kernel
theorem dX4_conflict_57 : decode cX4_conflict 57 = .ok (.invokevirtual 116, 3) := by decide +kernel
theorem dX4_conflict_60 : decode cX4_conflict 60 = .ok (.ifCond .eq 22, 3) := by decide +kernel
theorem dX4_conflict_63 : decode cX4_conflict 63 = .ok (.iload_n 3, 1) := by decide +kernel
theorem dX4_conflict_64 : decode cX4_conflict 64 = .ok (.ifCond .ne 15, 3) := by decide +kernel
theorem dX4_conflict_67 : decode cX4_conflict 67 = .ok (.iload_n 2, 1) := by decide +kernel
theorem dX4_conflict_68 : decode cX4_conflict 68 = .ok (.ifCond .ne 8, 3) := by decide +kernel
theorem dX4_conflict_71 : decode cX4_conflict 71 = .ok (.iload 5, 2) := by decide +kernel
theorem dX4_conflict_73 : decode cX4_conflict 73 = .ok (.goto 5, 3) := by decide +kernel
theorem dX4_conflict_76 : decode cX4_conflict 76 = .ok (.iload 6, 2) := by decide +kernel
theorem dX4_conflict_78 : decode cX4_conflict 78 = .ok (.ireturn, 1) := by decide +kernel
theorem dX4_conflict_79 : decode cX4_conflict 79 = .ok (.iinc 3 (-1), 3) := by decide +kernel
theorem dX4_conflict_82 : decode cX4_conflict 82 = .ok (.iinc 6 1, 3) := by decide +kernel
theorem dX4_conflict_85 : decode cX4_conflict 85 = .ok (.goto (-43), 3) := by decide +kernel
theorem dX4_conflict_88 : decode cX4_conflict 88 = .ok (.iinc 5 1, 3) := by decide +kernel
theorem dX4_conflict_91 : decode cX4_conflict 91 = .ok (.goto (-62), 3) := by decide +kernel
theorem dX4_conflict_94 : decode cX4_conflict 94 = .ok (.iconst (-1), 1) := by decide +kernel
theorem dX4_conflict_95 : decode cX4_conflict 95 = .ok (.ireturn, 1) := by decide +kernel
theorem dX4_history_0 : decode cX4_history 0 = .ok (.aload_n 0, 1) := by decide +kernel
theorem dX4_history_1 : decode cX4_history 1 = .ok (.iload_n 1, 1) := by decide +kernel
theorem dX4_history_2 : decode cX4_history 2 = .ok (.iload_n 2, 1) := by decide +kernel
theorem dX4_history_3 : decode cX4_history 3 = .ok (.invokevirtual 41, 3) := by decide +kernel
theorem dX4_history_6 : decode cX4_history 6 = .ok (.ifCond .eq 7, 3) := by decide +kernel
theorem dX4_history_9 : decode cX4_history 9 = .ok (.iload_n 3, 1) := by decide +kernel
theorem dX4_history_10 : decode cX4_history 10 = .ok (.ifCond .ge 5, 3) := by decide +kernel
theorem dX4_history_13 : decode cX4_history 13 = .ok (.iconst 0, 1) := by decide +kernel
theorem dX4_history_14 : decode cX4_history 14 = .ok (.ireturn, 1) := by decide +kernel
theorem dX4_history_15 : decode cX4_history 15 = .ok (.aload_n 0, 1) := by decide +kernel
theorem dX4_history_16 : decode cX4_history 16 = .ok (.getfield 19, 3) := by decide +kernel
theorem dX4_history_19 : decode cX4_history 19 = .ok (.iload_n 1, 1) := by decide +kernel
theorem dX4_history_20 : decode cX4_history 20 = .ok (.iload_n 2, 1) := by decide +kernel
theorem dX4_history_21 : decode cX4_history 21 = .ok (.iload_n 3, 1) := by decide +kernel
theorem dX4_history_22 : decode cX4_history 22 = .ok (.invokevirtual 119, 3) := by decide +kernel
theorem dX4_history_25 : decode cX4_history 25 = .ok (.ireturn, 1) := by decide +kernel
theorem dX4_hasField_0 : decode cX4_hasField 0 = .ok (.aload_n 0, 1) := by decide +kernel
theorem dX4_hasField_1 : decode cX4_hasField 1 = .ok (.getfield 10, 3) := by decide +kernel
theorem dX4_hasField_4 : decode cX4_hasField 4 = .ok (.iload_n 1, 1) := by decide +kernel
theorem dX4_hasField_5 : decode cX4_hasField 5 = .ok (.invokevirtual 94, 3) := by decide +kernel
theorem dX4_hasField_8 : decode cX4_hasField 8 = .ok (.ifCond .eq 17, 3) := by decide +kernel
theorem dX4_hasField_11 : decode cX4_hasField 11 = .ok (.iload_n 2, 1) := by decide +kernel
theorem dX4_hasField_12 : decode cX4_hasField 12 = .ok (.ifCond .lt 13, 3) := by decide +kernel
theorem dX4_hasField_15 : decode cX4_hasField 15 = .ok (.iload_n 2, 1) := by decide +kernel
theorem dX4_hasField_16 : decode cX4_hasField 16 = .ok (.bipush 8, 2) := by decide +kernel
theorem dX4_hasField_18 : decode cX4_hasField 18 = .ok (.if_icmp .ge 7, 3) := by decide +kernel
theorem dX4_hasField_21 : decode cX4_hasField 21 = .ok (.iconst 1, 1) := by decide +kernel
theorem dX4_hasField_22 : decode cX4_hasField 22 = .ok (.goto 4, 3) := by decide +kernel
theorem dX4_hasField_25 : decode cX4_hasField 25 = .ok (.iconst 0, 1) := by decide +kernel
theorem dX4_hasField_26 : decode cX4_hasField 26 = .ok (.ireturn, 1) := by decide +kernel
theorem dX4_isLocked_0 : decode cX4_isLocked 0 = .ok (.aload_n 0, 1) := by decide +kernel
theorem dX4_isLocked_1 : decode cX4_isLocked 1 = .ok (.getfield 19, 3) := by decide +kernel
theorem dX4_isLocked_4 : decode cX4_isLocked 4 = .ok (.invokevirtual 68, 3) := by decide +kernel
theorem dX4_isLocked_7 : decode cX4_isLocked 7 = .ok (.aload_n 0, 1) := by decide +kernel
theorem dX4_isLocked_8 : decode cX4_isLocked 8 = .ok (.getfield 10, 3) := by decide +kernel
theorem dX4_isLocked_11 : decode cX4_isLocked 11 = .ok (.iload_n 1, 1) := by decide +kernel
theorem dX4_isLocked_12 : decode cX4_isLocked 12 = .ok (.invokevirtual 123, 3) := by decide +kernel
theorem dX4_isLocked_15 : decode cX4_isLocked 15 = .ok (.lcmp, 1) := by decide +kernel
theorem dX4_isLocked_16 : decode cX4_isLocked 16 = .ok (.ifCond .ge 7, 3) := by decide +kernel
theorem dX4_isLocked_19 : decode cX4_isLocked 19 = .ok (.iconst 1, 1) := by decide +kernel
theorem dX4_isLocked_20 : decode cX4_isLocked 20 = .ok (.goto 4, 3) := by decide +kernel
theorem dX4_isLocked_23 : decode cX4_isLocked 23 = .ok (.iconst 0, 1) := by decide +kernel
theorem dX4_isLocked_24 : decode cX4_isLocked 24 = .ok (.ireturn, 1) := by decide +kernel
theorem dX4_isRefusedDeletion_0 : decode cX4_isRefusedDeletion 0 = .ok (.iload_n 2, 1) := by decide +kernel
theorem dX4_isRefusedDeletion_1 : decode cX4_isRefusedDeletion 1 = .ok (.ifCond .ne 25, 3) := by decide +kernel
theorem dX4_isRefusedDeletion_4 : decode cX4_isRefusedDeletion 4 = .ok (.lload_n 3, 1) := by decide +kernel
theorem dX4_isRefusedDeletion_5 : decode cX4_isRefusedDeletion 5 = .ok (.lconst 1, 1) := by decide +kernel
theorem dX4_isRefusedDeletion_6 : decode cX4_isRefusedDeletion 6 = .ok (.lcmp, 1) := by decide +kernel
theorem dX4_isRefusedDeletion_7 : decode cX4_isRefusedDeletion 7 = .ok (.ifCond .ne 19, 3) := by decide +kernel
theorem dX4_isRefusedDeletion_10 : decode cX4_isRefusedDeletion 10 = .ok (.aload_n 0, 1) := by decide +kernel
theorem dX4_isRefusedDeletion_11 : decode cX4_isRefusedDeletion 11 = .ok (.getfield 10, 3) := by decide +kernel
theorem dX4_isRefusedDeletion_14 : decode cX4_isRefusedDeletion 14 = .ok (.iload_n 1, 1) := by decide +kernel
theorem dX4_isRefusedDeletion_15 : decode cX4_isRefusedDeletion 15 = .ok (.invokevirtual 126, 3) := by decide +kernel
theorem dX4_isRefusedDeletion_18 : decode cX4_isRefusedDeletion 18 = .ok (.iconst 1, 1) := by decide +kernel
theorem dX4_isRefusedDeletion_19 : decode cX4_isRefusedDeletion 19 = .ok (.if_icmp .ne 7, 3) := by decide +kernel
theorem dX4_isRefusedDeletion_22 : decode cX4_isRefusedDeletion 22 = .ok (.iconst 1, 1) := by decide +kernel
theorem dX4_isRefusedDeletion_23 : decode cX4_isRefusedDeletion 23 = .ok (.goto 4, 3) := by decide +kernel
theorem dX4_isRefusedDeletion_26 : decode cX4_isRefusedDeletion 26 = .ok (.iconst 0, 1) := by decide +kernel
theorem dX4_isRefusedDeletion_27 : decode cX4_isRefusedDeletion 27 = .ok (.ireturn, 1) := by decide +kernel
theorem dX4_isLeanedOn_0 : decode cX4_isLeanedOn 0 = .ok (.iload_n 1, 1) := by decide +kernel
theorem dX4_isLeanedOn_1 : decode cX4_isLeanedOn 1 = .ok (.iconst 1, 1) := by decide +kernel
theorem dX4_isLeanedOn_2 : decode cX4_isLeanedOn 2 = .ok (.iadd, 1) := by decide +kernel
theorem dX4_isLeanedOn_3 : decode cX4_isLeanedOn 3 = .ok (.istore_n 2, 1) := by decide +kernel
theorem dX4_isLeanedOn_4 : decode cX4_isLeanedOn 4 = .ok (.iload_n 2, 1) := by decide +kernel
theorem dX4_isLeanedOn_5 : decode cX4_isLeanedOn 5 = .ok (.aload_n 0, 1) := by decide +kernel
theorem dX4_isLeanedOn_6 : decode cX4_isLeanedOn 6 = .ok (.getfield 19, 3) := by decide +kernel
theorem dX4_isLeanedOn_9 : decode cX4_isLeanedOn 9 = .ok (.invokevirtual 109, 3) := by decide +kernel
theorem dX4_isLeanedOn_12 : decode cX4_isLeanedOn 12 = .ok (.if_icmp .gt 34, 3) := by decide +kernel
theorem dX4_isLeanedOn_15 : decode cX4_isLeanedOn 15 = .ok (.aload_n 0, 1) := by decide +kernel
theorem dX4_isLeanedOn_16 : decode cX4_isLeanedOn 16 = .ok (.getfield 19, 3) := by decide +kernel
theorem dX4_isLeanedOn_19 : decode cX4_isLeanedOn 19 = .ok (.iload_n 2, 1) := by decide +kernel
theorem dX4_isLeanedOn_20 : decode cX4_isLeanedOn 20 = .ok (.invokevirtual 79, 3) := by decide +kernel
theorem dX4_isLeanedOn_23 : decode cX4_isLeanedOn 23 = .ok (.ifCond .eq 17, 3) := by decide +kernel
theorem dX4_isLeanedOn_26 : decode cX4_isLeanedOn 26 = .ok (.aload_n 0, 1) := by decide +kernel
theorem dX4_isLeanedOn_27 : decode cX4_isLeanedOn 27 = .ok (.getfield 26, 3) := by decide +kernel
theorem dX4_isLeanedOn_30 : decode cX4_isLeanedOn 30 = .ok (.iload_n 2, 1) := by decide +kernel
theorem dX4_isLeanedOn_31 : decode cX4_isLeanedOn 31 = .ok (.iload_n 1, 1) := by decide +kernel
theorem dX4_isLeanedOn_32 : decode cX4_isLeanedOn 32 = .ok (.invokevirtual 89, 3) := by decide +kernel
theorem dX4_isLeanedOn_35 : decode cX4_isLeanedOn 35 = .ok (.ifCond .eq 5, 3) := by decide +kernel
theorem dX4_isLeanedOn_38 : decode cX4_isLeanedOn 38 = .ok (.iconst 1, 1) := by decide +kernel
theorem dX4_isLeanedOn_39 : decode cX4_isLeanedOn 39 = .ok (.ireturn, 1) := by decide +kernel
theorem dX4_isLeanedOn_40 : decode cX4_isLeanedOn 40 = .ok (.iinc 2 1, 3) := by decide +kernel
theorem dX4_isLeanedOn_43 : decode cX4_isLeanedOn 43 = .ok (.goto (-39), 3) := by decide +kernel
theorem dX4_isLeanedOn_46 : decode cX4_isLeanedOn 46 = .ok (.iconst 0, 1) := by decide +kernel
theorem dX4_isLeanedOn_47 : decode cX4_isLeanedOn 47 = .ok (.ireturn, 1) := by decide +kernel
theorem dX4_isLeanedOnFromOutside_0 : decode cX4_isLeanedOnFromOutside 0 = .ok (.iconst 1, 1) := by decide +kernel
theorem dX4_isLeanedOnFromOutside_1 : decode cX4_isLeanedOnFromOutside 1 = .ok (.istore_n 2, 1) := by decide +kernel
theorem dX4_isLeanedOnFromOutside_2 : decode cX4_isLeanedOnFromOutside 2 = .ok (.iload_n 2, 1) := by decide +kernel
theorem dX4_isLeanedOnFromOutside_3 : decode cX4_isLeanedOnFromOutside 3 = .ok (.aload_n 0, 1) := by decide +kernel
theorem dX4_isLeanedOnFromOutside_4 : decode cX4_isLeanedOnFromOutside 4 = .ok (.getfield 19, 3) := by decide +kernel
theorem dX4_isLeanedOnFromOutside_7 : decode cX4_isLeanedOnFromOutside 7 = .ok (.invokevirtual 109, 3) := by decide +kernel
theorem dX4_isLeanedOnFromOutside_10 : decode cX4_isLeanedOnFromOutside 10 = .ok (.if_icmp .gt 29, 3) := by decide +kernel
theorem dX4_isLeanedOnFromOutside_13 : decode cX4_isLeanedOnFromOutside 13 = .ok (.aload_n 0, 1) := by decide +kernel
theorem dX4_isLeanedOnFromOutside_14 : decode cX4_isLeanedOnFromOutside 14 = .ok (.iload_n 2, 1) := by decide +kernel
theorem dX4_isLeanedOnFromOutside_15 : decode cX4_isLeanedOnFromOutside 15 = .ok (.iload_n 1, 1) := by decide +kernel
theorem dX4_isLeanedOnFromOutside_16 : decode cX4_isLeanedOnFromOutside 16 = .ok (.invokevirtual 113, 3) := by decide +kernel
theorem dX4_isLeanedOnFromOutside_19 : decode cX4_isLeanedOnFromOutside 19 = .ok (.ifCond .eq 14, 3) := by decide +kernel
theorem dX4_isLeanedOnFromOutside_22 : decode cX4_isLeanedOnFromOutside 22 = .ok (.aload_n 0, 1) := by decide +kernel
theorem dX4_isLeanedOnFromOutside_23 : decode cX4_isLeanedOnFromOutside 23 = .ok (.iload_n 2, 1) := by decide +kernel
theorem dX4_isLeanedOnFromOutside_24 : decode cX4_isLeanedOnFromOutside 24 = .ok (.iload_n 1, 1) := by decide +kernel
theorem dX4_isLeanedOnFromOutside_25 : decode cX4_isLeanedOnFromOutside 25 = .ok (.invokevirtual 129, 3) := by decide +kernel
theorem dX4_isLeanedOnFromOutside_28 : decode cX4_isLeanedOnFromOutside 28 = .ok (.ifCond .eq 5, 3) := by decide +kernel
theorem dX4_isLeanedOnFromOutside_31 : decode cX4_isLeanedOnFromOutside 31 = .ok (.iconst 1, 1) := by decide +kernel
theorem dX4_isLeanedOnFromOutside_32 : decode cX4_isLeanedOnFromOutside 32 = .ok (.ireturn, 1) := by decide +kernel
theorem dX4_isLeanedOnFromOutside_33 : decode cX4_isLeanedOnFromOutside 33 = .ok (.iinc 2 1, 3) := by decide +kernel
theorem dX4_isLeanedOnFromOutside_36 : decode cX4_isLeanedOnFromOutside 36 = .ok (.goto (-34), 3) := by decide +kernel
theorem dX4_isLeanedOnFromOutside_39 : decode cX4_isLeanedOnFromOutside 39 = .ok (.iconst 0, 1) := by decide +kernel
theorem dX4_isLeanedOnFromOutside_40 : decode cX4_isLeanedOnFromOutside 40 = .ok (.ireturn, 1) := by decide +kernel
theorem dX4_isLeanedOnOutside_0 : decode cX4_isLeanedOnOutside 0 = .ok (.iload_n 1, 1) := by decide +kernel
theorem dX4_isLeanedOnOutside_1 : decode cX4_isLeanedOnOutside 1 = .ok (.iconst 1, 1) := by decide +kernel
theorem dX4_isLeanedOnOutside_2 : decode cX4_isLeanedOnOutside 2 = .ok (.iadd, 1) := by decide +kernel
theorem dX4_isLeanedOnOutside_3 : decode cX4_isLeanedOnOutside 3 = .ok (.istore_n 3, 1) := by decide +kernel
theorem dX4_isLeanedOnOutside_4 : decode cX4_isLeanedOnOutside 4 = .ok (.iload_n 3, 1) := by decide +kernel
theorem dX4_isLeanedOnOutside_5 : decode cX4_isLeanedOnOutside 5 = .ok (.aload_n 0, 1) := by decide +kernel
theorem dX4_isLeanedOnOutside_6 : decode cX4_isLeanedOnOutside 6 = .ok (.getfield 19, 3) := by decide +kernel
theorem dX4_isLeanedOnOutside_9 : decode cX4_isLeanedOnOutside 9 = .ok (.invokevirtual 109, 3) := by decide +kernel
theorem dX4_isLeanedOnOutside_12 : decode cX4_isLeanedOnOutside 12 = .ok (.if_icmp .gt 46, 3) := by decide +kernel
theorem dX4_isLeanedOnOutside_15 : decode cX4_isLeanedOnOutside 15 = .ok (.aload_n 0, 1) := by decide +kernel
theorem dX4_isLeanedOnOutside_16 : decode cX4_isLeanedOnOutside 16 = .ok (.getfield 19, 3) := by decide +kernel
theorem dX4_isLeanedOnOutside_19 : decode cX4_isLeanedOnOutside 19 = .ok (.iload_n 3, 1) := by decide +kernel
theorem dX4_isLeanedOnOutside_20 : decode cX4_isLeanedOnOutside 20 = .ok (.invokevirtual 79, 3) := by decide +kernel
theorem dX4_isLeanedOnOutside_23 : decode cX4_isLeanedOnOutside 23 = .ok (.ifCond .eq 29, 3) := by decide +kernel
theorem dX4_isLeanedOnOutside_26 : decode cX4_isLeanedOnOutside 26 = .ok (.aload_n 0, 1) := by decide +kernel
theorem dX4_isLeanedOnOutside_27 : decode cX4_isLeanedOnOutside 27 = .ok (.getfield 33, 3) := by decide +kernel
theorem dX4_isLeanedOnOutside_30 : decode cX4_isLeanedOnOutside 30 = .ok (.iload_n 3, 1) := by decide +kernel
theorem dX4_isLeanedOnOutside_31 : decode cX4_isLeanedOnOutside 31 = .ok (.invokevirtual 132, 3) := by decide +kernel
theorem dX4_isLeanedOnOutside_34 : decode cX4_isLeanedOnOutside 34 = .ok (.iload_n 2, 1) := by decide +kernel
theorem dX4_isLeanedOnOutside_35 : decode cX4_isLeanedOnOutside 35 = .ok (.if_icmp .eq 17, 3) := by decide +kernel
theorem dX4_isLeanedOnOutside_38 : decode cX4_isLeanedOnOutside 38 = .ok (.aload_n 0, 1) := by decide +kernel
theorem dX4_isLeanedOnOutside_39 : decode cX4_isLeanedOnOutside 39 = .ok (.getfield 26, 3) := by decide +kernel
theorem dX4_isLeanedOnOutside_42 : decode cX4_isLeanedOnOutside 42 = .ok (.iload_n 3, 1) := by decide +kernel
theorem dX4_isLeanedOnOutside_43 : decode cX4_isLeanedOnOutside 43 = .ok (.iload_n 1, 1) := by decide +kernel
theorem dX4_isLeanedOnOutside_44 : decode cX4_isLeanedOnOutside 44 = .ok (.invokevirtual 89, 3) := by decide +kernel
theorem dX4_isLeanedOnOutside_47 : decode cX4_isLeanedOnOutside 47 = .ok (.ifCond .eq 5, 3) := by decide +kernel
theorem dX4_isLeanedOnOutside_50 : decode cX4_isLeanedOnOutside 50 = .ok (.iconst 1, 1) := by decide +kernel
theorem dX4_isLeanedOnOutside_51 : decode cX4_isLeanedOnOutside 51 = .ok (.ireturn, 1) := by decide +kernel
theorem dX4_isLeanedOnOutside_52 : decode cX4_isLeanedOnOutside 52 = .ok (.iinc 3 1, 3) := by decide +kernel
theorem dX4_isLeanedOnOutside_55 : decode cX4_isLeanedOnOutside 55 = .ok (.goto (-51), 3) := by decide +kernel
theorem dX4_isLeanedOnOutside_58 : decode cX4_isLeanedOnOutside 58 = .ok (.iconst 0, 1) := by decide +kernel
theorem dX4_isLeanedOnOutside_59 : decode cX4_isLeanedOnOutside 59 = .ok (.ireturn, 1) := by decide +kernel
theorem dX4_countsInBatch_0 : decode cX4_countsInBatch 0 = .ok (.aload_n 0, 1) := by decide +kernel
theorem dX4_countsInBatch_1 : decode cX4_countsInBatch 1 = .ok (.getfield 33, 3) := by decide +kernel
theorem dX4_countsInBatch_4 : decode cX4_countsInBatch 4 = .ok (.iload_n 1, 1) := by decide +kernel
theorem dX4_countsInBatch_5 : decode cX4_countsInBatch 5 = .ok (.invokevirtual 132, 3) := by decide +kernel
theorem dX4_countsInBatch_8 : decode cX4_countsInBatch 8 = .ok (.iload_n 2, 1) := by decide +kernel
theorem dX4_countsInBatch_9 : decode cX4_countsInBatch 9 = .ok (.if_icmp .ne 18, 3) := by decide +kernel
theorem dX4_countsInBatch_12 : decode cX4_countsInBatch 12 = .ok (.aload_n 0, 1) := by decide +kernel
theorem dX4_countsInBatch_13 : decode cX4_countsInBatch 13 = .ok (.getfield 19, 3) := by decide +kernel
theorem dX4_countsInBatch_16 : decode cX4_countsInBatch 16 = .ok (.iload_n 1, 1) := by decide +kernel
theorem dX4_countsInBatch_17 : decode cX4_countsInBatch 17 = .ok (.invokevirtual 79, 3) := by decide +kernel
theorem dX4_countsInBatch_20 : decode cX4_countsInBatch 20 = .ok (.ifCond .eq 7, 3) := by decide +kernel
theorem dX4_countsInBatch_23 : decode cX4_countsInBatch 23 = .ok (.iconst 1, 1) := by decide +kernel
theorem dX4_countsInBatch_24 : decode cX4_countsInBatch 24 = .ok (.goto 4, 3) := by decide +kernel
theorem dX4_countsInBatch_27 : decode cX4_countsInBatch 27 = .ok (.iconst 0, 1) := by decide +kernel
theorem dX4_countsInBatch_28 : decode cX4_countsInBatch 28 = .ok (.ireturn, 1) := by decide +kernel
theorem dX0_init_0 : decode cX0_init 0 = .ok (.aload_n 0, 1) := by decide +kernel
theorem dX0_init_1 : decode cX0_init 1 = .ok (.invokespecial 3, 3) := by decide +kernel
theorem dX0_init_4 : decode cX0_init 4 = .ok (.aload_n 0, 1) := by decide +kernel
theorem dX0_init_5 : decode cX0_init 5 = .ok (.sipush 201, 3) := by decide +kernel
theorem dX0_init_8 : decode cX0_init 8 = .ok (.newarray .int, 2) := by decide +kernel
theorem dX0_init_10 : decode cX0_init 10 = .ok (.putfield 9, 3) := by decide +kernel
theorem dX0_init_13 : decode cX0_init 13 = .ok (.aload_n 0, 1) := by decide +kernel
theorem dX0_init_14 : decode cX0_init 14 = .ok (.sipush 201, 3) := by decide +kernel
theorem dX0_init_17 : decode cX0_init 17 = .ok (.newarray .int, 2) := by decide +kernel
theorem dX0_init_19 : decode cX0_init 19 = .ok (.putfield 15, 3) := by decide +kernel
theorem dX0_init_22 : decode cX0_init 22 = .ok (.aload_n 0, 1) := by decide +kernel
theorem dX0_init_23 : decode cX0_init 23 = .ok (.sipush 201, 3) := by decide +kernel
theorem dX0_init_26 : decode cX0_init 26 = .ok (.newarray .int, 2) := by decide +kernel
theorem dX0_init_28 : decode cX0_init 28 = .ok (.putfield 18, 3) := by decide +kernel
theorem dX0_init_31 : decode cX0_init 31 = .ok (.aload_n 0, 1) := by decide +kernel
theorem dX0_init_32 : decode cX0_init 32 = .ok (.sipush 201, 3) := by decide +kernel
theorem dX0_init_35 : decode cX0_init 35 = .ok (.newarray .long, 2) := by decide +kernel
theorem dX0_init_37 : decode cX0_init 37 = .ok (.putfield 21, 3) := by decide +kernel
theorem dX0_init_40 : decode cX0_init 40 = .ok (.aload_n 0, 1) := by decide +kernel
theorem dX0_init_41 : decode cX0_init 41 = .ok (.sipush 201, 3) := by decide +kernel
theorem dX0_init_44 : decode cX0_init 44 = .ok (.newarray .long, 2) := by decide +kernel
theorem dX0_init_46 : decode cX0_init 46 = .ok (.putfield 25, 3) := by decide +kernel
theorem dX0_init_49 : decode cX0_init 49 = .ok (.aload_n 0, 1) := by decide +kernel
theorem dX0_init_50 : decode cX0_init 50 = .ok (.sipush 201, 3) := by decide +kernel
theorem dX0_init_53 : decode cX0_init 53 = .ok (.newarray .boolean, 2) := by decide +kernel
theorem dX0_init_55 : decode cX0_init 55 = .ok (.putfield 28, 3) := by decide +kernel
theorem dX0_init_58 : decode cX0_init 58 = .ok (.aload_n 0, 1) := by decide +kernel
theorem dX0_init_59 : decode cX0_init 59 = .ok (.sipush 201, 3) := by decide +kernel
theorem dX0_init_62 : decode cX0_init 62 = .ok (.newarray .int, 2) := by decide +kernel
theorem dX0_init_64 : decode cX0_init 64 = .ok (.putfield 32, 3) := by decide +kernel
theorem dX0_init_67 : decode cX0_init 67 = .ok (.aload_n 0, 1) := by decide +kernel
theorem dX0_init_68 : decode cX0_init 68 = .ok (.iconst 0, 1) := by decide +kernel
theorem dX0_init_69 : decode cX0_init 69 = .ok (.putfield 35, 3) := by decide +kernel
theorem dX0_init_72 : decode cX0_init 72 = .ok (.return_, 1) := by decide +kernel
theorem dX0_has_0 : decode cX0_has 0 = .ok (.iload_n 1, 1) := by decide +kernel
theorem dX0_has_1 : decode cX0_has 1 = .ok (.iconst 1, 1) := by decide +kernel
theorem dX0_has_2 : decode cX0_has 2 = .ok (.if_icmp .lt 15, 3) := by decide +kernel
theorem dX0_has_5 : decode cX0_has 5 = .ok (.iload_n 1, 1) := by decide +kernel
theorem dX0_has_6 : decode cX0_has 6 = .ok (.aload_n 0, 1) := by decide +kernel
theorem dX0_has_7 : decode cX0_has 7 = .ok (.getfield 35, 3) := by decide +kernel
theorem dX0_has_10 : decode cX0_has 10 = .ok (.if_icmp .gt 7, 3) := by decide +kernel
theorem dX0_has_13 : decode cX0_has 13 = .ok (.iconst 1, 1) := by decide +kernel
theorem dX0_has_14 : decode cX0_has 14 = .ok (.goto 4, 3) := by decide +kernel
theorem dX0_has_17 : decode cX0_has 17 = .ok (.iconst 0, 1) := by decide +kernel
theorem dX0_has_18 : decode cX0_has 18 = .ok (.ireturn, 1) := by decide +kernel
theorem dX0_count_0 : decode cX0_count 0 = .ok (.aload_n 0, 1) := by decide +kernel
theorem dX0_count_1 : decode cX0_count 1 = .ok (.getfield 35, 3) := by decide +kernel
theorem dX0_count_4 : decode cX0_count 4 = .ok (.ireturn, 1) := by decide +kernel
theorem dX0_counts_0 : decode cX0_counts 0 = .ok (.aload_n 0, 1) := by decide +kernel
theorem dX0_counts_1 : decode cX0_counts 1 = .ok (.getfield 28, 3) := by decide +kernel
theorem dX0_counts_4 : decode cX0_counts 4 = .ok (.iload_n 1, 1) := by decide +kernel
theorem dX0_counts_5 : decode cX0_counts 5 = .ok (.baload, 1) := by decide +kernel
theorem dX0_counts_6 : decode cX0_counts 6 = .ok (.ireturn, 1) := by decide +kernel
theorem dX0_value_0 : decode cX0_value 0 = .ok (.aload_n 0, 1) := by decide +kernel
theorem dX0_value_1 : decode cX0_value 1 = .ok (.getfield 18, 3) := by decide +kernel
theorem dX0_value_4 : decode cX0_value 4 = .ok (.iload_n 1, 1) := by decide +kernel
theorem dX0_value_5 : decode cX0_value 5 = .ok (.iaload, 1) := by decide +kernel
theorem dX0_value_6 : decode cX0_value 6 = .ok (.ireturn, 1) := by decide +kernel
theorem dX0_known_0 : decode cX0_known 0 = .ok (.aload_n 0, 1) := by decide +kernel
theorem dX0_known_1 : decode cX0_known 1 = .ok (.getfield 25, 3) := by decide +kernel
theorem dX0_known_4 : decode cX0_known 4 = .ok (.iload_n 1, 1) := by decide +kernel
theorem dX0_known_5 : decode cX0_known 5 = .ok (.laload, 1) := by decide +kernel
theorem dX0_known_6 : decode cX0_known 6 = .ok (.lreturn, 1) := by decide +kernel
theorem dX0_now_0 : decode cX0_now 0 = .ok (.aload_n 0, 1) := by decide +kernel
theorem dX0_now_1 : decode cX0_now 1 = .ok (.getfield 35, 3) := by decide +kernel
theorem dX0_now_4 : decode cX0_now 4 = .ok (.ifCond .ne 9, 3) := by decide +kernel
theorem dX0_now_7 : decode cX0_now 7 = .ok (.ldc2_w 39, 3) := by decide +kernel
theorem dX0_now_10 : decode cX0_now 10 = .ok (.goto 17, 3) := by decide +kernel
theorem dX0_now_13 : decode cX0_now 13 = .ok (.aload_n 0, 1) := by decide +kernel
theorem dX0_now_14 : decode cX0_now 14 = .ok (.getfield 25, 3) := by decide +kernel
theorem dX0_now_17 : decode cX0_now 17 = .ok (.aload_n 0, 1) := by decide +kernel
theorem dX0_now_18 : decode cX0_now 18 = .ok (.getfield 32, 3) := by decide +kernel
theorem dX0_now_21 : decode cX0_now 21 = .ok (.aload_n 0, 1) := by decide +kernel
theorem dX0_now_22 : decode cX0_now 22 = .ok (.getfield 35, 3) := by decide +kernel
theorem dX0_now_25 : decode cX0_now 25 = .ok (.iaload, 1) := by decide +kernel
theorem dX0_now_26 : decode cX0_now 26 = .ok (.laload, 1) := by decide +kernel
theorem dX0_now_27 : decode cX0_now 27 = .ok (.lreturn, 1) := by decide +kernel
theorem dX0_setUndone_0 : decode cX0_setUndone 0 = .ok (.aload_n 0, 1) := by decide +kernel
theorem dX0_setUndone_1 : decode cX0_setUndone 1 = .ok (.getfield 28, 3) := by decide +kernel
theorem dX0_setUndone_4 : decode cX0_setUndone 4 = .ok (.iload_n 1, 1) := by decide +kernel
theorem dX0_setUndone_5 : decode cX0_setUndone 5 = .ok (.iconst 0, 1) := by decide +kernel
theorem dX0_setUndone_6 : decode cX0_setUndone 6 = .ok (.bastore, 1) := by decide +kernel
theorem dX0_setUndone_7 : decode cX0_setUndone 7 = .ok (.return_, 1) := by decide +kernel
theorem dX0_add_0 : decode cX0_add 0 = .ok (.aload_n 0, 1) := by decide +kernel
theorem dX0_add_1 : decode cX0_add 1 = .ok (.getfield 35, 3) := by decide +kernel
theorem dX0_add_4 : decode cX0_add 4 = .ok (.sipush 200, 3) := by decide +kernel
theorem dX0_add_7 : decode cX0_add 7 = .ok (.if_icmp .lt 5, 3) := by decide +kernel
theorem dX0_add_10 : decode cX0_add 10 = .ok (.iconst 0, 1) := by decide +kernel
theorem dX0_add_11 : decode cX0_add 11 = .ok (.ireturn, 1) := by decide +kernel
theorem dX0_add_12 : decode cX0_add 12 = .ok (.aload_n 0, 1) := by decide +kernel
theorem dX0_add_13 : decode cX0_add 13 = .ok (.dup, 1) := by decide +kernel
theorem dX0_add_14 : decode cX0_add 14 = .ok (.getfield 35, 3) := by decide +kernel
theorem dX0_add_17 : decode cX0_add 17 = .ok (.iconst 1, 1) := by decide +kernel
theorem dX0_add_18 : decode cX0_add 18 = .ok (.iadd, 1) := by decide +kernel
theorem dX0_add_19 : decode cX0_add 19 = .ok (.putfield 35, 3) := by decide +kernel
theorem dX0_add_22 : decode cX0_add 22 = .ok (.aload_n 0, 1) := by decide +kernel
theorem dX0_add_23 : decode cX0_add 23 = .ok (.getfield 9, 3) := by decide +kernel
theorem dX0_add_26 : decode cX0_add 26 = .ok (.aload_n 0, 1) := by decide +kernel
theorem dX0_add_27 : decode cX0_add 27 = .ok (.getfield 35, 3) := by decide +kernel
theorem dX0_add_30 : decode cX0_add 30 = .ok (.iload_n 1, 1) := by decide +kernel
theorem dX0_add_31 : decode cX0_add 31 = .ok (.iastore, 1) := by decide +kernel
theorem dX0_add_32 : decode cX0_add 32 = .ok (.aload_n 0, 1) := by decide +kernel
theorem dX0_add_33 : decode cX0_add 33 = .ok (.getfield 15, 3) := by decide +kernel
theorem dX0_add_36 : decode cX0_add 36 = .ok (.aload_n 0, 1) := by decide +kernel
theorem dX0_add_37 : decode cX0_add 37 = .ok (.getfield 35, 3) := by decide +kernel
theorem dX0_add_40 : decode cX0_add 40 = .ok (.iload_n 2, 1) := by decide +kernel
theorem dX0_add_41 : decode cX0_add 41 = .ok (.iastore, 1) := by decide +kernel
theorem dX0_add_42 : decode cX0_add 42 = .ok (.aload_n 0, 1) := by decide +kernel
theorem dX0_add_43 : decode cX0_add 43 = .ok (.getfield 18, 3) := by decide +kernel
theorem dX0_add_46 : decode cX0_add 46 = .ok (.aload_n 0, 1) := by decide +kernel
theorem dX0_add_47 : decode cX0_add 47 = .ok (.getfield 35, 3) := by decide +kernel
theorem dX0_add_50 : decode cX0_add 50 = .ok (.iload_n 3, 1) := by decide +kernel
theorem dX0_add_51 : decode cX0_add 51 = .ok (.iastore, 1) := by decide +kernel
theorem dX0_add_52 : decode cX0_add 52 = .ok (.aload_n 0, 1) := by decide +kernel
theorem dX0_add_53 : decode cX0_add 53 = .ok (.getfield 21, 3) := by decide +kernel
theorem dX0_add_56 : decode cX0_add 56 = .ok (.aload_n 0, 1) := by decide +kernel
theorem dX0_add_57 : decode cX0_add 57 = .ok (.getfield 35, 3) := by decide +kernel
theorem dX0_add_60 : decode cX0_add 60 = .ok (.lload 4, 2) := by decide +kernel
theorem dX0_add_62 : decode cX0_add 62 = .ok (.lastore, 1) := by decide +kernel
theorem dX0_add_63 : decode cX0_add 63 = .ok (.aload_n 0, 1) := by decide +kernel
theorem dX0_add_64 : decode cX0_add 64 = .ok (.getfield 25, 3) := by decide +kernel
theorem dX0_add_67 : decode cX0_add 67 = .ok (.aload_n 0, 1) := by decide +kernel
theorem dX0_add_68 : decode cX0_add 68 = .ok (.getfield 35, 3) := by decide +kernel
theorem dX0_add_71 : decode cX0_add 71 = .ok (.lload 6, 2) := by decide +kernel
theorem dX0_add_73 : decode cX0_add 73 = .ok (.lastore, 1) := by decide +kernel
theorem dX0_add_74 : decode cX0_add 74 = .ok (.aload_n 0, 1) := by decide +kernel
theorem dX0_add_75 : decode cX0_add 75 = .ok (.getfield 28, 3) := by decide +kernel
theorem dX0_add_78 : decode cX0_add 78 = .ok (.aload_n 0, 1) := by decide +kernel
theorem dX0_add_79 : decode cX0_add 79 = .ok (.getfield 35, 3) := by decide +kernel
theorem dX0_add_82 : decode cX0_add 82 = .ok (.iconst 1, 1) := by decide +kernel
theorem dX0_add_83 : decode cX0_add 83 = .ok (.bastore, 1) := by decide +kernel
theorem dX0_add_84 : decode cX0_add 84 = .ok (.aload_n 0, 1) := by decide +kernel
theorem dX0_add_85 : decode cX0_add 85 = .ok (.invokevirtual 41, 3) := by decide +kernel
theorem dX0_add_88 : decode cX0_add 88 = .ok (.aload_n 0, 1) := by decide +kernel
theorem dX0_add_89 : decode cX0_add 89 = .ok (.getfield 35, 3) := by decide +kernel
theorem dX0_add_92 : decode cX0_add 92 = .ok (.ireturn, 1) := by decide +kernel
theorem dX0_putNewestInOrder_0 : decode cX0_putNewestInOrder 0 = .ok (.aload_n 0, 1) := by decide +kernel
theorem dX0_putNewestInOrder_1 : decode cX0_putNewestInOrder 1 = .ok (.getfield 35, 3) := by decide +kernel
theorem dX0_putNewestInOrder_4 : decode cX0_putNewestInOrder 4 = .ok (.istore_n 1, 1) := by decide +kernel
theorem dX0_putNewestInOrder_5 : decode cX0_putNewestInOrder 5 = .ok (.iload_n 1, 1) := by decide +kernel
theorem dX0_putNewestInOrder_6 : decode cX0_putNewestInOrder 6 = .ok (.iconst 1, 1) := by decide +kernel
theorem dX0_putNewestInOrder_7 : decode cX0_putNewestInOrder 7 = .ok (.if_icmp .le 42, 3) := by decide +kernel
theorem dX0_putNewestInOrder_10 : decode cX0_putNewestInOrder 10 = .ok (.aload_n 0, 1) := by decide +kernel
theorem dX0_putNewestInOrder_11 : decode cX0_putNewestInOrder 11 = .ok (.aload_n 0, 1) := by decide +kernel
theorem dX0_putNewestInOrder_12 : decode cX0_putNewestInOrder 12 = .ok (.getfield 32, 3) := by decide +kernel
theorem dX0_putNewestInOrder_15 : decode cX0_putNewestInOrder 15 = .ok (.iload_n 1, 1) := by decide +kernel
theorem dX0_putNewestInOrder_16 : decode cX0_putNewestInOrder 16 = .ok (.iconst 1, 1) := by decide +kernel
theorem dX0_putNewestInOrder_17 : decode cX0_putNewestInOrder 17 = .ok (.isub, 1) := by decide +kernel
theorem dX0_putNewestInOrder_18 : decode cX0_putNewestInOrder 18 = .ok (.iaload, 1) := by decide +kernel
theorem dX0_putNewestInOrder_19 : decode cX0_putNewestInOrder 19 = .ok (.aload_n 0, 1) := by decide +kernel
theorem dX0_putNewestInOrder_20 : decode cX0_putNewestInOrder 20 = .ok (.getfield 35, 3) := by decide +kernel
theorem dX0_putNewestInOrder_23 : decode cX0_putNewestInOrder 23 = .ok (.invokevirtual 44, 3) := by decide +kernel
theorem dX0_putNewestInOrder_26 : decode cX0_putNewestInOrder 26 = .ok (.ifCond .eq 23, 3) := by decide +kernel
theorem dX0_putNewestInOrder_29 : decode cX0_putNewestInOrder 29 = .ok (.aload_n 0, 1) := by decide +kernel
theorem dX0_putNewestInOrder_30 : decode cX0_putNewestInOrder 30 = .ok (.getfield 32, 3) := by decide +kernel
theorem dX0_putNewestInOrder_33 : decode cX0_putNewestInOrder 33 = .ok (.iload_n 1, 1) := by decide +kernel
theorem dX0_putNewestInOrder_34 : decode cX0_putNewestInOrder 34 = .ok (.aload_n 0, 1) := by decide +kernel
theorem dX0_putNewestInOrder_35 : decode cX0_putNewestInOrder 35 = .ok (.getfield 32, 3) := by decide +kernel
theorem dX0_putNewestInOrder_38 : decode cX0_putNewestInOrder 38 = .ok (.iload_n 1, 1) := by decide +kernel
theorem dX0_putNewestInOrder_39 : decode cX0_putNewestInOrder 39 = .ok (.iconst 1, 1) := by decide +kernel
theorem dX0_putNewestInOrder_40 : decode cX0_putNewestInOrder 40 = .ok (.isub, 1) := by decide +kernel
theorem dX0_putNewestInOrder_41 : decode cX0_putNewestInOrder 41 = .ok (.iaload, 1) := by decide +kernel
theorem dX0_putNewestInOrder_42 : decode cX0_putNewestInOrder 42 = .ok (.iastore, 1) := by decide +kernel
theorem dX0_putNewestInOrder_43 : decode cX0_putNewestInOrder 43 = .ok (.iinc 1 (-1), 3) := by decide +kernel
theorem dX0_putNewestInOrder_46 : decode cX0_putNewestInOrder 46 = .ok (.goto (-41), 3) := by decide +kernel
theorem dX0_putNewestInOrder_49 : decode cX0_putNewestInOrder 49 = .ok (.aload_n 0, 1) := by decide +kernel
theorem dX0_putNewestInOrder_50 : decode cX0_putNewestInOrder 50 = .ok (.getfield 32, 3) := by decide +kernel
theorem dX0_putNewestInOrder_53 : decode cX0_putNewestInOrder 53 = .ok (.iload_n 1, 1) := by decide +kernel
theorem dX0_putNewestInOrder_54 : decode cX0_putNewestInOrder 54 = .ok (.aload_n 0, 1) := by decide +kernel
theorem dX0_putNewestInOrder_55 : decode cX0_putNewestInOrder 55 = .ok (.getfield 35, 3) := by decide +kernel
theorem dX0_putNewestInOrder_58 : decode cX0_putNewestInOrder 58 = .ok (.iastore, 1) := by decide +kernel
theorem dX0_putNewestInOrder_59 : decode cX0_putNewestInOrder 59 = .ok (.return_, 1) := by decide +kernel
theorem dX0_isBehind_0 : decode cX0_isBehind 0 = .ok (.aload_n 0, 1) := by decide +kernel
theorem dX0_isBehind_1 : decode cX0_isBehind 1 = .ok (.getfield 25, 3) := by decide +kernel
theorem dX0_isBehind_4 : decode cX0_isBehind 4 = .ok (.iload_n 1, 1) := by decide +kernel
theorem dX0_isBehind_5 : decode cX0_isBehind 5 = .ok (.laload, 1) := by decide +kernel
theorem dX0_isBehind_6 : decode cX0_isBehind 6 = .ok (.aload_n 0, 1) := by decide +kernel
theorem dX0_isBehind_7 : decode cX0_isBehind 7 = .ok (.getfield 25, 3) := by decide +kernel
theorem dX0_isBehind_10 : decode cX0_isBehind 10 = .ok (.iload_n 2, 1) := by decide +kernel
theorem dX0_isBehind_11 : decode cX0_isBehind 11 = .ok (.laload, 1) := by decide +kernel
theorem dX0_isBehind_12 : decode cX0_isBehind 12 = .ok (.lcmp, 1) := by decide +kernel
theorem dX0_isBehind_13 : decode cX0_isBehind 13 = .ok (.ifCond .eq 25, 3) := by decide +kernel
theorem dX0_isBehind_16 : decode cX0_isBehind 16 = .ok (.aload_n 0, 1) := by decide +kernel
theorem dX0_isBehind_17 : decode cX0_isBehind 17 = .ok (.getfield 25, 3) := by decide +kernel
theorem dX0_isBehind_20 : decode cX0_isBehind 20 = .ok (.iload_n 1, 1) := by decide +kernel
theorem dX0_isBehind_21 : decode cX0_isBehind 21 = .ok (.laload, 1) := by decide +kernel
theorem dX0_isBehind_22 : decode cX0_isBehind 22 = .ok (.aload_n 0, 1) := by decide +kernel
theorem dX0_isBehind_23 : decode cX0_isBehind 23 = .ok (.getfield 25, 3) := by decide +kernel
theorem dX0_isBehind_26 : decode cX0_isBehind 26 = .ok (.iload_n 2, 1) := by decide +kernel
theorem dX0_isBehind_27 : decode cX0_isBehind 27 = .ok (.laload, 1) := by decide +kernel
theorem dX0_isBehind_28 : decode cX0_isBehind 28 = .ok (.lcmp, 1) := by decide +kernel
theorem dX0_isBehind_29 : decode cX0_isBehind 29 = .ok (.ifCond .le 7, 3) := by decide +kernel
theorem dX0_isBehind_32 : decode cX0_isBehind 32 = .ok (.iconst 1, 1) := by decide +kernel
theorem dX0_isBehind_33 : decode cX0_isBehind 33 = .ok (.goto 4, 3) := by decide +kernel
theorem dX0_isBehind_36 : decode cX0_isBehind 36 = .ok (.iconst 0, 1) := by decide +kernel
theorem dX0_isBehind_37 : decode cX0_isBehind 37 = .ok (.ireturn, 1) := by decide +kernel
theorem dX0_isBehind_38 : decode cX0_isBehind 38 = .ok (.aload_n 0, 1) := by decide +kernel
theorem dX0_isBehind_39 : decode cX0_isBehind 39 = .ok (.getfield 21, 3) := by decide +kernel
theorem dX0_isBehind_42 : decode cX0_isBehind 42 = .ok (.iload_n 1, 1) := by decide +kernel
theorem dX0_isBehind_43 : decode cX0_isBehind 43 = .ok (.laload, 1) := by decide +kernel
theorem dX0_isBehind_44 : decode cX0_isBehind 44 = .ok (.aload_n 0, 1) := by decide +kernel
theorem dX0_isBehind_45 : decode cX0_isBehind 45 = .ok (.getfield 21, 3) := by decide +kernel
theorem dX0_isBehind_48 : decode cX0_isBehind 48 = .ok (.iload_n 2, 1) := by decide +kernel
theorem dX0_isBehind_49 : decode cX0_isBehind 49 = .ok (.laload, 1) := by decide +kernel
theorem dX0_isBehind_50 : decode cX0_isBehind 50 = .ok (.lcmp, 1) := by decide +kernel
theorem dX0_isBehind_51 : decode cX0_isBehind 51 = .ok (.ifCond .le 7, 3) := by decide +kernel
theorem dX0_isBehind_54 : decode cX0_isBehind 54 = .ok (.iconst 1, 1) := by decide +kernel
theorem dX0_isBehind_55 : decode cX0_isBehind 55 = .ok (.goto 4, 3) := by decide +kernel
theorem dX0_isBehind_58 : decode cX0_isBehind 58 = .ok (.iconst 0, 1) := by decide +kernel
theorem dX0_isBehind_59 : decode cX0_isBehind 59 = .ok (.ireturn, 1) := by decide +kernel
theorem dX0_findCounting_0 : decode cX0_findCounting 0 = .ok (.iconst 1, 1) := by decide +kernel
theorem dX0_findCounting_1 : decode cX0_findCounting 1 = .ok (.istore 8, 2) := by decide +kernel
theorem dX0_findCounting_3 : decode cX0_findCounting 3 = .ok (.iload 8, 2) := by decide +kernel
theorem dX0_findCounting_5 : decode cX0_findCounting 5 = .ok (.aload_n 0, 1) := by decide +kernel
theorem dX0_findCounting_6 : decode cX0_findCounting 6 = .ok (.getfield 35, 3) := by decide +kernel
theorem dX0_findCounting_9 : decode cX0_findCounting 9 = .ok (.if_icmp .gt 70, 3) := by decide +kernel
theorem dX0_findCounting_12 : decode cX0_findCounting 12 = .ok (.aload_n 0, 1) := by decide +kernel
theorem dX0_findCounting_13 : decode cX0_findCounting 13 = .ok (.getfield 28, 3) := by decide +kernel
theorem dX0_findCounting_16 : decode cX0_findCounting 16 = .ok (.iload 8, 2) := by decide +kernel
theorem dX0_findCounting_18 : decode cX0_findCounting 18 = .ok (.baload, 1) := by decide +kernel
theorem dX0_findCounting_19 : decode cX0_findCounting 19 = .ok (.ifCond .eq 54, 3) := by decide +kernel
theorem dX0_findCounting_22 : decode cX0_findCounting 22 = .ok (.aload_n 0, 1) := by decide +kernel
theorem dX0_findCounting_23 : decode cX0_findCounting 23 = .ok (.iload 8, 2) := by decide +kernel
theorem dX0_findCounting_25 : decode cX0_findCounting 25 = .ok (.iload_n 1, 1) := by decide +kernel
theorem dX0_findCounting_26 : decode cX0_findCounting 26 = .ok (.iload_n 2, 1) := by decide +kernel
theorem dX0_findCounting_27 : decode cX0_findCounting 27 = .ok (.invokevirtual 48, 3) := by decide +kernel
theorem dX0_findCounting_30 : decode cX0_findCounting 30 = .ok (.ifCond .eq 43, 3) := by decide +kernel
theorem dX0_findCounting_33 : decode cX0_findCounting 33 = .ok (.aload_n 0, 1) := by decide +kernel
theorem dX0_findCounting_34 : decode cX0_findCounting 34 = .ok (.getfield 18, 3) := by decide +kernel
theorem dX0_findCounting_37 : decode cX0_findCounting 37 = .ok (.iload 8, 2) := by decide +kernel
theorem dX0_findCounting_39 : decode cX0_findCounting 39 = .ok (.iaload, 1) := by decide +kernel
theorem dX0_findCounting_40 : decode cX0_findCounting 40 = .ok (.iload_n 3, 1) := by decide +kernel
theorem dX0_findCounting_41 : decode cX0_findCounting 41 = .ok (.if_icmp .ne 32, 3) := by decide +kernel
theorem dX0_findCounting_44 : decode cX0_findCounting 44 = .ok (.aload_n 0, 1) := by decide +kernel
theorem dX0_findCounting_45 : decode cX0_findCounting 45 = .ok (.getfield 21, 3) := by decide +kernel
theorem dX0_findCounting_48 : decode cX0_findCounting 48 = .ok (.iload 8, 2) := by decide +kernel
theorem dX0_findCounting_50 : decode cX0_findCounting 50 = .ok (.laload, 1) := by decide +kernel
theorem dX0_findCounting_51 : decode cX0_findCounting 51 = .ok (.lload 4, 2) := by decide +kernel
theorem dX0_findCounting_53 : decode cX0_findCounting 53 = .ok (.lcmp, 1) := by decide +kernel
theorem dX0_findCounting_54 : decode cX0_findCounting 54 = .ok (.ifCond .ne 19, 3) := by decide +kernel
theorem dX0_findCounting_57 : decode cX0_findCounting 57 = .ok (.aload_n 0, 1) := by decide +kernel
theorem dX0_findCounting_58 : decode cX0_findCounting 58 = .ok (.getfield 25, 3) := by decide +kernel
theorem dX0_findCounting_61 : decode cX0_findCounting 61 = .ok (.iload 8, 2) := by decide +kernel
theorem dX0_findCounting_63 : decode cX0_findCounting 63 = .ok (.laload, 1) := by decide +kernel
theorem dX0_findCounting_64 : decode cX0_findCounting 64 = .ok (.lload 6, 2) := by decide +kernel
theorem dX0_findCounting_66 : decode cX0_findCounting 66 = .ok (.lcmp, 1) := by decide +kernel
theorem dX0_findCounting_67 : decode cX0_findCounting 67 = .ok (.ifCond .ne 6, 3) := by decide +kernel
theorem dX0_findCounting_70 : decode cX0_findCounting 70 = .ok (.iload 8, 2) := by decide +kernel
theorem dX0_findCounting_72 : decode cX0_findCounting 72 = .ok (.ireturn, 1) := by decide +kernel
theorem dX0_findCounting_73 : decode cX0_findCounting 73 = .ok (.iinc 8 1, 3) := by decide +kernel
theorem dX0_findCounting_76 : decode cX0_findCounting 76 = .ok (.goto (-73), 3) := by decide +kernel
theorem dX0_findCounting_79 : decode cX0_findCounting 79 = .ok (.iconst 0, 1) := by decide +kernel
theorem dX0_findCounting_80 : decode cX0_findCounting 80 = .ok (.ireturn, 1) := by decide +kernel
theorem dX0_lastCounting_0 : decode cX0_lastCounting 0 = .ok (.aload_n 0, 1) := by decide +kernel
theorem dX0_lastCounting_1 : decode cX0_lastCounting 1 = .ok (.getfield 35, 3) := by decide +kernel
theorem dX0_lastCounting_4 : decode cX0_lastCounting 4 = .ok (.istore 5, 2) := by decide +kernel
theorem dX0_lastCounting_6 : decode cX0_lastCounting 6 = .ok (.iload 5, 2) := by decide +kernel
theorem dX0_lastCounting_8 : decode cX0_lastCounting 8 = .ok (.iconst 1, 1) := by decide +kernel
theorem dX0_lastCounting_9 : decode cX0_lastCounting 9 = .ok (.if_icmp .lt 54, 3) := by decide +kernel
theorem dX0_lastCounting_12 : decode cX0_lastCounting 12 = .ok (.aload_n 0, 1) := by decide +kernel
theorem dX0_lastCounting_13 : decode cX0_lastCounting 13 = .ok (.getfield 32, 3) := by decide +kernel
theorem dX0_lastCounting_16 : decode cX0_lastCounting 16 = .ok (.iload 5, 2) := by decide +kernel
theorem dX0_lastCounting_18 : decode cX0_lastCounting 18 = .ok (.iaload, 1) := by decide +kernel
theorem dX0_lastCounting_19 : decode cX0_lastCounting 19 = .ok (.istore 6, 2) := by decide +kernel
theorem dX0_lastCounting_21 : decode cX0_lastCounting 21 = .ok (.aload_n 0, 1) := by decide +kernel
theorem dX0_lastCounting_22 : decode cX0_lastCounting 22 = .ok (.getfield 28, 3) := by decide +kernel
theorem dX0_lastCounting_25 : decode cX0_lastCounting 25 = .ok (.iload 6, 2) := by decide +kernel
theorem dX0_lastCounting_27 : decode cX0_lastCounting 27 = .ok (.baload, 1) := by decide +kernel
theorem dX0_lastCounting_28 : decode cX0_lastCounting 28 = .ok (.ifCond .eq 29, 3) := by decide +kernel
theorem dX0_lastCounting_31 : decode cX0_lastCounting 31 = .ok (.aload_n 0, 1) := by decide +kernel
theorem dX0_lastCounting_32 : decode cX0_lastCounting 32 = .ok (.getfield 25, 3) := by decide +kernel
theorem dX0_lastCounting_35 : decode cX0_lastCounting 35 = .ok (.iload 6, 2) := by decide +kernel
theorem dX0_lastCounting_37 : decode cX0_lastCounting 37 = .ok (.laload, 1) := by decide +kernel
theorem dX0_lastCounting_38 : decode cX0_lastCounting 38 = .ok (.lload_n 3, 1) := by decide +kernel
theorem dX0_lastCounting_39 : decode cX0_lastCounting 39 = .ok (.lcmp, 1) := by decide +kernel
theorem dX0_lastCounting_40 : decode cX0_lastCounting 40 = .ok (.ifCond .gt 17, 3) := by decide +kernel
theorem dX0_lastCounting_43 : decode cX0_lastCounting 43 = .ok (.aload_n 0, 1) := by decide +kernel
theorem dX0_lastCounting_44 : decode cX0_lastCounting 44 = .ok (.iload 6, 2) := by decide +kernel
theorem dX0_lastCounting_46 : decode cX0_lastCounting 46 = .ok (.iload_n 1, 1) := by decide +kernel
theorem dX0_lastCounting_47 : decode cX0_lastCounting 47 = .ok (.iload_n 2, 1) := by decide +kernel
theorem dX0_lastCounting_48 : decode cX0_lastCounting 48 = .ok (.invokevirtual 48, 3) := by decide +kernel
theorem dX0_lastCounting_51 : decode cX0_lastCounting 51 = .ok (.ifCond .eq 6, 3) := by decide +kernel
theorem dX0_lastCounting_54 : decode cX0_lastCounting 54 = .ok (.iload 6, 2) := by decide +kernel
theorem dX0_lastCounting_56 : decode cX0_lastCounting 56 = .ok (.ireturn, 1) := by decide +kernel
theorem dX0_lastCounting_57 : decode cX0_lastCounting 57 = .ok (.iinc 5 (-1), 3) := by decide +kernel
theorem dX0_lastCounting_60 : decode cX0_lastCounting 60 = .ok (.goto (-54), 3) := by decide +kernel
theorem dX0_lastCounting_63 : decode cX0_lastCounting 63 = .ok (.iconst 0, 1) := by decide +kernel
theorem dX0_lastCounting_64 : decode cX0_lastCounting 64 = .ok (.ireturn, 1) := by decide +kernel
theorem dX0_inOrder_0 : decode cX0_inOrder 0 = .ok (.iload_n 3, 1) := by decide +kernel
theorem dX0_inOrder_1 : decode cX0_inOrder 1 = .ok (.istore 4, 2) := by decide +kernel
theorem dX0_inOrder_3 : decode cX0_inOrder 3 = .ok (.iconst 1, 1) := by decide +kernel
theorem dX0_inOrder_4 : decode cX0_inOrder 4 = .ok (.istore 5, 2) := by decide +kernel
theorem dX0_inOrder_6 : decode cX0_inOrder 6 = .ok (.iload 5, 2) := by decide +kernel
theorem dX0_inOrder_8 : decode cX0_inOrder 8 = .ok (.aload_n 0, 1) := by decide +kernel
theorem dX0_inOrder_9 : decode cX0_inOrder 9 = .ok (.getfield 35, 3) := by decide +kernel
theorem dX0_inOrder_12 : decode cX0_inOrder 12 = .ok (.if_icmp .gt 40, 3) := by decide +kernel
theorem dX0_inOrder_15 : decode cX0_inOrder 15 = .ok (.aload_n 0, 1) := by decide +kernel
theorem dX0_inOrder_16 : decode cX0_inOrder 16 = .ok (.getfield 32, 3) := by decide +kernel
theorem dX0_inOrder_19 : decode cX0_inOrder 19 = .ok (.iload 5, 2) := by decide +kernel
theorem dX0_inOrder_21 : decode cX0_inOrder 21 = .ok (.iaload, 1) := by decide +kernel
theorem dX0_inOrder_22 : decode cX0_inOrder 22 = .ok (.istore 6, 2) := by decide +kernel
theorem dX0_inOrder_24 : decode cX0_inOrder 24 = .ok (.aload_n 0, 1) := by decide +kernel
theorem dX0_inOrder_25 : decode cX0_inOrder 25 = .ok (.iload 6, 2) := by decide +kernel
theorem dX0_inOrder_27 : decode cX0_inOrder 27 = .ok (.iload_n 1, 1) := by decide +kernel
theorem dX0_inOrder_28 : decode cX0_inOrder 28 = .ok (.iload_n 2, 1) := by decide +kernel
theorem dX0_inOrder_29 : decode cX0_inOrder 29 = .ok (.invokevirtual 48, 3) := by decide +kernel
theorem dX0_inOrder_32 : decode cX0_inOrder 32 = .ok (.ifCond .eq 14, 3) := by decide +kernel
theorem dX0_inOrder_35 : decode cX0_inOrder 35 = .ok (.iload 4, 2) := by decide +kernel
theorem dX0_inOrder_37 : decode cX0_inOrder 37 = .ok (.ifCond .ne 6, 3) := by decide +kernel
theorem dX0_inOrder_40 : decode cX0_inOrder 40 = .ok (.iload 6, 2) := by decide +kernel
theorem dX0_inOrder_42 : decode cX0_inOrder 42 = .ok (.ireturn, 1) := by decide +kernel
theorem dX0_inOrder_43 : decode cX0_inOrder 43 = .ok (.iinc 4 (-1), 3) := by decide +kernel
theorem dX0_inOrder_46 : decode cX0_inOrder 46 = .ok (.iinc 5 1, 3) := by decide +kernel
theorem dX0_inOrder_49 : decode cX0_inOrder 49 = .ok (.goto (-43), 3) := by decide +kernel
theorem dX0_inOrder_52 : decode cX0_inOrder 52 = .ok (.iconst 0, 1) := by decide +kernel
theorem dX0_inOrder_53 : decode cX0_inOrder 53 = .ok (.ireturn, 1) := by decide +kernel
theorem dX0_areInConflict_0 : decode cX0_areInConflict 0 = .ok (.aload_n 0, 1) := by decide +kernel
theorem dX0_areInConflict_1 : decode cX0_areInConflict 1 = .ok (.getfield 25, 3) := by decide +kernel
theorem dX0_areInConflict_4 : decode cX0_areInConflict 4 = .ok (.iload_n 1, 1) := by decide +kernel
theorem dX0_areInConflict_5 : decode cX0_areInConflict 5 = .ok (.laload, 1) := by decide +kernel
theorem dX0_areInConflict_6 : decode cX0_areInConflict 6 = .ok (.aload_n 0, 1) := by decide +kernel
theorem dX0_areInConflict_7 : decode cX0_areInConflict 7 = .ok (.getfield 25, 3) := by decide +kernel
theorem dX0_areInConflict_10 : decode cX0_areInConflict 10 = .ok (.iload_n 2, 1) := by decide +kernel
theorem dX0_areInConflict_11 : decode cX0_areInConflict 11 = .ok (.laload, 1) := by decide +kernel
theorem dX0_areInConflict_12 : decode cX0_areInConflict 12 = .ok (.lcmp, 1) := by decide +kernel
theorem dX0_areInConflict_13 : decode cX0_areInConflict 13 = .ok (.ifCond .ne 60, 3) := by decide +kernel
theorem dX0_areInConflict_16 : decode cX0_areInConflict 16 = .ok (.aload_n 0, 1) := by decide +kernel
theorem dX0_areInConflict_17 : decode cX0_areInConflict 17 = .ok (.getfield 28, 3) := by decide +kernel
theorem dX0_areInConflict_20 : decode cX0_areInConflict 20 = .ok (.iload_n 1, 1) := by decide +kernel
theorem dX0_areInConflict_21 : decode cX0_areInConflict 21 = .ok (.baload, 1) := by decide +kernel
theorem dX0_areInConflict_22 : decode cX0_areInConflict 22 = .ok (.ifCond .eq 51, 3) := by decide +kernel
theorem dX0_areInConflict_25 : decode cX0_areInConflict 25 = .ok (.aload_n 0, 1) := by decide +kernel
theorem dX0_areInConflict_26 : decode cX0_areInConflict 26 = .ok (.getfield 28, 3) := by decide +kernel
theorem dX0_areInConflict_29 : decode cX0_areInConflict 29 = .ok (.iload_n 2, 1) := by decide +kernel
theorem dX0_areInConflict_30 : decode cX0_areInConflict 30 = .ok (.baload, 1) := by decide +kernel
theorem dX0_areInConflict_31 : decode cX0_areInConflict 31 = .ok (.ifCond .eq 42, 3) := by decide +kernel
theorem dX0_areInConflict_34 : decode cX0_areInConflict 34 = .ok (.aload_n 0, 1) := by decide +kernel
theorem dX0_areInConflict_35 : decode cX0_areInConflict 35 = .ok (.iload_n 1, 1) := by decide +kernel
theorem dX0_areInConflict_36 : decode cX0_areInConflict 36 = .ok (.aload_n 0, 1) := by decide +kernel
theorem dX0_areInConflict_37 : decode cX0_areInConflict 37 = .ok (.getfield 9, 3) := by decide +kernel
theorem dX0_areInConflict_40 : decode cX0_areInConflict 40 = .ok (.iload_n 2, 1) := by decide +kernel
theorem dX0_areInConflict_41 : decode cX0_areInConflict 41 = .ok (.iaload, 1) := by decide +kernel
theorem dX0_areInConflict_42 : decode cX0_areInConflict 42 = .ok (.aload_n 0, 1) := by decide +kernel
theorem dX0_areInConflict_43 : decode cX0_areInConflict 43 = .ok (.getfield 15, 3) := by decide +kernel
theorem dX0_areInConflict_46 : decode cX0_areInConflict 46 = .ok (.iload_n 2, 1) := by decide +kernel
theorem dX0_areInConflict_47 : decode cX0_areInConflict 47 = .ok (.iaload, 1) := by decide +kernel
theorem dX0_areInConflict_48 : decode cX0_areInConflict 48 = .ok (.invokevirtual 48, 3) := by decide +kernel
theorem dX0_areInConflict_51 : decode cX0_areInConflict 51 = .ok (.ifCond .eq 22, 3) := by decide +kernel
theorem dX0_areInConflict_54 : decode cX0_areInConflict 54 = .ok (.aload_n 0, 1) := by decide +kernel
theorem dX0_areInConflict_55 : decode cX0_areInConflict 55 = .ok (.getfield 18, 3) := by decide +kernel
theorem dX0_areInConflict_58 : decode cX0_areInConflict 58 = .ok (.iload_n 1, 1) := by decide +kernel
theorem dX0_areInConflict_59 : decode cX0_areInConflict 59 = .ok (.iaload, 1) := by decide +kernel
theorem dX0_areInConflict_60 : decode cX0_areInConflict 60 = .ok (.aload_n 0, 1) := by decide +kernel
theorem dX0_areInConflict_61 : decode cX0_areInConflict 61 = .ok (.getfield 18, 3) := by decide +kernel
theorem dX0_areInConflict_64 : decode cX0_areInConflict 64 = .ok (.iload_n 2, 1) := by decide +kernel
theorem dX0_areInConflict_65 : decode cX0_areInConflict 65 = .ok (.iaload, 1) := by decide +kernel
theorem dX0_areInConflict_66 : decode cX0_areInConflict 66 = .ok (.if_icmp .eq 7, 3) := by decide +kernel
theorem dX0_areInConflict_69 : decode cX0_areInConflict 69 = .ok (.iconst 1, 1) := by decide +kernel
theorem dX0_areInConflict_70 : decode cX0_areInConflict 70 = .ok (.goto 4, 3) := by decide +kernel
theorem dX0_areInConflict_73 : decode cX0_areInConflict 73 = .ok (.iconst 0, 1) := by decide +kernel
theorem dX0_areInConflict_74 : decode cX0_areInConflict 74 = .ok (.ireturn, 1) := by decide +kernel
theorem dX0_isOf_0 : decode cX0_isOf 0 = .ok (.aload_n 0, 1) := by decide +kernel
theorem dX0_isOf_1 : decode cX0_isOf 1 = .ok (.getfield 9, 3) := by decide +kernel
theorem dX0_isOf_4 : decode cX0_isOf 4 = .ok (.iload_n 1, 1) := by decide +kernel
theorem dX0_isOf_5 : decode cX0_isOf 5 = .ok (.iaload, 1) := by decide +kernel
theorem dX0_isOf_6 : decode cX0_isOf 6 = .ok (.iload_n 2, 1) := by decide +kernel
theorem dX0_isOf_7 : decode cX0_isOf 7 = .ok (.if_icmp .ne 17, 3) := by decide +kernel
theorem dX0_isOf_10 : decode cX0_isOf 10 = .ok (.aload_n 0, 1) := by decide +kernel
theorem dX0_isOf_11 : decode cX0_isOf 11 = .ok (.getfield 15, 3) := by decide +kernel
theorem dX0_isOf_14 : decode cX0_isOf 14 = .ok (.iload_n 1, 1) := by decide +kernel
theorem dX0_isOf_15 : decode cX0_isOf 15 = .ok (.iaload, 1) := by decide +kernel
theorem dX0_isOf_16 : decode cX0_isOf 16 = .ok (.iload_n 3, 1) := by decide +kernel
theorem dX0_isOf_17 : decode cX0_isOf 17 = .ok (.if_icmp .ne 7, 3) := by decide +kernel
theorem dX0_isOf_20 : decode cX0_isOf 20 = .ok (.iconst 1, 1) := by decide +kernel
theorem dX0_isOf_21 : decode cX0_isOf 21 = .ok (.goto 4, 3) := by decide +kernel
theorem dX0_isOf_24 : decode cX0_isOf 24 = .ok (.iconst 0, 1) := by decide +kernel
theorem dX0_isOf_25 : decode cX0_isOf 25 = .ok (.ireturn, 1) := by decide +kernel
theorem dX1_init_0 : decode cX1_init 0 = .ok (.aload_n 0, 1) := by decide +kernel
theorem dX1_init_1 : decode cX1_init 1 = .ok (.invokespecial 3, 3) := by decide +kernel
theorem dX1_init_4 : decode cX1_init 4 = .ok (.aload_n 0, 1) := by decide +kernel
theorem dX1_init_5 : decode cX1_init 5 = .ok (.sipush 201, 3) := by decide +kernel
theorem dX1_init_8 : decode cX1_init 8 = .ok (.newarray .int, 2) := by decide +kernel
theorem dX1_init_10 : decode cX1_init 10 = .ok (.putfield 9, 3) := by decide +kernel
theorem dX1_init_13 : decode cX1_init 13 = .ok (.aload_n 0, 1) := by decide +kernel
theorem dX1_init_14 : decode cX1_init 14 = .ok (.iconst 0, 1) := by decide +kernel
theorem dX1_init_15 : decode cX1_init 15 = .ok (.putfield 15, 3) := by decide +kernel
theorem dX1_init_18 : decode cX1_init 18 = .ok (.return_, 1) := by decide +kernel
theorem dX1_has_0 : decode cX1_has 0 = .ok (.iload_n 1, 1) := by decide +kernel
theorem dX1_has_1 : decode cX1_has 1 = .ok (.iconst 1, 1) := by decide +kernel
theorem dX1_has_2 : decode cX1_has 2 = .ok (.if_icmp .lt 15, 3) := by decide +kernel
theorem dX1_has_5 : decode cX1_has 5 = .ok (.iload_n 1, 1) := by decide +kernel
theorem dX1_has_6 : decode cX1_has 6 = .ok (.aload_n 0, 1) := by decide +kernel
theorem dX1_has_7 : decode cX1_has 7 = .ok (.getfield 15, 3) := by decide +kernel
theorem dX1_has_10 : decode cX1_has 10 = .ok (.if_icmp .gt 7, 3) := by decide +kernel
theorem dX1_has_13 : decode cX1_has 13 = .ok (.iconst 1, 1) := by decide +kernel
theorem dX1_has_14 : decode cX1_has 14 = .ok (.goto 4, 3) := by decide +kernel
theorem dX1_has_17 : decode cX1_has 17 = .ok (.iconst 0, 1) := by decide +kernel
theorem dX1_has_18 : decode cX1_has 18 = .ok (.ireturn, 1) := by decide +kernel
theorem dX1_of_0 : decode cX1_of 0 = .ok (.aload_n 0, 1) := by decide +kernel
theorem dX1_of_1 : decode cX1_of 1 = .ok (.getfield 9, 3) := by decide +kernel
theorem dX1_of_4 : decode cX1_of 4 = .ok (.iload_n 1, 1) := by decide +kernel
theorem dX1_of_5 : decode cX1_of 5 = .ok (.iaload, 1) := by decide +kernel
theorem dX1_of_6 : decode cX1_of 6 = .ok (.ireturn, 1) := by decide +kernel
theorem dX1_add_0 : decode cX1_add 0 = .ok (.aload_n 0, 1) := by decide +kernel
theorem dX1_add_1 : decode cX1_add 1 = .ok (.getfield 15, 3) := by decide +kernel
theorem dX1_add_4 : decode cX1_add 4 = .ok (.bipush 30, 2) := by decide +kernel
theorem dX1_add_6 : decode cX1_add 6 = .ok (.if_icmp .ge 12, 3) := by decide +kernel
theorem dX1_add_9 : decode cX1_add 9 = .ok (.aload_n 0, 1) := by decide +kernel
theorem dX1_add_10 : decode cX1_add 10 = .ok (.iload_n 1, 1) := by decide +kernel
theorem dX1_add_11 : decode cX1_add 11 = .ok (.iload_n 2, 1) := by decide +kernel
theorem dX1_add_12 : decode cX1_add 12 = .ok (.invokevirtual 19, 3) := by decide +kernel
theorem dX1_add_15 : decode cX1_add 15 = .ok (.ifCond .eq 5, 3) := by decide +kernel
theorem dX1_add_18 : decode cX1_add 18 = .ok (.iconst 0, 1) := by decide +kernel
theorem dX1_add_19 : decode cX1_add 19 = .ok (.ireturn, 1) := by decide +kernel
theorem dX1_add_20 : decode cX1_add 20 = .ok (.aload_n 0, 1) := by decide +kernel
theorem dX1_add_21 : decode cX1_add 21 = .ok (.dup, 1) := by decide +kernel
theorem dX1_add_22 : decode cX1_add 22 = .ok (.getfield 15, 3) := by decide +kernel
theorem dX1_add_25 : decode cX1_add 25 = .ok (.iconst 1, 1) := by decide +kernel
theorem dX1_add_26 : decode cX1_add 26 = .ok (.iadd, 1) := by decide +kernel
theorem dX1_add_27 : decode cX1_add 27 = .ok (.putfield 15, 3) := by decide +kernel
theorem dX1_add_30 : decode cX1_add 30 = .ok (.iload_n 1, 1) := by decide +kernel
theorem dX1_add_31 : decode cX1_add 31 = .ok (.istore_n 3, 1) := by decide +kernel
theorem dX1_add_32 : decode cX1_add 32 = .ok (.iload_n 3, 1) := by decide +kernel
theorem dX1_add_33 : decode cX1_add 33 = .ok (.iload_n 2, 1) := by decide +kernel
theorem dX1_add_34 : decode cX1_add 34 = .ok (.if_icmp .gt 19, 3) := by decide +kernel
theorem dX1_add_37 : decode cX1_add 37 = .ok (.aload_n 0, 1) := by decide +kernel
theorem dX1_add_38 : decode cX1_add 38 = .ok (.getfield 9, 3) := by decide +kernel
theorem dX1_add_41 : decode cX1_add 41 = .ok (.iload_n 3, 1) := by decide +kernel
theorem dX1_add_42 : decode cX1_add 42 = .ok (.aload_n 0, 1) := by decide +kernel
theorem dX1_add_43 : decode cX1_add 43 = .ok (.getfield 15, 3) := by decide +kernel
theorem dX1_add_46 : decode cX1_add 46 = .ok (.iastore, 1) := by decide +kernel
theorem dX1_add_47 : decode cX1_add 47 = .ok (.iinc 3 1, 3) := by decide +kernel
theorem dX1_add_50 : decode cX1_add 50 = .ok (.goto (-18), 3) := by decide +kernel
theorem dX1_add_53 : decode cX1_add 53 = .ok (.aload_n 0, 1) := by decide +kernel
theorem dX1_add_54 : decode cX1_add 54 = .ok (.getfield 15, 3) := by decide +kernel
theorem dX1_add_57 : decode cX1_add 57 = .ok (.ireturn, 1) := by decide +kernel
theorem dX1_isAnyTaken_0 : decode cX1_isAnyTaken 0 = .ok (.iload_n 1, 1) := by decide +kernel
theorem dX1_isAnyTaken_1 : decode cX1_isAnyTaken 1 = .ok (.istore_n 3, 1) := by decide +kernel
theorem dX1_isAnyTaken_2 : decode cX1_isAnyTaken 2 = .ok (.iload_n 3, 1) := by decide +kernel
theorem dX1_isAnyTaken_3 : decode cX1_isAnyTaken 3 = .ok (.iload_n 2, 1) := by decide +kernel
theorem dX1_isAnyTaken_4 : decode cX1_isAnyTaken 4 = .ok (.if_icmp .gt 20, 3) := by decide +kernel
theorem dX1_isAnyTaken_7 : decode cX1_isAnyTaken 7 = .ok (.aload_n 0, 1) := by decide +kernel
theorem dX1_isAnyTaken_8 : decode cX1_isAnyTaken 8 = .ok (.getfield 9, 3) := by decide +kernel
theorem dX1_isAnyTaken_11 : decode cX1_isAnyTaken 11 = .ok (.iload_n 3, 1) := by decide +kernel
theorem dX1_isAnyTaken_12 : decode cX1_isAnyTaken 12 = .ok (.iaload, 1) := by decide +kernel
theorem dX1_isAnyTaken_13 : decode cX1_isAnyTaken 13 = .ok (.ifCond .eq 5, 3) := by decide +kernel
theorem dX1_isAnyTaken_16 : decode cX1_isAnyTaken 16 = .ok (.iconst 1, 1) := by decide +kernel
theorem dX1_isAnyTaken_17 : decode cX1_isAnyTaken 17 = .ok (.ireturn, 1) := by decide +kernel
theorem dX1_isAnyTaken_18 : decode cX1_isAnyTaken 18 = .ok (.iinc 3 1, 3) := by decide +kernel
theorem dX1_isAnyTaken_21 : decode cX1_isAnyTaken 21 = .ok (.goto (-19), 3) := by decide +kernel
theorem dX1_isAnyTaken_24 : decode cX1_isAnyTaken 24 = .ok (.iconst 0, 1) := by decide +kernel
theorem dX1_isAnyTaken_25 : decode cX1_isAnyTaken 25 = .ok (.ireturn, 1) := by decide +kernel
theorem dX2_init_0 : decode cX2_init 0 = .ok (.aload_n 0, 1) := by decide +kernel
theorem dX2_init_1 : decode cX2_init 1 = .ok (.invokespecial 5, 3) := by decide +kernel
theorem dX2_init_4 : decode cX2_init 4 = .ok (.aload_n 0, 1) := by decide +kernel
theorem dX2_init_5 : decode cX2_init 5 = .ok (.sipush 804, 3) := by decide +kernel
theorem dX2_init_8 : decode cX2_init 8 = .ok (.newarray .long, 2) := by decide +kernel
theorem dX2_init_10 : decode cX2_init 10 = .ok (.putfield 11, 3) := by decide +kernel
theorem dX2_init_13 : decode cX2_init 13 = .ok (.return_, 1) := by decide +kernel
theorem dX2_has_0 : decode cX2_has 0 = .ok (.aload_n 0, 1) := by decide +kernel
theorem dX2_has_1 : decode cX2_has 1 = .ok (.getfield 11, 3) := by decide +kernel
theorem dX2_has_4 : decode cX2_has 4 = .ok (.iload_n 1, 1) := by decide +kernel
theorem dX2_has_5 : decode cX2_has 5 = .ok (.iload_n 2, 1) := by decide +kernel
theorem dX2_has_6 : decode cX2_has 6 = .ok (.invokestatic 15, 3) := by decide +kernel
theorem dX2_has_9 : decode cX2_has 9 = .ok (.laload, 1) := by decide +kernel
theorem dX2_has_10 : decode cX2_has 10 = .ok (.iload_n 2, 1) := by decide +kernel
theorem dX2_has_11 : decode cX2_has 11 = .ok (.invokestatic 19, 3) := by decide +kernel
theorem dX2_has_14 : decode cX2_has 14 = .ok (.land, 1) := by decide +kernel
theorem dX2_has_15 : decode cX2_has 15 = .ok (.lconst 0, 1) := by decide +kernel
theorem dX2_has_16 : decode cX2_has 16 = .ok (.lcmp, 1) := by decide +kernel
theorem dX2_has_17 : decode cX2_has 17 = .ok (.ifCond .eq 7, 3) := by decide +kernel
theorem dX2_has_20 : decode cX2_has 20 = .ok (.iconst 1, 1) := by decide +kernel
theorem dX2_has_21 : decode cX2_has 21 = .ok (.goto 4, 3) := by decide +kernel
theorem dX2_has_24 : decode cX2_has 24 = .ok (.iconst 0, 1) := by decide +kernel
theorem dX2_has_25 : decode cX2_has 25 = .ok (.ireturn, 1) := by decide +kernel
theorem dX2_add_0 : decode cX2_add 0 = .ok (.aload_n 0, 1) := by decide +kernel
theorem dX2_add_1 : decode cX2_add 1 = .ok (.getfield 11, 3) := by decide +kernel
theorem dX2_add_4 : decode cX2_add 4 = .ok (.iload_n 1, 1) := by decide +kernel
theorem dX2_add_5 : decode cX2_add 5 = .ok (.iload_n 2, 1) := by decide +kernel
theorem dX2_add_6 : decode cX2_add 6 = .ok (.invokestatic 15, 3) := by decide +kernel
theorem dX2_add_9 : decode cX2_add 9 = .ok (.dup2, 1) := by decide +kernel
theorem dX2_add_10 : decode cX2_add 10 = .ok (.laload, 1) := by decide +kernel
theorem dX2_add_11 : decode cX2_add 11 = .ok (.iload_n 2, 1) := by decide +kernel
theorem dX2_add_12 : decode cX2_add 12 = .ok (.invokestatic 19, 3) := by decide +kernel
theorem dX2_add_15 : decode cX2_add 15 = .ok (.lor, 1) := by decide +kernel
theorem dX2_add_16 : decode cX2_add 16 = .ok (.lastore, 1) := by decide +kernel
theorem dX2_add_17 : decode cX2_add 17 = .ok (.return_, 1) := by decide +kernel
theorem dX2_wordOf_0 : decode cX2_wordOf 0 = .ok (.iload_n 0, 1) := by decide +kernel
theorem dX2_wordOf_1 : decode cX2_wordOf 1 = .ok (.iconst 4, 1) := by decide +kernel
theorem dX2_wordOf_2 : decode cX2_wordOf 2 = .ok (.imul, 1) := by decide +kernel
theorem dX2_wordOf_3 : decode cX2_wordOf 3 = .ok (.iload_n 1, 1) := by decide +kernel
theorem dX2_wordOf_4 : decode cX2_wordOf 4 = .ok (.bipush 64, 2) := by decide +kernel
theorem dX2_wordOf_6 : decode cX2_wordOf 6 = .ok (.idiv, 1) := by decide +kernel
theorem dX2_wordOf_7 : decode cX2_wordOf 7 = .ok (.iadd, 1) := by decide +kernel
theorem dX2_wordOf_8 : decode cX2_wordOf 8 = .ok (.ireturn, 1) := by decide +kernel
theorem dX2_bitOf_0 : decode cX2_bitOf 0 = .ok (.lconst 1, 1) := by decide +kernel
theorem dX2_bitOf_1 : decode cX2_bitOf 1 = .ok (.iload_n 0, 1) := by decide +kernel
theorem dX2_bitOf_2 : decode cX2_bitOf 2 = .ok (.bipush 64, 2) := by decide +kernel
theorem dX2_bitOf_4 : decode cX2_bitOf 4 = .ok (.irem, 1) := by decide +kernel
theorem dX2_bitOf_5 : decode cX2_bitOf 5 = .ok (.lshl, 1) := by decide +kernel
theorem dX2_bitOf_6 : decode cX2_bitOf 6 = .ok (.lreturn, 1) := by decide +kernel
theorem dX3_init_0 : decode cX3_init 0 = .ok (.aload_n 0, 1) := by decide +kernel
theorem dX3_init_1 : decode cX3_init 1 = .ok (.invokespecial 3, 3) := by decide +kernel
theorem dX3_init_4 : decode cX3_init 4 = .ok (.aload_n 0, 1) := by decide +kernel
theorem dX3_init_5 : decode cX3_init 5 = .ok (.bipush 21, 2) := by decide +kernel
theorem dX3_init_7 : decode cX3_init 7 = .ok (.newarray .int, 2) := by decide +kernel
theorem dX3_init_9 : decode cX3_init 9 = .ok (.putfield 9, 3) := by decide +kernel
theorem dX3_init_12 : decode cX3_init 12 = .ok (.aload_n 0, 1) := by decide +kernel
theorem dX3_init_13 : decode cX3_init 13 = .ok (.bipush 21, 2) := by decide +kernel
theorem dX3_init_15 : decode cX3_init 15 = .ok (.newarray .int, 2) := by decide +kernel
theorem dX3_init_17 : decode cX3_init 17 = .ok (.putfield 15, 3) := by decide +kernel
theorem dX3_init_20 : decode cX3_init 20 = .ok (.aload_n 0, 1) := by decide +kernel
theorem dX3_init_21 : decode cX3_init 21 = .ok (.bipush 21, 2) := by decide +kernel
theorem dX3_init_23 : decode cX3_init 23 = .ok (.newarray .long, 2) := by decide +kernel
theorem dX3_init_25 : decode cX3_init 25 = .ok (.putfield 18, 3) := by decide +kernel
theorem dX3_init_28 : decode cX3_init 28 = .ok (.aload_n 0, 1) := by decide +kernel
theorem dX3_init_29 : decode cX3_init 29 = .ok (.iconst 0, 1) := by decide +kernel
theorem dX3_init_30 : decode cX3_init 30 = .ok (.putfield 22, 3) := by decide +kernel
theorem dX3_init_33 : decode cX3_init 33 = .ok (.return_, 1) := by decide +kernel
theorem dX3_has_0 : decode cX3_has 0 = .ok (.iload_n 1, 1) := by decide +kernel
theorem dX3_has_1 : decode cX3_has 1 = .ok (.iconst 1, 1) := by decide +kernel
theorem dX3_has_2 : decode cX3_has 2 = .ok (.if_icmp .lt 15, 3) := by decide +kernel
theorem dX3_has_5 : decode cX3_has 5 = .ok (.iload_n 1, 1) := by decide +kernel
theorem dX3_has_6 : decode cX3_has 6 = .ok (.aload_n 0, 1) := by decide +kernel
theorem dX3_has_7 : decode cX3_has 7 = .ok (.getfield 22, 3) := by decide +kernel
theorem dX3_has_10 : decode cX3_has 10 = .ok (.if_icmp .gt 7, 3) := by decide +kernel
theorem dX3_has_13 : decode cX3_has 13 = .ok (.iconst 1, 1) := by decide +kernel
theorem dX3_has_14 : decode cX3_has 14 = .ok (.goto 4, 3) := by decide +kernel
theorem dX3_has_17 : decode cX3_has 17 = .ok (.iconst 0, 1) := by decide +kernel
theorem dX3_has_18 : decode cX3_has 18 = .ok (.ireturn, 1) := by decide +kernel
theorem dX3_add_0 : decode cX3_add 0 = .ok (.aload_n 0, 1) := by decide +kernel
theorem dX3_add_1 : decode cX3_add 1 = .ok (.getfield 22, 3) := by decide +kernel
theorem dX3_add_4 : decode cX3_add 4 = .ok (.bipush 20, 2) := by decide +kernel
theorem dX3_add_6 : decode cX3_add 6 = .ok (.if_icmp .lt 5, 3) := by decide +kernel
theorem dX3_add_9 : decode cX3_add 9 = .ok (.iconst 0, 1) := by decide +kernel
theorem dX3_add_10 : decode cX3_add 10 = .ok (.ireturn, 1) := by decide +kernel
theorem dX3_add_11 : decode cX3_add 11 = .ok (.aload_n 0, 1) := by decide +kernel
theorem dX3_add_12 : decode cX3_add 12 = .ok (.dup, 1) := by decide +kernel
theorem dX3_add_13 : decode cX3_add 13 = .ok (.getfield 22, 3) := by decide +kernel
theorem dX3_add_16 : decode cX3_add 16 = .ok (.iconst 1, 1) := by decide +kernel
theorem dX3_add_17 : decode cX3_add 17 = .ok (.iadd, 1) := by decide +kernel
theorem dX3_add_18 : decode cX3_add 18 = .ok (.putfield 22, 3) := by decide +kernel
theorem dX3_add_21 : decode cX3_add 21 = .ok (.aload_n 0, 1) := by decide +kernel
theorem dX3_add_22 : decode cX3_add 22 = .ok (.getfield 9, 3) := by decide +kernel
theorem dX3_add_25 : decode cX3_add 25 = .ok (.aload_n 0, 1) := by decide +kernel
theorem dX3_add_26 : decode cX3_add 26 = .ok (.getfield 22, 3) := by decide +kernel
theorem dX3_add_29 : decode cX3_add 29 = .ok (.iload_n 1, 1) := by decide +kernel
theorem dX3_add_30 : decode cX3_add 30 = .ok (.iastore, 1) := by decide +kernel
theorem dX3_add_31 : decode cX3_add 31 = .ok (.aload_n 0, 1) := by decide +kernel
theorem dX3_add_32 : decode cX3_add 32 = .ok (.getfield 18, 3) := by decide +kernel
theorem dX3_add_35 : decode cX3_add 35 = .ok (.aload_n 0, 1) := by decide +kernel
theorem dX3_add_36 : decode cX3_add 36 = .ok (.getfield 22, 3) := by decide +kernel
theorem dX3_add_39 : decode cX3_add 39 = .ok (.ldc2_w 26, 3) := by decide +kernel
theorem dX3_add_42 : decode cX3_add 42 = .ok (.lastore, 1) := by decide +kernel
theorem dX3_add_43 : decode cX3_add 43 = .ok (.aload_n 0, 1) := by decide +kernel
theorem dX3_add_44 : decode cX3_add 44 = .ok (.getfield 22, 3) := by decide +kernel
theorem dX3_add_47 : decode cX3_add 47 = .ok (.ireturn, 1) := by decide +kernel
theorem dX3_kind_0 : decode cX3_kind 0 = .ok (.aload_n 0, 1) := by decide +kernel
theorem dX3_kind_1 : decode cX3_kind 1 = .ok (.getfield 9, 3) := by decide +kernel
theorem dX3_kind_4 : decode cX3_kind 4 = .ok (.iload_n 1, 1) := by decide +kernel
theorem dX3_kind_5 : decode cX3_kind 5 = .ok (.iaload, 1) := by decide +kernel
theorem dX3_kind_6 : decode cX3_kind 6 = .ok (.ireturn, 1) := by decide +kernel
theorem dX3_locker_0 : decode cX3_locker 0 = .ok (.aload_n 0, 1) := by decide +kernel
theorem dX3_locker_1 : decode cX3_locker 1 = .ok (.getfield 15, 3) := by decide +kernel
theorem dX3_locker_4 : decode cX3_locker 4 = .ok (.iload_n 1, 1) := by decide +kernel
theorem dX3_locker_5 : decode cX3_locker 5 = .ok (.iaload, 1) := by decide +kernel
theorem dX3_locker_6 : decode cX3_locker 6 = .ok (.ireturn, 1) := by decide +kernel
theorem dX3_until_0 : decode cX3_until 0 = .ok (.aload_n 0, 1) := by decide +kernel
theorem dX3_until_1 : decode cX3_until 1 = .ok (.getfield 18, 3) := by decide +kernel
theorem dX3_until_4 : decode cX3_until 4 = .ok (.iload_n 1, 1) := by decide +kernel
theorem dX3_until_5 : decode cX3_until 5 = .ok (.laload, 1) := by decide +kernel
theorem dX3_until_6 : decode cX3_until 6 = .ok (.lreturn, 1) := by decide +kernel
theorem dX3_setLock_0 : decode cX3_setLock 0 = .ok (.aload_n 0, 1) := by decide +kernel
theorem dX3_setLock_1 : decode cX3_setLock 1 = .ok (.getfield 15, 3) := by decide +kernel
theorem dX3_setLock_4 : decode cX3_setLock 4 = .ok (.iload_n 1, 1) := by decide +kernel
theorem dX3_setLock_5 : decode cX3_setLock 5 = .ok (.iload_n 2, 1) := by decide +kernel
theorem dX3_setLock_6 : decode cX3_setLock 6 = .ok (.iastore, 1) := by decide +kernel
theorem dX3_setLock_7 : decode cX3_setLock 7 = .ok (.aload_n 0, 1) := by decide +kernel
theorem dX3_setLock_8 : decode cX3_setLock 8 = .ok (.getfield 18, 3) := by decide +kernel
theorem dX3_setLock_11 : decode cX3_setLock 11 = .ok (.iload_n 1, 1) := by decide +kernel
theorem dX3_setLock_12 : decode cX3_setLock 12 = .ok (.lload_n 3, 1) := by decide +kernel
theorem dX3_setLock_13 : decode cX3_setLock 13 = .ok (.lastore, 1) := by decide +kernel
theorem dX3_setLock_14 : decode cX3_setLock 14 = .ok (.return_, 1) := by decide +kernel
