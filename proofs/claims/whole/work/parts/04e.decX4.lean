theorem dX4_init_0 : decode cX4_init 0 = .ok (.aload_n 0, 1) := by decide +kernel
theorem dX4_init_1 : decode cX4_init 1 = .ok (.invokespecial 1, 3) := by decide +kernel
theorem dX4_init_4 : decode cX4_init 4 = .ok (.aload_n 0, 1) := by decide +kernel
theorem dX4_init_5 : decode cX4_init 5 = .ok (.sipush 2921, 3) := by decide +kernel
theorem dX4_init_8 : decode cX4_init 8 = .ok (.newarray .int, 2) := by decide +kernel
theorem dX4_init_10 : decode cX4_init 10 = .ok (.putfield 7, 3) := by decide +kernel
theorem dX4_init_13 : decode cX4_init 13 = .ok (.aload_n 0, 1) := by decide +kernel
theorem dX4_init_14 : decode cX4_init 14 = .ok (.sipush 11684, 3) := by decide +kernel
theorem dX4_init_17 : decode cX4_init 17 = .ok (.newarray .int, 2) := by decide +kernel
theorem dX4_init_19 : decode cX4_init 19 = .ok (.putfield 13, 3) := by decide +kernel
theorem dX4_init_22 : decode cX4_init 22 = .ok (.aload_n 0, 1) := by decide +kernel
theorem dX4_init_23 : decode cX4_init 23 = .ok (.iconst 3, 1) := by decide +kernel
theorem dX4_init_24 : decode cX4_init 24 = .ok (.invokevirtual 16, 3) := by decide +kernel
theorem dX4_init_27 : decode cX4_init 27 = .ok (.return_, 1) := by decide +kernel
theorem dX4_thrown_0 : decode cX4_thrown 0 = .ok (.aload_n 0, 1) := by decide +kernel
theorem dX4_thrown_1 : decode cX4_thrown 1 = .ok (.getfield 20, 3) := by decide +kernel
theorem dX4_thrown_4 : decode cX4_thrown 4 = .ok (.ireturn, 1) := by decide +kernel
theorem dX4_refused_0 : decode cX4_refused 0 = .ok (.aload_n 0, 1) := by decide +kernel
theorem dX4_refused_1 : decode cX4_refused 1 = .ok (.iload_n 1, 1) := by decide +kernel
theorem dX4_refused_2 : decode cX4_refused 2 = .ok (.putfield 20, 3) := by decide +kernel
theorem dX4_refused_5 : decode cX4_refused 5 = .ok (.iload_n 1, 1) := by decide +kernel
theorem dX4_refused_6 : decode cX4_refused 6 = .ok (.ifCond .le 7, 3) := by decide +kernel
theorem dX4_refused_9 : decode cX4_refused 9 = .ok (.iconst 1, 1) := by decide +kernel
theorem dX4_refused_10 : decode cX4_refused 10 = .ok (.goto 4, 3) := by decide +kernel
theorem dX4_refused_13 : decode cX4_refused 13 = .ok (.iconst 0, 1) := by decide +kernel
theorem dX4_refused_14 : decode cX4_refused 14 = .ok (.ireturn, 1) := by decide +kernel
theorem dX4_within_0 : decode cX4_within 0 = .ok (.iload_n 0, 1) := by decide +kernel
theorem dX4_within_1 : decode cX4_within 1 = .ok (.iload_n 1, 1) := by decide +kernel
theorem dX4_within_2 : decode cX4_within 2 = .ok (.if_icmp .lt 12, 3) := by decide +kernel
theorem dX4_within_5 : decode cX4_within 5 = .ok (.iload_n 0, 1) := by decide +kernel
theorem dX4_within_6 : decode cX4_within 6 = .ok (.iload_n 2, 1) := by decide +kernel
theorem dX4_within_7 : decode cX4_within 7 = .ok (.if_icmp .gt 7, 3) := by decide +kernel
theorem dX4_within_10 : decode cX4_within 10 = .ok (.iconst 1, 1) := by decide +kernel
theorem dX4_within_11 : decode cX4_within 11 = .ok (.goto 4, 3) := by decide +kernel
theorem dX4_within_14 : decode cX4_within 14 = .ok (.iconst 0, 1) := by decide +kernel
theorem dX4_within_15 : decode cX4_within 15 = .ok (.ireturn, 1) := by decide +kernel
theorem dX4_many_0 : decode cX4_many 0 = .ok (.aload_n 0, 1) := by decide +kernel
theorem dX4_many_1 : decode cX4_many 1 = .ok (.getfield 7, 3) := by decide +kernel
theorem dX4_many_4 : decode cX4_many 4 = .ok (.iconst 0, 1) := by decide +kernel
theorem dX4_many_5 : decode cX4_many 5 = .ok (.iaload, 1) := by decide +kernel
theorem dX4_many_6 : decode cX4_many 6 = .ok (.ireturn, 1) := by decide +kernel
theorem dX4_isMachine_0 : decode cX4_isMachine 0 = .ok (.iload_n 1, 1) := by decide +kernel
theorem dX4_isMachine_1 : decode cX4_isMachine 1 = .ok (.iconst 0, 1) := by decide +kernel
theorem dX4_isMachine_2 : decode cX4_isMachine 2 = .ok (.aload_n 0, 1) := by decide +kernel
theorem dX4_isMachine_3 : decode cX4_isMachine 3 = .ok (.getfield 7, 3) := by decide +kernel
theorem dX4_isMachine_6 : decode cX4_isMachine 6 = .ok (.iconst 0, 1) := by decide +kernel
theorem dX4_isMachine_7 : decode cX4_isMachine 7 = .ok (.iaload, 1) := by decide +kernel
theorem dX4_isMachine_8 : decode cX4_isMachine 8 = .ok (.iconst 1, 1) := by decide +kernel
theorem dX4_isMachine_9 : decode cX4_isMachine 9 = .ok (.isub, 1) := by decide +kernel
theorem dX4_isMachine_10 : decode cX4_isMachine 10 = .ok (.invokestatic 24, 3) := by decide +kernel
theorem dX4_isMachine_13 : decode cX4_isMachine 13 = .ok (.ireturn, 1) := by decide +kernel
theorem dX4_at_0 : decode cX4_at 0 = .ok (.iconst 1, 1) := by decide +kernel
theorem dX4_at_1 : decode cX4_at 1 = .ok (.sipush 433, 3) := by decide +kernel
theorem dX4_at_4 : decode cX4_at 4 = .ok (.iload_n 0, 1) := by decide +kernel
theorem dX4_at_5 : decode cX4_at 5 = .ok (.imul, 1) := by decide +kernel
theorem dX4_at_6 : decode cX4_at 6 = .ok (.iadd, 1) := by decide +kernel
theorem dX4_at_7 : decode cX4_at 7 = .ok (.iload_n 1, 1) := by decide +kernel
theorem dX4_at_8 : decode cX4_at 8 = .ok (.iadd, 1) := by decide +kernel
theorem dX4_at_9 : decode cX4_at 9 = .ok (.ireturn, 1) := by decide +kernel
theorem dX4_get_0 : decode cX4_get 0 = .ok (.aload_n 0, 1) := by decide +kernel
theorem dX4_get_1 : decode cX4_get 1 = .ok (.getfield 7, 3) := by decide +kernel
theorem dX4_get_4 : decode cX4_get 4 = .ok (.iload_n 1, 1) := by decide +kernel
theorem dX4_get_5 : decode cX4_get 5 = .ok (.iload_n 2, 1) := by decide +kernel
theorem dX4_get_6 : decode cX4_get 6 = .ok (.invokestatic 28, 3) := by decide +kernel
theorem dX4_get_9 : decode cX4_get 9 = .ok (.iaload, 1) := by decide +kernel
theorem dX4_get_10 : decode cX4_get 10 = .ok (.ireturn, 1) := by decide +kernel
theorem dX4_begins_0 : decode cX4_begins 0 = .ok (.iconst 0, 1) := by decide +kernel
theorem dX4_begins_1 : decode cX4_begins 1 = .ok (.istore_n 2, 1) := by decide +kernel
theorem dX4_begins_2 : decode cX4_begins 2 = .ok (.iload_n 2, 1) := by decide +kernel
theorem dX4_begins_3 : decode cX4_begins 3 = .ok (.sipush 2921, 3) := by decide +kernel
theorem dX4_begins_6 : decode cX4_begins 6 = .ok (.if_icmp .ge 16, 3) := by decide +kernel
theorem dX4_begins_9 : decode cX4_begins 9 = .ok (.aload_n 0, 1) := by decide +kernel
theorem dX4_begins_10 : decode cX4_begins 10 = .ok (.getfield 7, 3) := by decide +kernel
theorem dX4_begins_13 : decode cX4_begins 13 = .ok (.iload_n 2, 1) := by decide +kernel
theorem dX4_begins_14 : decode cX4_begins 14 = .ok (.iconst 0, 1) := by decide +kernel
theorem dX4_begins_15 : decode cX4_begins 15 = .ok (.iastore, 1) := by decide +kernel
theorem dX4_begins_16 : decode cX4_begins 16 = .ok (.iinc 2 1, 3) := by decide +kernel
theorem dX4_begins_19 : decode cX4_begins 19 = .ok (.goto (-17), 3) := by decide +kernel
theorem dX4_begins_22 : decode cX4_begins 22 = .ok (.aload_n 0, 1) := by decide +kernel
theorem dX4_begins_23 : decode cX4_begins 23 = .ok (.getfield 7, 3) := by decide +kernel
theorem dX4_begins_26 : decode cX4_begins 26 = .ok (.iconst 0, 1) := by decide +kernel
theorem dX4_begins_27 : decode cX4_begins 27 = .ok (.iload_n 1, 1) := by decide +kernel
theorem dX4_begins_28 : decode cX4_begins 28 = .ok (.iastore, 1) := by decide +kernel
theorem dX4_begins_29 : decode cX4_begins 29 = .ok (.iconst 0, 1) := by decide +kernel
theorem dX4_begins_30 : decode cX4_begins 30 = .ok (.istore_n 2, 1) := by decide +kernel
theorem dX4_begins_31 : decode cX4_begins 31 = .ok (.iload_n 2, 1) := by decide +kernel
theorem dX4_begins_32 : decode cX4_begins 32 = .ok (.iload_n 1, 1) := by decide +kernel
theorem dX4_begins_33 : decode cX4_begins 33 = .ok (.if_icmp .ge 41, 3) := by decide +kernel
theorem dX4_begins_36 : decode cX4_begins 36 = .ok (.aload_n 0, 1) := by decide +kernel
theorem dX4_begins_37 : decode cX4_begins 37 = .ok (.getfield 7, 3) := by decide +kernel
theorem dX4_begins_40 : decode cX4_begins 40 = .ok (.iload_n 2, 1) := by decide +kernel
theorem dX4_begins_41 : decode cX4_begins 41 = .ok (.iconst 0, 1) := by decide +kernel
theorem dX4_begins_42 : decode cX4_begins 42 = .ok (.invokestatic 28, 3) := by decide +kernel
theorem dX4_begins_45 : decode cX4_begins 45 = .ok (.iload_n 2, 1) := by decide +kernel
theorem dX4_begins_46 : decode cX4_begins 46 = .ok (.iastore, 1) := by decide +kernel
theorem dX4_begins_47 : decode cX4_begins 47 = .ok (.aload_n 0, 1) := by decide +kernel
theorem dX4_begins_48 : decode cX4_begins 48 = .ok (.getfield 7, 3) := by decide +kernel
theorem dX4_begins_51 : decode cX4_begins 51 = .ok (.iload_n 2, 1) := by decide +kernel
theorem dX4_begins_52 : decode cX4_begins 52 = .ok (.iconst 3, 1) := by decide +kernel
theorem dX4_begins_53 : decode cX4_begins 53 = .ok (.invokestatic 28, 3) := by decide +kernel
theorem dX4_begins_56 : decode cX4_begins 56 = .ok (.iconst 1, 1) := by decide +kernel
theorem dX4_begins_57 : decode cX4_begins 57 = .ok (.iload_n 1, 1) := by decide +kernel
theorem dX4_begins_58 : decode cX4_begins 58 = .ok (.ishl, 1) := by decide +kernel
theorem dX4_begins_59 : decode cX4_begins 59 = .ok (.iconst 1, 1) := by decide +kernel
theorem dX4_begins_60 : decode cX4_begins 60 = .ok (.isub, 1) := by decide +kernel
theorem dX4_begins_61 : decode cX4_begins 61 = .ok (.iconst 1, 1) := by decide +kernel
theorem dX4_begins_62 : decode cX4_begins 62 = .ok (.iload_n 2, 1) := by decide +kernel
theorem dX4_begins_63 : decode cX4_begins 63 = .ok (.ishl, 1) := by decide +kernel
theorem dX4_begins_64 : decode cX4_begins 64 = .ok (.iconst (-1), 1) := by decide +kernel
theorem dX4_begins_65 : decode cX4_begins 65 = .ok (.ixor, 1) := by decide +kernel
theorem dX4_begins_66 : decode cX4_begins 66 = .ok (.iand, 1) := by decide +kernel
theorem dX4_begins_67 : decode cX4_begins 67 = .ok (.iastore, 1) := by decide +kernel
theorem dX4_begins_68 : decode cX4_begins 68 = .ok (.iinc 2 1, 3) := by decide +kernel
theorem dX4_begins_71 : decode cX4_begins 71 = .ok (.goto (-40), 3) := by decide +kernel
theorem dX4_begins_74 : decode cX4_begins 74 = .ok (.return_, 1) := by decide +kernel
theorem dX4_saves_0 : decode cX4_saves 0 = .ok (.aload_n 0, 1) := by decide +kernel
theorem dX4_saves_1 : decode cX4_saves 1 = .ok (.getfield 32, 3) := by decide +kernel
theorem dX4_saves_4 : decode cX4_saves 4 = .ok (.iconst 4, 1) := by decide +kernel
theorem dX4_saves_5 : decode cX4_saves 5 = .ok (.if_icmp .ne 44, 3) := by decide +kernel
theorem dX4_saves_8 : decode cX4_saves 8 = .ok (.iconst 0, 1) := by decide +kernel
theorem dX4_saves_9 : decode cX4_saves 9 = .ok (.istore_n 1, 1) := by decide +kernel
theorem dX4_saves_10 : decode cX4_saves 10 = .ok (.iload_n 1, 1) := by decide +kernel
theorem dX4_saves_11 : decode cX4_saves 11 = .ok (.sipush 8763, 3) := by decide +kernel
theorem dX4_saves_14 : decode cX4_saves 14 = .ok (.if_icmp .ge 25, 3) := by decide +kernel
theorem dX4_saves_17 : decode cX4_saves 17 = .ok (.aload_n 0, 1) := by decide +kernel
theorem dX4_saves_18 : decode cX4_saves 18 = .ok (.getfield 13, 3) := by decide +kernel
theorem dX4_saves_21 : decode cX4_saves 21 = .ok (.iload_n 1, 1) := by decide +kernel
theorem dX4_saves_22 : decode cX4_saves 22 = .ok (.aload_n 0, 1) := by decide +kernel
theorem dX4_saves_23 : decode cX4_saves 23 = .ok (.getfield 13, 3) := by decide +kernel
theorem dX4_saves_26 : decode cX4_saves 26 = .ok (.iload_n 1, 1) := by decide +kernel
theorem dX4_saves_27 : decode cX4_saves 27 = .ok (.sipush 2921, 3) := by decide +kernel
theorem dX4_saves_30 : decode cX4_saves 30 = .ok (.iadd, 1) := by decide +kernel
theorem dX4_saves_31 : decode cX4_saves 31 = .ok (.iaload, 1) := by decide +kernel
theorem dX4_saves_32 : decode cX4_saves 32 = .ok (.iastore, 1) := by decide +kernel
theorem dX4_saves_33 : decode cX4_saves 33 = .ok (.iinc 1 1, 3) := by decide +kernel
theorem dX4_saves_36 : decode cX4_saves 36 = .ok (.goto (-26), 3) := by decide +kernel
theorem dX4_saves_39 : decode cX4_saves 39 = .ok (.aload_n 0, 1) := by decide +kernel
theorem dX4_saves_40 : decode cX4_saves 40 = .ok (.dup, 1) := by decide +kernel
theorem dX4_saves_41 : decode cX4_saves 41 = .ok (.getfield 32, 3) := by decide +kernel
theorem dX4_saves_44 : decode cX4_saves 44 = .ok (.iconst 1, 1) := by decide +kernel
theorem dX4_saves_45 : decode cX4_saves 45 = .ok (.isub, 1) := by decide +kernel
theorem dX4_saves_46 : decode cX4_saves 46 = .ok (.putfield 32, 3) := by decide +kernel
theorem dX4_saves_49 : decode cX4_saves 49 = .ok (.iconst 0, 1) := by decide +kernel
theorem dX4_saves_50 : decode cX4_saves 50 = .ok (.istore_n 1, 1) := by decide +kernel
theorem dX4_saves_51 : decode cX4_saves 51 = .ok (.iload_n 1, 1) := by decide +kernel
theorem dX4_saves_52 : decode cX4_saves 52 = .ok (.sipush 2921, 3) := by decide +kernel
theorem dX4_saves_55 : decode cX4_saves 55 = .ok (.if_icmp .ge 30, 3) := by decide +kernel
theorem dX4_saves_58 : decode cX4_saves 58 = .ok (.aload_n 0, 1) := by decide +kernel
theorem dX4_saves_59 : decode cX4_saves 59 = .ok (.getfield 13, 3) := by decide +kernel
theorem dX4_saves_62 : decode cX4_saves 62 = .ok (.sipush 2921, 3) := by decide +kernel
theorem dX4_saves_65 : decode cX4_saves 65 = .ok (.aload_n 0, 1) := by decide +kernel
theorem dX4_saves_66 : decode cX4_saves 66 = .ok (.getfield 32, 3) := by decide +kernel
theorem dX4_saves_69 : decode cX4_saves 69 = .ok (.imul, 1) := by decide +kernel
theorem dX4_saves_70 : decode cX4_saves 70 = .ok (.iload_n 1, 1) := by decide +kernel
theorem dX4_saves_71 : decode cX4_saves 71 = .ok (.iadd, 1) := by decide +kernel
theorem dX4_saves_72 : decode cX4_saves 72 = .ok (.aload_n 0, 1) := by decide +kernel
theorem dX4_saves_73 : decode cX4_saves 73 = .ok (.getfield 7, 3) := by decide +kernel
theorem dX4_saves_76 : decode cX4_saves 76 = .ok (.iload_n 1, 1) := by decide +kernel
theorem dX4_saves_77 : decode cX4_saves 77 = .ok (.iaload, 1) := by decide +kernel
theorem dX4_saves_78 : decode cX4_saves 78 = .ok (.iastore, 1) := by decide +kernel
theorem dX4_saves_79 : decode cX4_saves 79 = .ok (.iinc 1 1, 3) := by decide +kernel
theorem dX4_saves_82 : decode cX4_saves 82 = .ok (.goto (-31), 3) := by decide +kernel
theorem dX4_saves_85 : decode cX4_saves 85 = .ok (.aload_n 0, 1) := by decide +kernel
theorem dX4_saves_86 : decode cX4_saves 86 = .ok (.dup, 1) := by decide +kernel
theorem dX4_saves_87 : decode cX4_saves 87 = .ok (.getfield 32, 3) := by decide +kernel
theorem dX4_saves_90 : decode cX4_saves 90 = .ok (.iconst 1, 1) := by decide +kernel
theorem dX4_saves_91 : decode cX4_saves 91 = .ok (.iadd, 1) := by decide +kernel
theorem dX4_saves_92 : decode cX4_saves 92 = .ok (.putfield 32, 3) := by decide +kernel
theorem dX4_saves_95 : decode cX4_saves 95 = .ok (.return_, 1) := by decide +kernel
theorem dX4_undo_0 : decode cX4_undo 0 = .ok (.aload_n 0, 1) := by decide +kernel
theorem dX4_undo_1 : decode cX4_undo 1 = .ok (.aload_n 0, 1) := by decide +kernel
theorem dX4_undo_2 : decode cX4_undo 2 = .ok (.getfield 32, 3) := by decide +kernel
theorem dX4_undo_5 : decode cX4_undo 5 = .ok (.ifCond .ne 7, 3) := by decide +kernel
theorem dX4_undo_8 : decode cX4_undo 8 = .ok (.iconst 1, 1) := by decide +kernel
theorem dX4_undo_9 : decode cX4_undo 9 = .ok (.goto 4, 3) := by decide +kernel
theorem dX4_undo_12 : decode cX4_undo 12 = .ok (.iconst 0, 1) := by decide +kernel
theorem dX4_undo_13 : decode cX4_undo 13 = .ok (.invokevirtual 35, 3) := by decide +kernel
theorem dX4_undo_16 : decode cX4_undo 16 = .ok (.ifCond .eq 5, 3) := by decide +kernel
theorem dX4_undo_19 : decode cX4_undo 19 = .ok (.iconst 0, 1) := by decide +kernel
theorem dX4_undo_20 : decode cX4_undo 20 = .ok (.ireturn, 1) := by decide +kernel
theorem dX4_undo_21 : decode cX4_undo 21 = .ok (.aload_n 0, 1) := by decide +kernel
theorem dX4_undo_22 : decode cX4_undo 22 = .ok (.dup, 1) := by decide +kernel
theorem dX4_undo_23 : decode cX4_undo 23 = .ok (.getfield 32, 3) := by decide +kernel
theorem dX4_undo_26 : decode cX4_undo 26 = .ok (.iconst 1, 1) := by decide +kernel
theorem dX4_undo_27 : decode cX4_undo 27 = .ok (.isub, 1) := by decide +kernel
theorem dX4_undo_28 : decode cX4_undo 28 = .ok (.putfield 32, 3) := by decide +kernel
theorem dX4_undo_31 : decode cX4_undo 31 = .ok (.iconst 0, 1) := by decide +kernel
theorem dX4_undo_32 : decode cX4_undo 32 = .ok (.istore_n 1, 1) := by decide +kernel
theorem dX4_undo_33 : decode cX4_undo 33 = .ok (.iload_n 1, 1) := by decide +kernel
theorem dX4_undo_34 : decode cX4_undo 34 = .ok (.sipush 2921, 3) := by decide +kernel
theorem dX4_undo_37 : decode cX4_undo 37 = .ok (.if_icmp .ge 30, 3) := by decide +kernel
theorem dX4_undo_40 : decode cX4_undo 40 = .ok (.aload_n 0, 1) := by decide +kernel
theorem dX4_undo_41 : decode cX4_undo 41 = .ok (.getfield 7, 3) := by decide +kernel
theorem dX4_undo_44 : decode cX4_undo 44 = .ok (.iload_n 1, 1) := by decide +kernel
theorem dX4_undo_45 : decode cX4_undo 45 = .ok (.aload_n 0, 1) := by decide +kernel
theorem dX4_undo_46 : decode cX4_undo 46 = .ok (.getfield 13, 3) := by decide +kernel
theorem dX4_undo_49 : decode cX4_undo 49 = .ok (.sipush 2921, 3) := by decide +kernel
theorem dX4_undo_52 : decode cX4_undo 52 = .ok (.aload_n 0, 1) := by decide +kernel
theorem dX4_undo_53 : decode cX4_undo 53 = .ok (.getfield 32, 3) := by decide +kernel
theorem dX4_undo_56 : decode cX4_undo 56 = .ok (.imul, 1) := by decide +kernel
theorem dX4_undo_57 : decode cX4_undo 57 = .ok (.iload_n 1, 1) := by decide +kernel
theorem dX4_undo_58 : decode cX4_undo 58 = .ok (.iadd, 1) := by decide +kernel
theorem dX4_undo_59 : decode cX4_undo 59 = .ok (.iaload, 1) := by decide +kernel
theorem dX4_undo_60 : decode cX4_undo 60 = .ok (.iastore, 1) := by decide +kernel
theorem dX4_undo_61 : decode cX4_undo 61 = .ok (.iinc 1 1, 3) := by decide +kernel
theorem dX4_undo_64 : decode cX4_undo 64 = .ok (.goto (-31), 3) := by decide +kernel
theorem dX4_undo_67 : decode cX4_undo 67 = .ok (.aload_n 0, 1) := by decide +kernel
theorem dX4_undo_68 : decode cX4_undo 68 = .ok (.getfield 32, 3) := by decide +kernel
theorem dX4_undo_71 : decode cX4_undo 71 = .ok (.ireturn, 1) := by decide +kernel
theorem dX4_entryOf_0 : decode cX4_entryOf 0 = .ok (.ldc 39, 2) := by decide +kernel
theorem dX4_entryOf_2 : decode cX4_entryOf 2 = .ok (.iload_n 0, 1) := by decide +kernel
theorem dX4_entryOf_3 : decode cX4_entryOf 3 = .ok (.imul, 1) := by decide +kernel
theorem dX4_entryOf_4 : decode cX4_entryOf 4 = .ok (.sipush 10000, 3) := by decide +kernel
theorem dX4_entryOf_7 : decode cX4_entryOf 7 = .ok (.iload_n 1, 1) := by decide +kernel
theorem dX4_entryOf_8 : decode cX4_entryOf 8 = .ok (.iconst 1, 1) := by decide +kernel
theorem dX4_entryOf_9 : decode cX4_entryOf 9 = .ok (.iadd, 1) := by decide +kernel
theorem dX4_entryOf_10 : decode cX4_entryOf 10 = .ok (.imul, 1) := by decide +kernel
theorem dX4_entryOf_11 : decode cX4_entryOf 11 = .ok (.iadd, 1) := by decide +kernel
theorem dX4_entryOf_12 : decode cX4_entryOf 12 = .ok (.iload_n 2, 1) := by decide +kernel
theorem dX4_entryOf_13 : decode cX4_entryOf 13 = .ok (.iadd, 1) := by decide +kernel
theorem dX4_entryOf_14 : decode cX4_entryOf 14 = .ok (.ireturn, 1) := by decide +kernel
theorem dX4_kindOf_0 : decode cX4_kindOf 0 = .ok (.iload_n 0, 1) := by decide +kernel
theorem dX4_kindOf_1 : decode cX4_kindOf 1 = .ok (.ldc 39, 2) := by decide +kernel
theorem dX4_kindOf_3 : decode cX4_kindOf 3 = .ok (.idiv, 1) := by decide +kernel
theorem dX4_kindOf_4 : decode cX4_kindOf 4 = .ok (.ireturn, 1) := by decide +kernel
theorem dX4_peerOf_0 : decode cX4_peerOf 0 = .ok (.iload_n 0, 1) := by decide +kernel
theorem dX4_peerOf_1 : decode cX4_peerOf 1 = .ok (.sipush 10000, 3) := by decide +kernel
theorem dX4_peerOf_4 : decode cX4_peerOf 4 = .ok (.idiv, 1) := by decide +kernel
theorem dX4_peerOf_5 : decode cX4_peerOf 5 = .ok (.bipush 10, 2) := by decide +kernel
theorem dX4_peerOf_7 : decode cX4_peerOf 7 = .ok (.irem, 1) := by decide +kernel
theorem dX4_peerOf_8 : decode cX4_peerOf 8 = .ok (.iconst 1, 1) := by decide +kernel
theorem dX4_peerOf_9 : decode cX4_peerOf 9 = .ok (.isub, 1) := by decide +kernel
theorem dX4_peerOf_10 : decode cX4_peerOf 10 = .ok (.ireturn, 1) := by decide +kernel
theorem dX4_valueOf_0 : decode cX4_valueOf 0 = .ok (.iload_n 0, 1) := by decide +kernel
theorem dX4_valueOf_1 : decode cX4_valueOf 1 = .ok (.sipush 10000, 3) := by decide +kernel
theorem dX4_valueOf_4 : decode cX4_valueOf 4 = .ok (.irem, 1) := by decide +kernel
theorem dX4_valueOf_5 : decode cX4_valueOf 5 = .ok (.ireturn, 1) := by decide +kernel
theorem dX4_entryAt_0 : decode cX4_entryAt 0 = .ok (.aload_n 0, 1) := by decide +kernel
theorem dX4_entryAt_1 : decode cX4_entryAt 1 = .ok (.iload_n 1, 1) := by decide +kernel
theorem dX4_entryAt_2 : decode cX4_entryAt 2 = .ok (.iconst 5, 1) := by decide +kernel
theorem dX4_entryAt_3 : decode cX4_entryAt 3 = .ok (.iload_n 2, 1) := by decide +kernel
theorem dX4_entryAt_4 : decode cX4_entryAt 4 = .ok (.iadd, 1) := by decide +kernel
theorem dX4_entryAt_5 : decode cX4_entryAt 5 = .ok (.invokevirtual 40, 3) := by decide +kernel
theorem dX4_entryAt_8 : decode cX4_entryAt 8 = .ok (.ireturn, 1) := by decide +kernel
theorem dX4_chainAt_0 : decode cX4_chainAt 0 = .ok (.lconst 1, 1) := by decide +kernel
theorem dX4_chainAt_1 : decode cX4_chainAt 1 = .ok (.lstore_n 3, 1) := by decide +kernel
theorem dX4_chainAt_2 : decode cX4_chainAt 2 = .ok (.iconst 0, 1) := by decide +kernel
theorem dX4_chainAt_3 : decode cX4_chainAt 3 = .ok (.istore 5, 2) := by decide +kernel
theorem dX4_chainAt_5 : decode cX4_chainAt 5 = .ok (.iload 5, 2) := by decide +kernel
theorem dX4_chainAt_7 : decode cX4_chainAt 7 = .ok (.iload_n 2, 1) := by decide +kernel
theorem dX4_chainAt_8 : decode cX4_chainAt 8 = .ok (.if_icmp .ge 63, 3) := by decide +kernel
theorem dX4_chainAt_11 : decode cX4_chainAt 11 = .ok (.aload_n 0, 1) := by decide +kernel
theorem dX4_chainAt_12 : decode cX4_chainAt 12 = .ok (.iload_n 1, 1) := by decide +kernel
theorem dX4_chainAt_13 : decode cX4_chainAt 13 = .ok (.iload 5, 2) := by decide +kernel
theorem dX4_chainAt_15 : decode cX4_chainAt 15 = .ok (.invokevirtual 43, 3) := by decide +kernel
theorem dX4_chainAt_18 : decode cX4_chainAt 18 = .ok (.istore 6, 2) := by decide +kernel
theorem dX4_chainAt_20 : decode cX4_chainAt 20 = .ok (.lload_n 3, 1) := by decide +kernel
theorem dX4_chainAt_21 : decode cX4_chainAt 21 = .ok (.ldc2_w 46, 3) := by decide +kernel
theorem dX4_chainAt_24 : decode cX4_chainAt 24 = .ok (.lmul, 1) := by decide +kernel
theorem dX4_chainAt_25 : decode cX4_chainAt 25 = .ok (.ldc2_w 48, 3) := by decide +kernel
theorem dX4_chainAt_28 : decode cX4_chainAt 28 = .ok (.iload 6, 2) := by decide +kernel
theorem dX4_chainAt_30 : decode cX4_chainAt 30 = .ok (.invokestatic 50, 3) := by decide +kernel
theorem dX4_chainAt_33 : decode cX4_chainAt 33 = .ok (.i2l, 1) := by decide +kernel
theorem dX4_chainAt_34 : decode cX4_chainAt 34 = .ok (.lmul, 1) := by decide +kernel
theorem dX4_chainAt_35 : decode cX4_chainAt 35 = .ok (.ladd, 1) := by decide +kernel
theorem dX4_chainAt_36 : decode cX4_chainAt 36 = .ok (.ldc2_w 54, 3) := by decide +kernel
theorem dX4_chainAt_39 : decode cX4_chainAt 39 = .ok (.iload 6, 2) := by decide +kernel
theorem dX4_chainAt_41 : decode cX4_chainAt 41 = .ok (.invokestatic 56, 3) := by decide +kernel
theorem dX4_chainAt_44 : decode cX4_chainAt 44 = .ok (.iconst 1, 1) := by decide +kernel
theorem dX4_chainAt_45 : decode cX4_chainAt 45 = .ok (.iadd, 1) := by decide +kernel
theorem dX4_chainAt_46 : decode cX4_chainAt 46 = .ok (.i2l, 1) := by decide +kernel
theorem dX4_chainAt_47 : decode cX4_chainAt 47 = .ok (.lmul, 1) := by decide +kernel
theorem dX4_chainAt_48 : decode cX4_chainAt 48 = .ok (.ladd, 1) := by decide +kernel
theorem dX4_chainAt_49 : decode cX4_chainAt 49 = .ok (.ldc2_w 59, 3) := by decide +kernel
theorem dX4_chainAt_52 : decode cX4_chainAt 52 = .ok (.iload 6, 2) := by decide +kernel
theorem dX4_chainAt_54 : decode cX4_chainAt 54 = .ok (.invokestatic 61, 3) := by decide +kernel
theorem dX4_chainAt_57 : decode cX4_chainAt 57 = .ok (.i2l, 1) := by decide +kernel
theorem dX4_chainAt_58 : decode cX4_chainAt 58 = .ok (.lmul, 1) := by decide +kernel
theorem dX4_chainAt_59 : decode cX4_chainAt 59 = .ok (.ladd, 1) := by decide +kernel
theorem dX4_chainAt_60 : decode cX4_chainAt 60 = .ok (.ldc2_w 64, 3) := by decide +kernel
theorem dX4_chainAt_63 : decode cX4_chainAt 63 = .ok (.lrem, 1) := by decide +kernel
theorem dX4_chainAt_64 : decode cX4_chainAt 64 = .ok (.lstore_n 3, 1) := by decide +kernel
theorem dX4_chainAt_65 : decode cX4_chainAt 65 = .ok (.iinc 5 1, 3) := by decide +kernel
theorem dX4_chainAt_68 : decode cX4_chainAt 68 = .ok (.goto (-63), 3) := by decide +kernel
theorem dX4_chainAt_71 : decode cX4_chainAt 71 = .ok (.lload_n 3, 1) := by decide +kernel
theorem dX4_chainAt_72 : decode cX4_chainAt 72 = .ok (.l2i, 1) := by decide +kernel
theorem dX4_chainAt_73 : decode cX4_chainAt 73 = .ok (.ireturn, 1) := by decide +kernel
theorem dX4_logs_0 : decode cX4_logs 0 = .ok (.aload_n 0, 1) := by decide +kernel
theorem dX4_logs_1 : decode cX4_logs 1 = .ok (.getfield 7, 3) := by decide +kernel
theorem dX4_logs_4 : decode cX4_logs 4 = .ok (.iload_n 1, 1) := by decide +kernel
theorem dX4_logs_5 : decode cX4_logs 5 = .ok (.iconst 5, 1) := by decide +kernel
theorem dX4_logs_6 : decode cX4_logs 6 = .ok (.aload_n 0, 1) := by decide +kernel
theorem dX4_logs_7 : decode cX4_logs 7 = .ok (.iload_n 1, 1) := by decide +kernel
theorem dX4_logs_8 : decode cX4_logs 8 = .ok (.iconst 4, 1) := by decide +kernel
theorem dX4_logs_9 : decode cX4_logs 9 = .ok (.invokevirtual 40, 3) := by decide +kernel
theorem dX4_logs_12 : decode cX4_logs 12 = .ok (.iadd, 1) := by decide +kernel
theorem dX4_logs_13 : decode cX4_logs 13 = .ok (.invokestatic 28, 3) := by decide +kernel
theorem dX4_logs_16 : decode cX4_logs 16 = .ok (.iload_n 2, 1) := by decide +kernel
theorem dX4_logs_17 : decode cX4_logs 17 = .ok (.iastore, 1) := by decide +kernel
theorem dX4_logs_18 : decode cX4_logs 18 = .ok (.aload_n 0, 1) := by decide +kernel
theorem dX4_logs_19 : decode cX4_logs 19 = .ok (.getfield 7, 3) := by decide +kernel
theorem dX4_logs_22 : decode cX4_logs 22 = .ok (.iload_n 1, 1) := by decide +kernel
theorem dX4_logs_23 : decode cX4_logs 23 = .ok (.iconst 4, 1) := by decide +kernel
theorem dX4_logs_24 : decode cX4_logs 24 = .ok (.invokestatic 28, 3) := by decide +kernel
theorem dX4_logs_27 : decode cX4_logs 27 = .ok (.dup2, 1) := by decide +kernel
theorem dX4_logs_28 : decode cX4_logs 28 = .ok (.iaload, 1) := by decide +kernel
theorem dX4_logs_29 : decode cX4_logs 29 = .ok (.iconst 1, 1) := by decide +kernel
theorem dX4_logs_30 : decode cX4_logs 30 = .ok (.iadd, 1) := by decide +kernel
theorem dX4_logs_31 : decode cX4_logs 31 = .ok (.iastore, 1) := by decide +kernel
theorem dX4_logs_32 : decode cX4_logs 32 = .ok (.return_, 1) := by decide +kernel
theorem dX4_comesToHold_0 : decode cX4_comesToHold 0 = .ok (.aload_n 0, 1) := by decide +kernel
theorem dX4_comesToHold_1 : decode cX4_comesToHold 1 = .ok (.iload_n 1, 1) := by decide +kernel
theorem dX4_comesToHold_2 : decode cX4_comesToHold 2 = .ok (.bipush 45, 2) := by decide +kernel
theorem dX4_comesToHold_4 : decode cX4_comesToHold 4 = .ok (.invokevirtual 40, 3) := by decide +kernel
theorem dX4_comesToHold_7 : decode cX4_comesToHold 7 = .ok (.bipush 60, 2) := by decide +kernel
theorem dX4_comesToHold_9 : decode cX4_comesToHold 9 = .ok (.if_icmp .ne 61, 3) := by decide +kernel
theorem dX4_comesToHold_12 : decode cX4_comesToHold 12 = .ok (.iconst 0, 1) := by decide +kernel
theorem dX4_comesToHold_13 : decode cX4_comesToHold 13 = .ok (.istore 5, 2) := by decide +kernel
theorem dX4_comesToHold_15 : decode cX4_comesToHold 15 = .ok (.iload 5, 2) := by decide +kernel
theorem dX4_comesToHold_17 : decode cX4_comesToHold 17 = .ok (.sipush 177, 3) := by decide +kernel
theorem dX4_comesToHold_20 : decode cX4_comesToHold 20 = .ok (.if_icmp .ge 35, 3) := by decide +kernel
theorem dX4_comesToHold_23 : decode cX4_comesToHold 23 = .ok (.aload_n 0, 1) := by decide +kernel
theorem dX4_comesToHold_24 : decode cX4_comesToHold 24 = .ok (.getfield 7, 3) := by decide +kernel
theorem dX4_comesToHold_27 : decode cX4_comesToHold 27 = .ok (.iload_n 1, 1) := by decide +kernel
theorem dX4_comesToHold_28 : decode cX4_comesToHold 28 = .ok (.bipush 46, 2) := by decide +kernel
theorem dX4_comesToHold_30 : decode cX4_comesToHold 30 = .ok (.iload 5, 2) := by decide +kernel
theorem dX4_comesToHold_32 : decode cX4_comesToHold 32 = .ok (.iadd, 1) := by decide +kernel
theorem dX4_comesToHold_33 : decode cX4_comesToHold 33 = .ok (.invokestatic 28, 3) := by decide +kernel
theorem dX4_comesToHold_36 : decode cX4_comesToHold 36 = .ok (.aload_n 0, 1) := by decide +kernel
theorem dX4_comesToHold_37 : decode cX4_comesToHold 37 = .ok (.iload_n 1, 1) := by decide +kernel
theorem dX4_comesToHold_38 : decode cX4_comesToHold 38 = .ok (.bipush 46, 2) := by decide +kernel
theorem dX4_comesToHold_40 : decode cX4_comesToHold 40 = .ok (.iload 5, 2) := by decide +kernel
theorem dX4_comesToHold_42 : decode cX4_comesToHold 42 = .ok (.iadd, 1) := by decide +kernel
theorem dX4_comesToHold_43 : decode cX4_comesToHold 43 = .ok (.iconst 3, 1) := by decide +kernel
theorem dX4_comesToHold_44 : decode cX4_comesToHold 44 = .ok (.iadd, 1) := by decide +kernel
theorem dX4_comesToHold_45 : decode cX4_comesToHold 45 = .ok (.invokevirtual 40, 3) := by decide +kernel
theorem dX4_comesToHold_48 : decode cX4_comesToHold 48 = .ok (.iastore, 1) := by decide +kernel
theorem dX4_comesToHold_49 : decode cX4_comesToHold 49 = .ok (.iinc 5 1, 3) := by decide +kernel
theorem dX4_comesToHold_52 : decode cX4_comesToHold 52 = .ok (.goto (-37), 3) := by decide +kernel
theorem dX4_comesToHold_55 : decode cX4_comesToHold 55 = .ok (.aload_n 0, 1) := by decide +kernel
theorem dX4_comesToHold_56 : decode cX4_comesToHold 56 = .ok (.getfield 7, 3) := by decide +kernel
theorem dX4_comesToHold_59 : decode cX4_comesToHold 59 = .ok (.iload_n 1, 1) := by decide +kernel
theorem dX4_comesToHold_60 : decode cX4_comesToHold 60 = .ok (.bipush 45, 2) := by decide +kernel
theorem dX4_comesToHold_62 : decode cX4_comesToHold 62 = .ok (.invokestatic 28, 3) := by decide +kernel
theorem dX4_comesToHold_65 : decode cX4_comesToHold 65 = .ok (.dup2, 1) := by decide +kernel
theorem dX4_comesToHold_66 : decode cX4_comesToHold 66 = .ok (.iaload, 1) := by decide +kernel
theorem dX4_comesToHold_67 : decode cX4_comesToHold 67 = .ok (.iconst 1, 1) := by decide +kernel
theorem dX4_comesToHold_68 : decode cX4_comesToHold 68 = .ok (.isub, 1) := by decide +kernel
theorem dX4_comesToHold_69 : decode cX4_comesToHold 69 = .ok (.iastore, 1) := by decide +kernel
theorem dX4_comesToHold_70 : decode cX4_comesToHold 70 = .ok (.iload_n 1, 1) := by decide +kernel
theorem dX4_comesToHold_71 : decode cX4_comesToHold 71 = .ok (.bipush 46, 2) := by decide +kernel
theorem dX4_comesToHold_73 : decode cX4_comesToHold 73 = .ok (.iconst 3, 1) := by decide +kernel
theorem dX4_comesToHold_74 : decode cX4_comesToHold 74 = .ok (.aload_n 0, 1) := by decide +kernel
theorem dX4_comesToHold_75 : decode cX4_comesToHold 75 = .ok (.iload_n 1, 1) := by decide +kernel
theorem dX4_comesToHold_76 : decode cX4_comesToHold 76 = .ok (.bipush 45, 2) := by decide +kernel
theorem dX4_comesToHold_78 : decode cX4_comesToHold 78 = .ok (.invokevirtual 40, 3) := by decide +kernel
theorem dX4_comesToHold_81 : decode cX4_comesToHold 81 = .ok (.imul, 1) := by decide +kernel
theorem dX4_comesToHold_82 : decode cX4_comesToHold 82 = .ok (.iadd, 1) := by decide +kernel
theorem dX4_comesToHold_83 : decode cX4_comesToHold 83 = .ok (.invokestatic 28, 3) := by decide +kernel
theorem dX4_comesToHold_86 : decode cX4_comesToHold 86 = .ok (.istore 5, 2) := by decide +kernel
theorem dX4_comesToHold_88 : decode cX4_comesToHold 88 = .ok (.aload_n 0, 1) := by decide +kernel
theorem dX4_comesToHold_89 : decode cX4_comesToHold 89 = .ok (.getfield 7, 3) := by decide +kernel
theorem dX4_comesToHold_92 : decode cX4_comesToHold 92 = .ok (.iload 5, 2) := by decide +kernel
theorem dX4_comesToHold_94 : decode cX4_comesToHold 94 = .ok (.iload_n 2, 1) := by decide +kernel
theorem dX4_comesToHold_95 : decode cX4_comesToHold 95 = .ok (.iastore, 1) := by decide +kernel
theorem dX4_comesToHold_96 : decode cX4_comesToHold 96 = .ok (.aload_n 0, 1) := by decide +kernel
theorem dX4_comesToHold_97 : decode cX4_comesToHold 97 = .ok (.getfield 7, 3) := by decide +kernel
theorem dX4_comesToHold_100 : decode cX4_comesToHold 100 = .ok (.iload 5, 2) := by decide +kernel
theorem dX4_comesToHold_102 : decode cX4_comesToHold 102 = .ok (.iconst 1, 1) := by decide +kernel
theorem dX4_comesToHold_103 : decode cX4_comesToHold 103 = .ok (.iadd, 1) := by decide +kernel
theorem dX4_comesToHold_104 : decode cX4_comesToHold 104 = .ok (.iload_n 3, 1) := by decide +kernel
theorem dX4_comesToHold_105 : decode cX4_comesToHold 105 = .ok (.iastore, 1) := by decide +kernel
theorem dX4_comesToHold_106 : decode cX4_comesToHold 106 = .ok (.aload_n 0, 1) := by decide +kernel
theorem dX4_comesToHold_107 : decode cX4_comesToHold 107 = .ok (.getfield 7, 3) := by decide +kernel
theorem dX4_comesToHold_110 : decode cX4_comesToHold 110 = .ok (.iload 5, 2) := by decide +kernel
theorem dX4_comesToHold_112 : decode cX4_comesToHold 112 = .ok (.iconst 2, 1) := by decide +kernel
theorem dX4_comesToHold_113 : decode cX4_comesToHold 113 = .ok (.iadd, 1) := by decide +kernel
theorem dX4_comesToHold_114 : decode cX4_comesToHold 114 = .ok (.iload 4, 2) := by decide +kernel
theorem dX4_comesToHold_116 : decode cX4_comesToHold 116 = .ok (.iastore, 1) := by decide +kernel
theorem dX4_comesToHold_117 : decode cX4_comesToHold 117 = .ok (.aload_n 0, 1) := by decide +kernel
theorem dX4_comesToHold_118 : decode cX4_comesToHold 118 = .ok (.getfield 7, 3) := by decide +kernel
theorem dX4_comesToHold_121 : decode cX4_comesToHold 121 = .ok (.iload_n 1, 1) := by decide +kernel
theorem dX4_comesToHold_122 : decode cX4_comesToHold 122 = .ok (.bipush 45, 2) := by decide +kernel
theorem dX4_comesToHold_124 : decode cX4_comesToHold 124 = .ok (.invokestatic 28, 3) := by decide +kernel
theorem dX4_comesToHold_127 : decode cX4_comesToHold 127 = .ok (.dup2, 1) := by decide +kernel
theorem dX4_comesToHold_128 : decode cX4_comesToHold 128 = .ok (.iaload, 1) := by decide +kernel
theorem dX4_comesToHold_129 : decode cX4_comesToHold 129 = .ok (.iconst 1, 1) := by decide +kernel
theorem dX4_comesToHold_130 : decode cX4_comesToHold 130 = .ok (.iadd, 1) := by decide +kernel
theorem dX4_comesToHold_131 : decode cX4_comesToHold 131 = .ok (.iastore, 1) := by decide +kernel
theorem dX4_comesToHold_132 : decode cX4_comesToHold 132 = .ok (.return_, 1) := by decide +kernel
theorem dX4_behind_0 : decode cX4_behind 0 = .ok (.bipush 31, 2) := by decide +kernel
theorem dX4_behind_2 : decode cX4_behind 2 = .ok (.iload_n 0, 1) := by decide +kernel
theorem dX4_behind_3 : decode cX4_behind 3 = .ok (.imul, 1) := by decide +kernel
theorem dX4_behind_4 : decode cX4_behind 4 = .ok (.bipush 17, 2) := by decide +kernel
theorem dX4_behind_6 : decode cX4_behind 6 = .ok (.iload_n 1, 1) := by decide +kernel
theorem dX4_behind_7 : decode cX4_behind 7 = .ok (.imul, 1) := by decide +kernel
theorem dX4_behind_8 : decode cX4_behind 8 = .ok (.iadd, 1) := by decide +kernel
theorem dX4_behind_9 : decode cX4_behind 9 = .ok (.iload_n 2, 1) := by decide +kernel
theorem dX4_behind_10 : decode cX4_behind 10 = .ok (.iadd, 1) := by decide +kernel
theorem dX4_behind_11 : decode cX4_behind 11 = .ok (.iconst 2, 1) := by decide +kernel
theorem dX4_behind_12 : decode cX4_behind 12 = .ok (.iadd, 1) := by decide +kernel
theorem dX4_behind_13 : decode cX4_behind 13 = .ok (.sipush 9973, 3) := by decide +kernel
theorem dX4_behind_16 : decode cX4_behind 16 = .ok (.irem, 1) := by decide +kernel
theorem dX4_behind_17 : decode cX4_behind 17 = .ok (.ireturn, 1) := by decide +kernel
theorem dX4_goesTo_0 : decode cX4_goesTo 0 = .ok (.iload_n 1, 1) := by decide +kernel
theorem dX4_goesTo_1 : decode cX4_goesTo 1 = .ok (.iconst 1, 1) := by decide +kernel
theorem dX4_goesTo_2 : decode cX4_goesTo 2 = .ok (.iadd, 1) := by decide +kernel
theorem dX4_goesTo_3 : decode cX4_goesTo 3 = .ok (.iload_n 2, 1) := by decide +kernel
theorem dX4_goesTo_4 : decode cX4_goesTo 4 = .ok (.aload_n 0, 1) := by decide +kernel
theorem dX4_goesTo_5 : decode cX4_goesTo 5 = .ok (.invokevirtual 66, 3) := by decide +kernel
theorem dX4_goesTo_8 : decode cX4_goesTo 8 = .ok (.iconst 1, 1) := by decide +kernel
theorem dX4_goesTo_9 : decode cX4_goesTo 9 = .ok (.isub, 1) := by decide +kernel
theorem dX4_goesTo_10 : decode cX4_goesTo 10 = .ok (.irem, 1) := by decide +kernel
theorem dX4_goesTo_11 : decode cX4_goesTo 11 = .ok (.iadd, 1) := by decide +kernel
theorem dX4_goesTo_12 : decode cX4_goesTo 12 = .ok (.aload_n 0, 1) := by decide +kernel
theorem dX4_goesTo_13 : decode cX4_goesTo 13 = .ok (.invokevirtual 66, 3) := by decide +kernel
theorem dX4_goesTo_16 : decode cX4_goesTo 16 = .ok (.irem, 1) := by decide +kernel
theorem dX4_goesTo_17 : decode cX4_goesTo 17 = .ok (.ireturn, 1) := by decide +kernel
theorem dX4_takes_0 : decode cX4_takes 0 = .ok (.aload_n 0, 1) := by decide +kernel
theorem dX4_takes_1 : decode cX4_takes 1 = .ok (.iload_n 1, 1) := by decide +kernel
theorem dX4_takes_2 : decode cX4_takes 2 = .ok (.iload_n 2, 1) := by decide +kernel
theorem dX4_takes_3 : decode cX4_takes 3 = .ok (.iload_n 3, 1) := by decide +kernel
theorem dX4_takes_4 : decode cX4_takes 4 = .ok (.iload 4, 2) := by decide +kernel
theorem dX4_takes_6 : decode cX4_takes 6 = .ok (.invokestatic 70, 3) := by decide +kernel
theorem dX4_takes_9 : decode cX4_takes 9 = .ok (.invokevirtual 74, 3) := by decide +kernel
theorem dX4_takes_12 : decode cX4_takes 12 = .ok (.aload_n 0, 1) := by decide +kernel
theorem dX4_takes_13 : decode cX4_takes 13 = .ok (.iload_n 1, 1) := by decide +kernel
theorem dX4_takes_14 : decode cX4_takes 14 = .ok (.iconst 0, 1) := by decide +kernel
theorem dX4_takes_15 : decode cX4_takes 15 = .ok (.invokevirtual 40, 3) := by decide +kernel
theorem dX4_takes_18 : decode cX4_takes 18 = .ok (.iload 4, 2) := by decide +kernel
theorem dX4_takes_20 : decode cX4_takes 20 = .ok (.iload_n 3, 1) := by decide +kernel
theorem dX4_takes_21 : decode cX4_takes 21 = .ok (.invokestatic 78, 3) := by decide +kernel
theorem dX4_takes_24 : decode cX4_takes 24 = .ok (.istore 5, 2) := by decide +kernel
theorem dX4_takes_26 : decode cX4_takes 26 = .ok (.aload_n 0, 1) := by decide +kernel
theorem dX4_takes_27 : decode cX4_takes 27 = .ok (.getfield 7, 3) := by decide +kernel
theorem dX4_takes_30 : decode cX4_takes 30 = .ok (.iload_n 1, 1) := by decide +kernel
theorem dX4_takes_31 : decode cX4_takes 31 = .ok (.iconst 0, 1) := by decide +kernel
theorem dX4_takes_32 : decode cX4_takes 32 = .ok (.invokestatic 28, 3) := by decide +kernel
theorem dX4_takes_35 : decode cX4_takes 35 = .ok (.iload 5, 2) := by decide +kernel
theorem dX4_takes_37 : decode cX4_takes 37 = .ok (.iastore, 1) := by decide +kernel
theorem dX4_takes_38 : decode cX4_takes 38 = .ok (.iload 5, 2) := by decide +kernel
theorem dX4_takes_40 : decode cX4_takes 40 = .ok (.iconst 3, 1) := by decide +kernel
theorem dX4_takes_41 : decode cX4_takes 41 = .ok (.irem, 1) := by decide +kernel
theorem dX4_takes_42 : decode cX4_takes 42 = .ok (.ifCond .eq 4, 3) := by decide +kernel
theorem dX4_takes_45 : decode cX4_takes 45 = .ok (.return_, 1) := by decide +kernel
theorem dX4_takes_46 : decode cX4_takes 46 = .ok (.iload 5, 2) := by decide +kernel
theorem dX4_takes_48 : decode cX4_takes 48 = .ok (.sipush 1000, 3) := by decide +kernel
theorem dX4_takes_51 : decode cX4_takes 51 = .ok (.irem, 1) := by decide +kernel
theorem dX4_takes_52 : decode cX4_takes 52 = .ok (.aload_n 0, 1) := by decide +kernel
theorem dX4_takes_53 : decode cX4_takes 53 = .ok (.iload_n 1, 1) := by decide +kernel
theorem dX4_takes_54 : decode cX4_takes 54 = .ok (.iconst 2, 1) := by decide +kernel
theorem dX4_takes_55 : decode cX4_takes 55 = .ok (.invokevirtual 40, 3) := by decide +kernel
theorem dX4_takes_58 : decode cX4_takes 58 = .ok (.iadd, 1) := by decide +kernel
theorem dX4_takes_59 : decode cX4_takes 59 = .ok (.sipush 1000, 3) := by decide +kernel
theorem dX4_takes_62 : decode cX4_takes 62 = .ok (.irem, 1) := by decide +kernel
theorem dX4_takes_63 : decode cX4_takes 63 = .ok (.istore 6, 2) := by decide +kernel
theorem dX4_takes_65 : decode cX4_takes 65 = .ok (.aload_n 0, 1) := by decide +kernel
theorem dX4_takes_66 : decode cX4_takes 66 = .ok (.getfield 7, 3) := by decide +kernel
theorem dX4_takes_69 : decode cX4_takes 69 = .ok (.iload_n 1, 1) := by decide +kernel
theorem dX4_takes_70 : decode cX4_takes 70 = .ok (.iconst 2, 1) := by decide +kernel
theorem dX4_takes_71 : decode cX4_takes 71 = .ok (.invokestatic 28, 3) := by decide +kernel
theorem dX4_takes_74 : decode cX4_takes 74 = .ok (.iconst 0, 1) := by decide +kernel
theorem dX4_takes_75 : decode cX4_takes 75 = .ok (.iastore, 1) := by decide +kernel
theorem dX4_takes_76 : decode cX4_takes 76 = .ok (.aload_n 0, 1) := by decide +kernel
theorem dX4_takes_77 : decode cX4_takes 77 = .ok (.iload_n 1, 1) := by decide +kernel
theorem dX4_takes_78 : decode cX4_takes 78 = .ok (.iload 5, 2) := by decide +kernel
theorem dX4_takes_80 : decode cX4_takes 80 = .ok (.invokevirtual 81, 3) := by decide +kernel
theorem dX4_takes_83 : decode cX4_takes 83 = .ok (.istore 7, 2) := by decide +kernel
theorem dX4_takes_85 : decode cX4_takes 85 = .ok (.aload_n 0, 1) := by decide +kernel
theorem dX4_takes_86 : decode cX4_takes 86 = .ok (.iload_n 1, 1) := by decide +kernel
theorem dX4_takes_87 : decode cX4_takes 87 = .ok (.iconst 2, 1) := by decide +kernel
theorem dX4_takes_88 : decode cX4_takes 88 = .ok (.iload 7, 2) := by decide +kernel
theorem dX4_takes_90 : decode cX4_takes 90 = .ok (.iload 6, 2) := by decide +kernel
theorem dX4_takes_92 : decode cX4_takes 92 = .ok (.invokestatic 70, 3) := by decide +kernel
theorem dX4_takes_95 : decode cX4_takes 95 = .ok (.invokevirtual 74, 3) := by decide +kernel
theorem dX4_takes_98 : decode cX4_takes 98 = .ok (.aload_n 0, 1) := by decide +kernel
theorem dX4_takes_99 : decode cX4_takes 99 = .ok (.iload_n 1, 1) := by decide +kernel
theorem dX4_takes_100 : decode cX4_takes 100 = .ok (.iconst 4, 1) := by decide +kernel
theorem dX4_takes_101 : decode cX4_takes 101 = .ok (.invokevirtual 40, 3) := by decide +kernel
theorem dX4_takes_104 : decode cX4_takes 104 = .ok (.iconst 1, 1) := by decide +kernel
theorem dX4_takes_105 : decode cX4_takes 105 = .ok (.isub, 1) := by decide +kernel
theorem dX4_takes_106 : decode cX4_takes 106 = .ok (.istore 8, 2) := by decide +kernel
theorem dX4_takes_108 : decode cX4_takes 108 = .ok (.aload_n 0, 1) := by decide +kernel
theorem dX4_takes_109 : decode cX4_takes 109 = .ok (.sipush 2600, 3) := by decide +kernel
theorem dX4_takes_112 : decode cX4_takes 112 = .ok (.iconst 5, 1) := by decide +kernel
theorem dX4_takes_113 : decode cX4_takes 113 = .ok (.aload_n 0, 1) := by decide +kernel
theorem dX4_takes_114 : decode cX4_takes 114 = .ok (.getfield 7, 3) := by decide +kernel
theorem dX4_takes_117 : decode cX4_takes 117 = .ok (.sipush 2599, 3) := by decide +kernel
theorem dX4_takes_120 : decode cX4_takes 120 = .ok (.iaload, 1) := by decide +kernel
theorem dX4_takes_121 : decode cX4_takes 121 = .ok (.imul, 1) := by decide +kernel
theorem dX4_takes_122 : decode cX4_takes 122 = .ok (.iadd, 1) := by decide +kernel
theorem dX4_takes_123 : decode cX4_takes 123 = .ok (.iload 7, 2) := by decide +kernel
theorem dX4_takes_125 : decode cX4_takes 125 = .ok (.iload_n 1, 1) := by decide +kernel
theorem dX4_takes_126 : decode cX4_takes 126 = .ok (.iload 6, 2) := by decide +kernel
theorem dX4_takes_128 : decode cX4_takes 128 = .ok (.iload 8, 2) := by decide +kernel
theorem dX4_takes_130 : decode cX4_takes 130 = .ok (.aload_n 0, 1) := by decide +kernel
theorem dX4_takes_131 : decode cX4_takes 131 = .ok (.iload_n 1, 1) := by decide +kernel
theorem dX4_takes_132 : decode cX4_takes 132 = .ok (.iload 8, 2) := by decide +kernel
theorem dX4_takes_134 : decode cX4_takes 134 = .ok (.iconst 1, 1) := by decide +kernel
theorem dX4_takes_135 : decode cX4_takes 135 = .ok (.iadd, 1) := by decide +kernel
theorem dX4_takes_136 : decode cX4_takes 136 = .ok (.invokevirtual 84, 3) := by decide +kernel
theorem dX4_takes_139 : decode cX4_takes 139 = .ok (.invokevirtual 87, 3) := by decide +kernel
theorem dX4_takes_142 : decode cX4_takes 142 = .ok (.aload_n 0, 1) := by decide +kernel
theorem dX4_takes_143 : decode cX4_takes 143 = .ok (.getfield 7, 3) := by decide +kernel
theorem dX4_takes_146 : decode cX4_takes 146 = .ok (.sipush 2599, 3) := by decide +kernel
theorem dX4_takes_149 : decode cX4_takes 149 = .ok (.dup2, 1) := by decide +kernel
theorem dX4_takes_150 : decode cX4_takes 150 = .ok (.iaload, 1) := by decide +kernel
theorem dX4_takes_151 : decode cX4_takes 151 = .ok (.iconst 1, 1) := by decide +kernel
theorem dX4_takes_152 : decode cX4_takes 152 = .ok (.iadd, 1) := by decide +kernel
theorem dX4_takes_153 : decode cX4_takes 153 = .ok (.iastore, 1) := by decide +kernel
theorem dX4_takes_154 : decode cX4_takes 154 = .ok (.return_, 1) := by decide +kernel
theorem dX4_puts_0 : decode cX4_puts 0 = .ok (.aload_n 0, 1) := by decide +kernel
theorem dX4_puts_1 : decode cX4_puts 1 = .ok (.getfield 7, 3) := by decide +kernel
theorem dX4_puts_4 : decode cX4_puts 4 = .ok (.iload_n 1, 1) := by decide +kernel
theorem dX4_puts_5 : decode cX4_puts 5 = .ok (.iload_n 2, 1) := by decide +kernel
theorem dX4_puts_6 : decode cX4_puts 6 = .ok (.iastore, 1) := by decide +kernel
theorem dX4_puts_7 : decode cX4_puts 7 = .ok (.aload_n 0, 1) := by decide +kernel
theorem dX4_puts_8 : decode cX4_puts 8 = .ok (.getfield 7, 3) := by decide +kernel
theorem dX4_puts_11 : decode cX4_puts 11 = .ok (.iload_n 1, 1) := by decide +kernel
theorem dX4_puts_12 : decode cX4_puts 12 = .ok (.iconst 1, 1) := by decide +kernel
theorem dX4_puts_13 : decode cX4_puts 13 = .ok (.iadd, 1) := by decide +kernel
theorem dX4_puts_14 : decode cX4_puts 14 = .ok (.iload_n 3, 1) := by decide +kernel
theorem dX4_puts_15 : decode cX4_puts 15 = .ok (.iastore, 1) := by decide +kernel
theorem dX4_puts_16 : decode cX4_puts 16 = .ok (.aload_n 0, 1) := by decide +kernel
theorem dX4_puts_17 : decode cX4_puts 17 = .ok (.getfield 7, 3) := by decide +kernel
theorem dX4_puts_20 : decode cX4_puts 20 = .ok (.iload_n 1, 1) := by decide +kernel
theorem dX4_puts_21 : decode cX4_puts 21 = .ok (.iconst 2, 1) := by decide +kernel
theorem dX4_puts_22 : decode cX4_puts 22 = .ok (.iadd, 1) := by decide +kernel
theorem dX4_puts_23 : decode cX4_puts 23 = .ok (.iload 4, 2) := by decide +kernel
theorem dX4_puts_25 : decode cX4_puts 25 = .ok (.iastore, 1) := by decide +kernel
theorem dX4_puts_26 : decode cX4_puts 26 = .ok (.aload_n 0, 1) := by decide +kernel
theorem dX4_puts_27 : decode cX4_puts 27 = .ok (.getfield 7, 3) := by decide +kernel
theorem dX4_puts_30 : decode cX4_puts 30 = .ok (.iload_n 1, 1) := by decide +kernel
theorem dX4_puts_31 : decode cX4_puts 31 = .ok (.iconst 3, 1) := by decide +kernel
theorem dX4_puts_32 : decode cX4_puts 32 = .ok (.iadd, 1) := by decide +kernel
theorem dX4_puts_33 : decode cX4_puts 33 = .ok (.iload 5, 2) := by decide +kernel
theorem dX4_puts_35 : decode cX4_puts 35 = .ok (.iastore, 1) := by decide +kernel
theorem dX4_puts_36 : decode cX4_puts 36 = .ok (.aload_n 0, 1) := by decide +kernel
theorem dX4_puts_37 : decode cX4_puts 37 = .ok (.getfield 7, 3) := by decide +kernel
theorem dX4_puts_40 : decode cX4_puts 40 = .ok (.iload_n 1, 1) := by decide +kernel
theorem dX4_puts_41 : decode cX4_puts 41 = .ok (.iconst 4, 1) := by decide +kernel
theorem dX4_puts_42 : decode cX4_puts 42 = .ok (.iadd, 1) := by decide +kernel
theorem dX4_puts_43 : decode cX4_puts 43 = .ok (.iload 6, 2) := by decide +kernel
theorem dX4_puts_45 : decode cX4_puts 45 = .ok (.iastore, 1) := by decide +kernel
theorem dX4_puts_46 : decode cX4_puts 46 = .ok (.return_, 1) := by decide +kernel
theorem dX4_hasRoom_0 : decode cX4_hasRoom 0 = .ok (.aload_n 0, 1) := by decide +kernel
theorem dX4_hasRoom_1 : decode cX4_hasRoom 1 = .ok (.iload_n 1, 1) := by decide +kernel
theorem dX4_hasRoom_2 : decode cX4_hasRoom 2 = .ok (.iconst 4, 1) := by decide +kernel
theorem dX4_hasRoom_3 : decode cX4_hasRoom 3 = .ok (.invokevirtual 40, 3) := by decide +kernel
theorem dX4_hasRoom_6 : decode cX4_hasRoom 6 = .ok (.bipush 38, 2) := by decide +kernel
theorem dX4_hasRoom_8 : decode cX4_hasRoom 8 = .ok (.if_icmp .gt 7, 3) := by decide +kernel
theorem dX4_hasRoom_11 : decode cX4_hasRoom 11 = .ok (.iconst 1, 1) := by decide +kernel
theorem dX4_hasRoom_12 : decode cX4_hasRoom 12 = .ok (.goto 4, 3) := by decide +kernel
theorem dX4_hasRoom_15 : decode cX4_hasRoom 15 = .ok (.iconst 0, 1) := by decide +kernel
theorem dX4_hasRoom_16 : decode cX4_hasRoom 16 = .ok (.ireturn, 1) := by decide +kernel
theorem dX4_isBarred_0 : decode cX4_isBarred 0 = .ok (.aload_n 0, 1) := by decide +kernel
theorem dX4_isBarred_1 : decode cX4_isBarred 1 = .ok (.getfield 7, 3) := by decide +kernel
theorem dX4_isBarred_4 : decode cX4_isBarred 4 = .ok (.sipush 2600, 3) := by decide +kernel
theorem dX4_isBarred_7 : decode cX4_isBarred 7 = .ok (.iaload, 1) := by decide +kernel
theorem dX4_isBarred_8 : decode cX4_isBarred 8 = .ok (.istore_n 1, 1) := by decide +kernel
theorem dX4_isBarred_9 : decode cX4_isBarred 9 = .ok (.aload_n 0, 1) := by decide +kernel
theorem dX4_isBarred_10 : decode cX4_isBarred 10 = .ok (.getfield 7, 3) := by decide +kernel
theorem dX4_isBarred_13 : decode cX4_isBarred 13 = .ok (.sipush 2599, 3) := by decide +kernel
theorem dX4_isBarred_16 : decode cX4_isBarred 16 = .ok (.iaload, 1) := by decide +kernel
theorem dX4_isBarred_17 : decode cX4_isBarred 17 = .ok (.ifCond .le 24, 3) := by decide +kernel
theorem dX4_isBarred_20 : decode cX4_isBarred 20 = .ok (.aload_n 0, 1) := by decide +kernel
theorem dX4_isBarred_21 : decode cX4_isBarred 21 = .ok (.iload_n 1, 1) := by decide +kernel
theorem dX4_isBarred_22 : decode cX4_isBarred 22 = .ok (.iconst 1, 1) := by decide +kernel
theorem dX4_isBarred_23 : decode cX4_isBarred 23 = .ok (.invokevirtual 40, 3) := by decide +kernel
theorem dX4_isBarred_26 : decode cX4_isBarred 26 = .ok (.ifCond .ne 15, 3) := by decide +kernel
theorem dX4_isBarred_29 : decode cX4_isBarred 29 = .ok (.aload_n 0, 1) := by decide +kernel
theorem dX4_isBarred_30 : decode cX4_isBarred 30 = .ok (.iload_n 1, 1) := by decide +kernel
theorem dX4_isBarred_31 : decode cX4_isBarred 31 = .ok (.invokevirtual 91, 3) := by decide +kernel
theorem dX4_isBarred_34 : decode cX4_isBarred 34 = .ok (.ifCond .ne 7, 3) := by decide +kernel
theorem dX4_isBarred_37 : decode cX4_isBarred 37 = .ok (.iconst 1, 1) := by decide +kernel
theorem dX4_isBarred_38 : decode cX4_isBarred 38 = .ok (.goto 4, 3) := by decide +kernel
theorem dX4_isBarred_41 : decode cX4_isBarred 41 = .ok (.iconst 0, 1) := by decide +kernel
theorem dX4_isBarred_42 : decode cX4_isBarred 42 = .ok (.ireturn, 1) := by decide +kernel
theorem dX4_delivers_0 : decode cX4_delivers 0 = .ok (.aload_n 0, 1) := by decide +kernel
theorem dX4_delivers_1 : decode cX4_delivers 1 = .ok (.getfield 7, 3) := by decide +kernel
theorem dX4_delivers_4 : decode cX4_delivers 4 = .ok (.sipush 2600, 3) := by decide +kernel
theorem dX4_delivers_7 : decode cX4_delivers 7 = .ok (.iaload, 1) := by decide +kernel
theorem dX4_delivers_8 : decode cX4_delivers 8 = .ok (.istore_n 1, 1) := by decide +kernel
theorem dX4_delivers_9 : decode cX4_delivers 9 = .ok (.aload_n 0, 1) := by decide +kernel
theorem dX4_delivers_10 : decode cX4_delivers 10 = .ok (.getfield 7, 3) := by decide +kernel
theorem dX4_delivers_13 : decode cX4_delivers 13 = .ok (.sipush 2601, 3) := by decide +kernel
theorem dX4_delivers_16 : decode cX4_delivers 16 = .ok (.iaload, 1) := by decide +kernel
theorem dX4_delivers_17 : decode cX4_delivers 17 = .ok (.istore_n 2, 1) := by decide +kernel
theorem dX4_delivers_18 : decode cX4_delivers 18 = .ok (.aload_n 0, 1) := by decide +kernel
theorem dX4_delivers_19 : decode cX4_delivers 19 = .ok (.getfield 7, 3) := by decide +kernel
theorem dX4_delivers_22 : decode cX4_delivers 22 = .ok (.sipush 2602, 3) := by decide +kernel
theorem dX4_delivers_25 : decode cX4_delivers 25 = .ok (.iaload, 1) := by decide +kernel
theorem dX4_delivers_26 : decode cX4_delivers 26 = .ok (.istore_n 3, 1) := by decide +kernel
theorem dX4_delivers_27 : decode cX4_delivers 27 = .ok (.aload_n 0, 1) := by decide +kernel
theorem dX4_delivers_28 : decode cX4_delivers 28 = .ok (.getfield 7, 3) := by decide +kernel
theorem dX4_delivers_31 : decode cX4_delivers 31 = .ok (.sipush 2603, 3) := by decide +kernel
theorem dX4_delivers_34 : decode cX4_delivers 34 = .ok (.iaload, 1) := by decide +kernel
theorem dX4_delivers_35 : decode cX4_delivers 35 = .ok (.istore 4, 2) := by decide +kernel
theorem dX4_delivers_37 : decode cX4_delivers 37 = .ok (.aload_n 0, 1) := by decide +kernel
theorem dX4_delivers_38 : decode cX4_delivers 38 = .ok (.getfield 7, 3) := by decide +kernel
theorem dX4_delivers_41 : decode cX4_delivers 41 = .ok (.sipush 2604, 3) := by decide +kernel
theorem dX4_delivers_44 : decode cX4_delivers 44 = .ok (.iaload, 1) := by decide +kernel
theorem dX4_delivers_45 : decode cX4_delivers 45 = .ok (.istore 5, 2) := by decide +kernel
theorem dX4_delivers_47 : decode cX4_delivers 47 = .ok (.aload_n 0, 1) := by decide +kernel
theorem dX4_delivers_48 : decode cX4_delivers 48 = .ok (.getfield 7, 3) := by decide +kernel
theorem dX4_delivers_51 : decode cX4_delivers 51 = .ok (.sipush 2599, 3) := by decide +kernel
theorem dX4_delivers_54 : decode cX4_delivers 54 = .ok (.dup2, 1) := by decide +kernel
theorem dX4_delivers_55 : decode cX4_delivers 55 = .ok (.iaload, 1) := by decide +kernel
theorem dX4_delivers_56 : decode cX4_delivers 56 = .ok (.iconst 1, 1) := by decide +kernel
theorem dX4_delivers_57 : decode cX4_delivers 57 = .ok (.isub, 1) := by decide +kernel
theorem dX4_delivers_58 : decode cX4_delivers 58 = .ok (.iastore, 1) := by decide +kernel
theorem dX4_delivers_59 : decode cX4_delivers 59 = .ok (.iconst 0, 1) := by decide +kernel
theorem dX4_delivers_60 : decode cX4_delivers 60 = .ok (.istore 6, 2) := by decide +kernel
theorem dX4_delivers_62 : decode cX4_delivers 62 = .ok (.iload 6, 2) := by decide +kernel
theorem dX4_delivers_64 : decode cX4_delivers 64 = .ok (.iconst 5, 1) := by decide +kernel
theorem dX4_delivers_65 : decode cX4_delivers 65 = .ok (.aload_n 0, 1) := by decide +kernel
theorem dX4_delivers_66 : decode cX4_delivers 66 = .ok (.getfield 7, 3) := by decide +kernel
theorem dX4_delivers_69 : decode cX4_delivers 69 = .ok (.sipush 2599, 3) := by decide +kernel
theorem dX4_delivers_72 : decode cX4_delivers 72 = .ok (.iaload, 1) := by decide +kernel
theorem dX4_delivers_73 : decode cX4_delivers 73 = .ok (.imul, 1) := by decide +kernel
theorem dX4_delivers_74 : decode cX4_delivers 74 = .ok (.if_icmp .ge 33, 3) := by decide +kernel
theorem dX4_delivers_77 : decode cX4_delivers 77 = .ok (.aload_n 0, 1) := by decide +kernel
theorem dX4_delivers_78 : decode cX4_delivers 78 = .ok (.getfield 7, 3) := by decide +kernel
theorem dX4_delivers_81 : decode cX4_delivers 81 = .ok (.sipush 2600, 3) := by decide +kernel
theorem dX4_delivers_84 : decode cX4_delivers 84 = .ok (.iload 6, 2) := by decide +kernel
theorem dX4_delivers_86 : decode cX4_delivers 86 = .ok (.iadd, 1) := by decide +kernel
theorem dX4_delivers_87 : decode cX4_delivers 87 = .ok (.aload_n 0, 1) := by decide +kernel
theorem dX4_delivers_88 : decode cX4_delivers 88 = .ok (.getfield 7, 3) := by decide +kernel
theorem dX4_delivers_91 : decode cX4_delivers 91 = .ok (.sipush 2600, 3) := by decide +kernel
theorem dX4_delivers_94 : decode cX4_delivers 94 = .ok (.iload 6, 2) := by decide +kernel
theorem dX4_delivers_96 : decode cX4_delivers 96 = .ok (.iadd, 1) := by decide +kernel
theorem dX4_delivers_97 : decode cX4_delivers 97 = .ok (.iconst 5, 1) := by decide +kernel
theorem dX4_delivers_98 : decode cX4_delivers 98 = .ok (.iadd, 1) := by decide +kernel
theorem dX4_delivers_99 : decode cX4_delivers 99 = .ok (.iaload, 1) := by decide +kernel
theorem dX4_delivers_100 : decode cX4_delivers 100 = .ok (.iastore, 1) := by decide +kernel
theorem dX4_delivers_101 : decode cX4_delivers 101 = .ok (.iinc 6 1, 3) := by decide +kernel
theorem dX4_delivers_104 : decode cX4_delivers 104 = .ok (.goto (-42), 3) := by decide +kernel
theorem dX4_delivers_107 : decode cX4_delivers 107 = .ok (.aload_n 0, 1) := by decide +kernel
theorem dX4_delivers_108 : decode cX4_delivers 108 = .ok (.iload_n 1, 1) := by decide +kernel
theorem dX4_delivers_109 : decode cX4_delivers 109 = .ok (.iconst 1, 1) := by decide +kernel
theorem dX4_delivers_110 : decode cX4_delivers 110 = .ok (.invokevirtual 40, 3) := by decide +kernel
theorem dX4_delivers_113 : decode cX4_delivers 113 = .ok (.iconst 1, 1) := by decide +kernel
theorem dX4_delivers_114 : decode cX4_delivers 114 = .ok (.if_icmp .ne 62, 3) := by decide +kernel
theorem dX4_delivers_117 : decode cX4_delivers 117 = .ok (.aload_n 0, 1) := by decide +kernel
theorem dX4_delivers_118 : decode cX4_delivers 118 = .ok (.iload_n 1, 1) := by decide +kernel
theorem dX4_delivers_119 : decode cX4_delivers 119 = .ok (.sipush 226, 3) := by decide +kernel
theorem dX4_delivers_122 : decode cX4_delivers 122 = .ok (.invokevirtual 40, 3) := by decide +kernel
theorem dX4_delivers_125 : decode cX4_delivers 125 = .ok (.bipush 40, 2) := by decide +kernel
theorem dX4_delivers_127 : decode cX4_delivers 127 = .ok (.if_icmp .ge 48, 3) := by decide +kernel
theorem dX4_delivers_130 : decode cX4_delivers 130 = .ok (.aload_n 0, 1) := by decide +kernel
theorem dX4_delivers_131 : decode cX4_delivers 131 = .ok (.iload_n 1, 1) := by decide +kernel
theorem dX4_delivers_132 : decode cX4_delivers 132 = .ok (.sipush 227, 3) := by decide +kernel
theorem dX4_delivers_135 : decode cX4_delivers 135 = .ok (.iconst 5, 1) := by decide +kernel
theorem dX4_delivers_136 : decode cX4_delivers 136 = .ok (.aload_n 0, 1) := by decide +kernel
theorem dX4_delivers_137 : decode cX4_delivers 137 = .ok (.iload_n 1, 1) := by decide +kernel
theorem dX4_delivers_138 : decode cX4_delivers 138 = .ok (.sipush 226, 3) := by decide +kernel
theorem dX4_delivers_141 : decode cX4_delivers 141 = .ok (.invokevirtual 40, 3) := by decide +kernel
theorem dX4_delivers_144 : decode cX4_delivers 144 = .ok (.imul, 1) := by decide +kernel
theorem dX4_delivers_145 : decode cX4_delivers 145 = .ok (.iadd, 1) := by decide +kernel
theorem dX4_delivers_146 : decode cX4_delivers 146 = .ok (.invokestatic 28, 3) := by decide +kernel
theorem dX4_delivers_149 : decode cX4_delivers 149 = .ok (.iload_n 1, 1) := by decide +kernel
theorem dX4_delivers_150 : decode cX4_delivers 150 = .ok (.iload_n 2, 1) := by decide +kernel
theorem dX4_delivers_151 : decode cX4_delivers 151 = .ok (.iload_n 3, 1) := by decide +kernel
theorem dX4_delivers_152 : decode cX4_delivers 152 = .ok (.iload 4, 2) := by decide +kernel
theorem dX4_delivers_154 : decode cX4_delivers 154 = .ok (.iload 5, 2) := by decide +kernel
theorem dX4_delivers_156 : decode cX4_delivers 156 = .ok (.invokevirtual 87, 3) := by decide +kernel
theorem dX4_delivers_159 : decode cX4_delivers 159 = .ok (.aload_n 0, 1) := by decide +kernel
theorem dX4_delivers_160 : decode cX4_delivers 160 = .ok (.getfield 7, 3) := by decide +kernel
theorem dX4_delivers_163 : decode cX4_delivers 163 = .ok (.iload_n 1, 1) := by decide +kernel
theorem dX4_delivers_164 : decode cX4_delivers 164 = .ok (.sipush 226, 3) := by decide +kernel
theorem dX4_delivers_167 : decode cX4_delivers 167 = .ok (.invokestatic 28, 3) := by decide +kernel
theorem dX4_delivers_170 : decode cX4_delivers 170 = .ok (.dup2, 1) := by decide +kernel
theorem dX4_delivers_171 : decode cX4_delivers 171 = .ok (.iaload, 1) := by decide +kernel
theorem dX4_delivers_172 : decode cX4_delivers 172 = .ok (.iconst 1, 1) := by decide +kernel
theorem dX4_delivers_173 : decode cX4_delivers 173 = .ok (.iadd, 1) := by decide +kernel
theorem dX4_delivers_174 : decode cX4_delivers 174 = .ok (.iastore, 1) := by decide +kernel
theorem dX4_delivers_175 : decode cX4_delivers 175 = .ok (.return_, 1) := by decide +kernel
theorem dX4_delivers_176 : decode cX4_delivers 176 = .ok (.aload_n 0, 1) := by decide +kernel
theorem dX4_delivers_177 : decode cX4_delivers 177 = .ok (.iload_n 1, 1) := by decide +kernel
theorem dX4_delivers_178 : decode cX4_delivers 178 = .ok (.iload_n 2, 1) := by decide +kernel
theorem dX4_delivers_179 : decode cX4_delivers 179 = .ok (.iload 4, 2) := by decide +kernel
theorem dX4_delivers_181 : decode cX4_delivers 181 = .ok (.iload 5, 2) := by decide +kernel
theorem dX4_delivers_183 : decode cX4_delivers 183 = .ok (.invokevirtual 94, 3) := by decide +kernel
theorem dX4_delivers_186 : decode cX4_delivers 186 = .ok (.aload_n 0, 1) := by decide +kernel
theorem dX4_delivers_187 : decode cX4_delivers 187 = .ok (.iload_n 1, 1) := by decide +kernel
theorem dX4_delivers_188 : decode cX4_delivers 188 = .ok (.iconst 4, 1) := by decide +kernel
theorem dX4_delivers_189 : decode cX4_delivers 189 = .ok (.invokevirtual 40, 3) := by decide +kernel
theorem dX4_delivers_192 : decode cX4_delivers 192 = .ok (.istore 6, 2) := by decide +kernel
theorem dX4_delivers_194 : decode cX4_delivers 194 = .ok (.aload_n 0, 1) := by decide +kernel
theorem dX4_delivers_195 : decode cX4_delivers 195 = .ok (.iload_n 1, 1) := by decide +kernel
theorem dX4_delivers_196 : decode cX4_delivers 196 = .ok (.iconst 1, 1) := by decide +kernel
theorem dX4_delivers_197 : decode cX4_delivers 197 = .ok (.iload_n 2, 1) := by decide +kernel
theorem dX4_delivers_198 : decode cX4_delivers 198 = .ok (.iload_n 3, 1) := by decide +kernel
theorem dX4_delivers_199 : decode cX4_delivers 199 = .ok (.invokevirtual 98, 3) := by decide +kernel
theorem dX4_delivers_202 : decode cX4_delivers 202 = .ok (.aload_n 0, 1) := by decide +kernel
theorem dX4_delivers_203 : decode cX4_delivers 203 = .ok (.iload_n 2, 1) := by decide +kernel
theorem dX4_delivers_204 : decode cX4_delivers 204 = .ok (.iload_n 1, 1) := by decide +kernel
theorem dX4_delivers_205 : decode cX4_delivers 205 = .ok (.iload 6, 2) := by decide +kernel
theorem dX4_delivers_207 : decode cX4_delivers 207 = .ok (.aload_n 0, 1) := by decide +kernel
theorem dX4_delivers_208 : decode cX4_delivers 208 = .ok (.iload_n 1, 1) := by decide +kernel
theorem dX4_delivers_209 : decode cX4_delivers 209 = .ok (.iload 6, 2) := by decide +kernel
theorem dX4_delivers_211 : decode cX4_delivers 211 = .ok (.iconst 1, 1) := by decide +kernel
theorem dX4_delivers_212 : decode cX4_delivers 212 = .ok (.iadd, 1) := by decide +kernel
theorem dX4_delivers_213 : decode cX4_delivers 213 = .ok (.invokevirtual 84, 3) := by decide +kernel
theorem dX4_delivers_216 : decode cX4_delivers 216 = .ok (.invokevirtual 94, 3) := by decide +kernel
theorem dX4_delivers_219 : decode cX4_delivers 219 = .ok (.return_, 1) := by decide +kernel
theorem dX4_reset_0 : decode cX4_reset 0 = .ok (.aload_n 0, 1) := by decide +kernel
theorem dX4_reset_1 : decode cX4_reset 1 = .ok (.iload_n 1, 1) := by decide +kernel
theorem dX4_reset_2 : decode cX4_reset 2 = .ok (.iconst 2, 1) := by decide +kernel
theorem dX4_reset_3 : decode cX4_reset 3 = .ok (.bipush 6, 2) := by decide +kernel
theorem dX4_reset_5 : decode cX4_reset 5 = .ok (.invokestatic 24, 3) := by decide +kernel
theorem dX4_reset_8 : decode cX4_reset 8 = .ok (.ifCond .eq 7, 3) := by decide +kernel
theorem dX4_reset_11 : decode cX4_reset 11 = .ok (.iconst 0, 1) := by decide +kernel
theorem dX4_reset_12 : decode cX4_reset 12 = .ok (.goto 4, 3) := by decide +kernel
theorem dX4_reset_15 : decode cX4_reset 15 = .ok (.iconst 1, 1) := by decide +kernel
theorem dX4_reset_16 : decode cX4_reset 16 = .ok (.invokevirtual 35, 3) := by decide +kernel
theorem dX4_reset_19 : decode cX4_reset 19 = .ok (.ifCond .eq 5, 3) := by decide +kernel
theorem dX4_reset_22 : decode cX4_reset 22 = .ok (.iconst 0, 1) := by decide +kernel
theorem dX4_reset_23 : decode cX4_reset 23 = .ok (.ireturn, 1) := by decide +kernel
theorem dX4_reset_24 : decode cX4_reset 24 = .ok (.aload_n 0, 1) := by decide +kernel
theorem dX4_reset_25 : decode cX4_reset 25 = .ok (.invokevirtual 101, 3) := by decide +kernel
theorem dX4_reset_28 : decode cX4_reset 28 = .ok (.aload_n 0, 1) := by decide +kernel
theorem dX4_reset_29 : decode cX4_reset 29 = .ok (.invokevirtual 66, 3) := by decide +kernel
theorem dX4_reset_32 : decode cX4_reset 32 = .ok (.istore_n 2, 1) := by decide +kernel
theorem dX4_reset_33 : decode cX4_reset 33 = .ok (.aload_n 0, 1) := by decide +kernel
theorem dX4_reset_34 : decode cX4_reset 34 = .ok (.iload_n 1, 1) := by decide +kernel
theorem dX4_reset_35 : decode cX4_reset 35 = .ok (.invokevirtual 16, 3) := by decide +kernel
theorem dX4_reset_38 : decode cX4_reset 38 = .ok (.iload_n 2, 1) := by decide +kernel
theorem dX4_reset_39 : decode cX4_reset 39 = .ok (.ireturn, 1) := by decide +kernel
theorem dX4_input_0 : decode cX4_input 0 = .ok (.aload_n 0, 1) := by decide +kernel
theorem dX4_input_1 : decode cX4_input 1 = .ok (.aload_n 0, 1) := by decide +kernel
theorem dX4_input_2 : decode cX4_input 2 = .ok (.iload_n 1, 1) := by decide +kernel
theorem dX4_input_3 : decode cX4_input 3 = .ok (.invokevirtual 104, 3) := by decide +kernel
theorem dX4_input_6 : decode cX4_input 6 = .ok (.ifCond .ne 7, 3) := by decide +kernel
theorem dX4_input_9 : decode cX4_input 9 = .ok (.iconst 1, 1) := by decide +kernel
theorem dX4_input_10 : decode cX4_input 10 = .ok (.goto 44, 3) := by decide +kernel
theorem dX4_input_13 : decode cX4_input 13 = .ok (.iload_n 2, 1) := by decide +kernel
theorem dX4_input_14 : decode cX4_input 14 = .ok (.iconst 0, 1) := by decide +kernel
theorem dX4_input_15 : decode cX4_input 15 = .ok (.sipush 999, 3) := by decide +kernel
theorem dX4_input_18 : decode cX4_input 18 = .ok (.invokestatic 24, 3) := by decide +kernel
theorem dX4_input_21 : decode cX4_input 21 = .ok (.ifCond .ne 7, 3) := by decide +kernel
theorem dX4_input_24 : decode cX4_input 24 = .ok (.iconst 2, 1) := by decide +kernel
theorem dX4_input_25 : decode cX4_input 25 = .ok (.goto 29, 3) := by decide +kernel
theorem dX4_input_28 : decode cX4_input 28 = .ok (.aload_n 0, 1) := by decide +kernel
theorem dX4_input_29 : decode cX4_input 29 = .ok (.iload_n 1, 1) := by decide +kernel
theorem dX4_input_30 : decode cX4_input 30 = .ok (.invokevirtual 91, 3) := by decide +kernel
theorem dX4_input_33 : decode cX4_input 33 = .ok (.ifCond .eq 20, 3) := by decide +kernel
theorem dX4_input_36 : decode cX4_input 36 = .ok (.aload_n 0, 1) := by decide +kernel
theorem dX4_input_37 : decode cX4_input 37 = .ok (.getfield 7, 3) := by decide +kernel
theorem dX4_input_40 : decode cX4_input 40 = .ok (.sipush 2599, 3) := by decide +kernel
theorem dX4_input_43 : decode cX4_input 43 = .ok (.iaload, 1) := by decide +kernel
theorem dX4_input_44 : decode cX4_input 44 = .ok (.bipush 40, 2) := by decide +kernel
theorem dX4_input_46 : decode cX4_input 46 = .ok (.if_icmp .ge 7, 3) := by decide +kernel
theorem dX4_input_49 : decode cX4_input 49 = .ok (.iconst 0, 1) := by decide +kernel
theorem dX4_input_50 : decode cX4_input 50 = .ok (.goto 4, 3) := by decide +kernel
theorem dX4_input_53 : decode cX4_input 53 = .ok (.iconst 3, 1) := by decide +kernel
theorem dX4_input_54 : decode cX4_input 54 = .ok (.invokevirtual 35, 3) := by decide +kernel
theorem dX4_input_57 : decode cX4_input 57 = .ok (.ifCond .eq 5, 3) := by decide +kernel
theorem dX4_input_60 : decode cX4_input 60 = .ok (.iconst 0, 1) := by decide +kernel
theorem dX4_input_61 : decode cX4_input 61 = .ok (.ireturn, 1) := by decide +kernel
theorem dX4_input_62 : decode cX4_input 62 = .ok (.aload_n 0, 1) := by decide +kernel
theorem dX4_input_63 : decode cX4_input 63 = .ok (.invokevirtual 101, 3) := by decide +kernel
theorem dX4_input_66 : decode cX4_input 66 = .ok (.aload_n 0, 1) := by decide +kernel
theorem dX4_input_67 : decode cX4_input 67 = .ok (.iload_n 1, 1) := by decide +kernel
theorem dX4_input_68 : decode cX4_input 68 = .ok (.iconst 0, 1) := by decide +kernel
theorem dX4_input_69 : decode cX4_input 69 = .ok (.iconst (-1), 1) := by decide +kernel
theorem dX4_input_70 : decode cX4_input 70 = .ok (.iload_n 2, 1) := by decide +kernel
theorem dX4_input_71 : decode cX4_input 71 = .ok (.invokevirtual 98, 3) := by decide +kernel
theorem dX4_input_74 : decode cX4_input 74 = .ok (.aload_n 0, 1) := by decide +kernel
theorem dX4_input_75 : decode cX4_input 75 = .ok (.iload_n 1, 1) := by decide +kernel
theorem dX4_input_76 : decode cX4_input 76 = .ok (.iconst 0, 1) := by decide +kernel
theorem dX4_input_77 : decode cX4_input 77 = .ok (.invokevirtual 40, 3) := by decide +kernel
theorem dX4_input_80 : decode cX4_input 80 = .ok (.ireturn, 1) := by decide +kernel
theorem dX4_deliver_0 : decode cX4_deliver 0 = .ok (.aload_n 0, 1) := by decide +kernel
theorem dX4_deliver_1 : decode cX4_deliver 1 = .ok (.aload_n 0, 1) := by decide +kernel
theorem dX4_deliver_2 : decode cX4_deliver 2 = .ok (.invokevirtual 107, 3) := by decide +kernel
theorem dX4_deliver_5 : decode cX4_deliver 5 = .ok (.ifCond .eq 7, 3) := by decide +kernel
theorem dX4_deliver_8 : decode cX4_deliver 8 = .ok (.iconst 1, 1) := by decide +kernel
theorem dX4_deliver_9 : decode cX4_deliver 9 = .ok (.goto 4, 3) := by decide +kernel
theorem dX4_deliver_12 : decode cX4_deliver 12 = .ok (.iconst 0, 1) := by decide +kernel
theorem dX4_deliver_13 : decode cX4_deliver 13 = .ok (.invokevirtual 35, 3) := by decide +kernel
theorem dX4_deliver_16 : decode cX4_deliver 16 = .ok (.ifCond .eq 5, 3) := by decide +kernel
theorem dX4_deliver_19 : decode cX4_deliver 19 = .ok (.iconst 0, 1) := by decide +kernel
theorem dX4_deliver_20 : decode cX4_deliver 20 = .ok (.ireturn, 1) := by decide +kernel
theorem dX4_deliver_21 : decode cX4_deliver 21 = .ok (.aload_n 0, 1) := by decide +kernel
theorem dX4_deliver_22 : decode cX4_deliver 22 = .ok (.getfield 7, 3) := by decide +kernel
theorem dX4_deliver_25 : decode cX4_deliver 25 = .ok (.sipush 2599, 3) := by decide +kernel
theorem dX4_deliver_28 : decode cX4_deliver 28 = .ok (.iaload, 1) := by decide +kernel
theorem dX4_deliver_29 : decode cX4_deliver 29 = .ok (.ifCond .ne 5, 3) := by decide +kernel
theorem dX4_deliver_32 : decode cX4_deliver 32 = .ok (.iconst (-1), 1) := by decide +kernel
theorem dX4_deliver_33 : decode cX4_deliver 33 = .ok (.ireturn, 1) := by decide +kernel
theorem dX4_deliver_34 : decode cX4_deliver 34 = .ok (.aload_n 0, 1) := by decide +kernel
theorem dX4_deliver_35 : decode cX4_deliver 35 = .ok (.invokevirtual 101, 3) := by decide +kernel
theorem dX4_deliver_38 : decode cX4_deliver 38 = .ok (.aload_n 0, 1) := by decide +kernel
theorem dX4_deliver_39 : decode cX4_deliver 39 = .ok (.getfield 7, 3) := by decide +kernel
theorem dX4_deliver_42 : decode cX4_deliver 42 = .ok (.sipush 2600, 3) := by decide +kernel
theorem dX4_deliver_45 : decode cX4_deliver 45 = .ok (.iaload, 1) := by decide +kernel
theorem dX4_deliver_46 : decode cX4_deliver 46 = .ok (.istore_n 1, 1) := by decide +kernel
theorem dX4_deliver_47 : decode cX4_deliver 47 = .ok (.aload_n 0, 1) := by decide +kernel
theorem dX4_deliver_48 : decode cX4_deliver 48 = .ok (.invokevirtual 111, 3) := by decide +kernel
theorem dX4_deliver_51 : decode cX4_deliver 51 = .ok (.iload_n 1, 1) := by decide +kernel
theorem dX4_deliver_52 : decode cX4_deliver 52 = .ok (.ireturn, 1) := by decide +kernel
theorem dX4_run_0 : decode cX4_run 0 = .ok (.aload_n 0, 1) := by decide +kernel
theorem dX4_run_1 : decode cX4_run 1 = .ok (.iload_n 1, 1) := by decide +kernel
theorem dX4_run_2 : decode cX4_run 2 = .ok (.iconst 1, 1) := by decide +kernel
theorem dX4_run_3 : decode cX4_run 3 = .ok (.bipush 100, 2) := by decide +kernel
theorem dX4_run_5 : decode cX4_run 5 = .ok (.invokestatic 24, 3) := by decide +kernel
theorem dX4_run_8 : decode cX4_run 8 = .ok (.ifCond .eq 7, 3) := by decide +kernel
theorem dX4_run_11 : decode cX4_run 11 = .ok (.iconst 0, 1) := by decide +kernel
theorem dX4_run_12 : decode cX4_run 12 = .ok (.goto 4, 3) := by decide +kernel
theorem dX4_run_15 : decode cX4_run 15 = .ok (.iconst 1, 1) := by decide +kernel
theorem dX4_run_16 : decode cX4_run 16 = .ok (.invokevirtual 35, 3) := by decide +kernel
theorem dX4_run_19 : decode cX4_run 19 = .ok (.ifCond .eq 5, 3) := by decide +kernel
theorem dX4_run_22 : decode cX4_run 22 = .ok (.iconst 0, 1) := by decide +kernel
theorem dX4_run_23 : decode cX4_run 23 = .ok (.ireturn, 1) := by decide +kernel
theorem dX4_run_24 : decode cX4_run 24 = .ok (.aload_n 0, 1) := by decide +kernel
theorem dX4_run_25 : decode cX4_run 25 = .ok (.invokevirtual 101, 3) := by decide +kernel
theorem dX4_run_28 : decode cX4_run 28 = .ok (.iconst 0, 1) := by decide +kernel
theorem dX4_run_29 : decode cX4_run 29 = .ok (.istore_n 2, 1) := by decide +kernel
theorem dX4_run_30 : decode cX4_run 30 = .ok (.iload_n 2, 1) := by decide +kernel
theorem dX4_run_31 : decode cX4_run 31 = .ok (.iload_n 1, 1) := by decide +kernel
theorem dX4_run_32 : decode cX4_run 32 = .ok (.if_icmp .ge 31, 3) := by decide +kernel
theorem dX4_run_35 : decode cX4_run 35 = .ok (.aload_n 0, 1) := by decide +kernel
theorem dX4_run_36 : decode cX4_run 36 = .ok (.getfield 7, 3) := by decide +kernel
theorem dX4_run_39 : decode cX4_run 39 = .ok (.sipush 2599, 3) := by decide +kernel
theorem dX4_run_42 : decode cX4_run 42 = .ok (.iaload, 1) := by decide +kernel
theorem dX4_run_43 : decode cX4_run 43 = .ok (.ifCond .le 20, 3) := by decide +kernel
theorem dX4_run_46 : decode cX4_run 46 = .ok (.aload_n 0, 1) := by decide +kernel
theorem dX4_run_47 : decode cX4_run 47 = .ok (.invokevirtual 107, 3) := by decide +kernel
theorem dX4_run_50 : decode cX4_run 50 = .ok (.ifCond .ne 13, 3) := by decide +kernel
theorem dX4_run_53 : decode cX4_run 53 = .ok (.aload_n 0, 1) := by decide +kernel
theorem dX4_run_54 : decode cX4_run 54 = .ok (.invokevirtual 111, 3) := by decide +kernel
theorem dX4_run_57 : decode cX4_run 57 = .ok (.iinc 2 1, 3) := by decide +kernel
theorem dX4_run_60 : decode cX4_run 60 = .ok (.goto (-30), 3) := by decide +kernel
theorem dX4_run_63 : decode cX4_run 63 = .ok (.iload_n 2, 1) := by decide +kernel
theorem dX4_run_64 : decode cX4_run 64 = .ok (.ireturn, 1) := by decide +kernel
theorem dX4_queued_0 : decode cX4_queued 0 = .ok (.aload_n 0, 1) := by decide +kernel
theorem dX4_queued_1 : decode cX4_queued 1 = .ok (.iconst 0, 1) := by decide +kernel
theorem dX4_queued_2 : decode cX4_queued 2 = .ok (.putfield 20, 3) := by decide +kernel
theorem dX4_queued_5 : decode cX4_queued 5 = .ok (.aload_n 0, 1) := by decide +kernel
theorem dX4_queued_6 : decode cX4_queued 6 = .ok (.getfield 7, 3) := by decide +kernel
theorem dX4_queued_9 : decode cX4_queued 9 = .ok (.sipush 2599, 3) := by decide +kernel
theorem dX4_queued_12 : decode cX4_queued 12 = .ok (.iaload, 1) := by decide +kernel
theorem dX4_queued_13 : decode cX4_queued 13 = .ok (.ireturn, 1) := by decide +kernel
theorem dX4_state_0 : decode cX4_state 0 = .ok (.aload_n 0, 1) := by decide +kernel
theorem dX4_state_1 : decode cX4_state 1 = .ok (.aload_n 0, 1) := by decide +kernel
theorem dX4_state_2 : decode cX4_state 2 = .ok (.iload_n 1, 1) := by decide +kernel
theorem dX4_state_3 : decode cX4_state 3 = .ok (.invokevirtual 104, 3) := by decide +kernel
theorem dX4_state_6 : decode cX4_state 6 = .ok (.ifCond .eq 7, 3) := by decide +kernel
theorem dX4_state_9 : decode cX4_state 9 = .ok (.iconst 0, 1) := by decide +kernel
theorem dX4_state_10 : decode cX4_state 10 = .ok (.goto 4, 3) := by decide +kernel
theorem dX4_state_13 : decode cX4_state 13 = .ok (.iconst 1, 1) := by decide +kernel
theorem dX4_state_14 : decode cX4_state 14 = .ok (.invokevirtual 35, 3) := by decide +kernel
theorem dX4_state_17 : decode cX4_state 17 = .ok (.ifCond .eq 7, 3) := by decide +kernel
theorem dX4_state_20 : decode cX4_state 20 = .ok (.iconst 0, 1) := by decide +kernel
theorem dX4_state_21 : decode cX4_state 21 = .ok (.goto 9, 3) := by decide +kernel
theorem dX4_state_24 : decode cX4_state 24 = .ok (.aload_n 0, 1) := by decide +kernel
theorem dX4_state_25 : decode cX4_state 25 = .ok (.iload_n 1, 1) := by decide +kernel
theorem dX4_state_26 : decode cX4_state 26 = .ok (.iconst 0, 1) := by decide +kernel
theorem dX4_state_27 : decode cX4_state 27 = .ok (.invokevirtual 40, 3) := by decide +kernel
theorem dX4_state_30 : decode cX4_state 30 = .ok (.ireturn, 1) := by decide +kernel
theorem dX4_setSilent_0 : decode cX4_setSilent 0 = .ok (.aload_n 0, 1) := by decide +kernel
theorem dX4_setSilent_1 : decode cX4_setSilent 1 = .ok (.aload_n 0, 1) := by decide +kernel
theorem dX4_setSilent_2 : decode cX4_setSilent 2 = .ok (.iload_n 1, 1) := by decide +kernel
theorem dX4_setSilent_3 : decode cX4_setSilent 3 = .ok (.invokevirtual 104, 3) := by decide +kernel
theorem dX4_setSilent_6 : decode cX4_setSilent 6 = .ok (.ifCond .eq 7, 3) := by decide +kernel
theorem dX4_setSilent_9 : decode cX4_setSilent 9 = .ok (.iconst 0, 1) := by decide +kernel
theorem dX4_setSilent_10 : decode cX4_setSilent 10 = .ok (.goto 4, 3) := by decide +kernel
theorem dX4_setSilent_13 : decode cX4_setSilent 13 = .ok (.iconst 1, 1) := by decide +kernel
theorem dX4_setSilent_14 : decode cX4_setSilent 14 = .ok (.invokevirtual 35, 3) := by decide +kernel
theorem dX4_setSilent_17 : decode cX4_setSilent 17 = .ok (.ifCond .eq 5, 3) := by decide +kernel
theorem dX4_setSilent_20 : decode cX4_setSilent 20 = .ok (.iconst 0, 1) := by decide +kernel
theorem dX4_setSilent_21 : decode cX4_setSilent 21 = .ok (.ireturn, 1) := by decide +kernel
theorem dX4_setSilent_22 : decode cX4_setSilent 22 = .ok (.aload_n 0, 1) := by decide +kernel
theorem dX4_setSilent_23 : decode cX4_setSilent 23 = .ok (.invokevirtual 101, 3) := by decide +kernel
theorem dX4_setSilent_26 : decode cX4_setSilent 26 = .ok (.aload_n 0, 1) := by decide +kernel
theorem dX4_setSilent_27 : decode cX4_setSilent 27 = .ok (.getfield 7, 3) := by decide +kernel
theorem dX4_setSilent_30 : decode cX4_setSilent 30 = .ok (.iload_n 1, 1) := by decide +kernel
theorem dX4_setSilent_31 : decode cX4_setSilent 31 = .ok (.iconst 1, 1) := by decide +kernel
theorem dX4_setSilent_32 : decode cX4_setSilent 32 = .ok (.invokestatic 28, 3) := by decide +kernel
theorem dX4_setSilent_35 : decode cX4_setSilent 35 = .ok (.iload_n 2, 1) := by decide +kernel
theorem dX4_setSilent_36 : decode cX4_setSilent 36 = .ok (.ifCond .eq 7, 3) := by decide +kernel
theorem dX4_setSilent_39 : decode cX4_setSilent 39 = .ok (.iconst 1, 1) := by decide +kernel
theorem dX4_setSilent_40 : decode cX4_setSilent 40 = .ok (.goto 4, 3) := by decide +kernel
theorem dX4_setSilent_43 : decode cX4_setSilent 43 = .ok (.iconst 0, 1) := by decide +kernel
theorem dX4_setSilent_44 : decode cX4_setSilent 44 = .ok (.iastore, 1) := by decide +kernel
theorem dX4_setSilent_45 : decode cX4_setSilent 45 = .ok (.aload_n 0, 1) := by decide +kernel
theorem dX4_setSilent_46 : decode cX4_setSilent 46 = .ok (.iload_n 1, 1) := by decide +kernel
theorem dX4_setSilent_47 : decode cX4_setSilent 47 = .ok (.sipush 226, 3) := by decide +kernel
theorem dX4_setSilent_50 : decode cX4_setSilent 50 = .ok (.invokevirtual 40, 3) := by decide +kernel
theorem dX4_setSilent_53 : decode cX4_setSilent 53 = .ok (.ireturn, 1) := by decide +kernel
theorem dX4_pending_0 : decode cX4_pending 0 = .ok (.aload_n 0, 1) := by decide +kernel
theorem dX4_pending_1 : decode cX4_pending 1 = .ok (.aload_n 0, 1) := by decide +kernel
theorem dX4_pending_2 : decode cX4_pending 2 = .ok (.iload_n 1, 1) := by decide +kernel
theorem dX4_pending_3 : decode cX4_pending 3 = .ok (.invokevirtual 104, 3) := by decide +kernel
theorem dX4_pending_6 : decode cX4_pending 6 = .ok (.ifCond .eq 7, 3) := by decide +kernel
theorem dX4_pending_9 : decode cX4_pending 9 = .ok (.iconst 0, 1) := by decide +kernel
theorem dX4_pending_10 : decode cX4_pending 10 = .ok (.goto 4, 3) := by decide +kernel
theorem dX4_pending_13 : decode cX4_pending 13 = .ok (.iconst 1, 1) := by decide +kernel
theorem dX4_pending_14 : decode cX4_pending 14 = .ok (.invokevirtual 35, 3) := by decide +kernel
theorem dX4_pending_17 : decode cX4_pending 17 = .ok (.ifCond .eq 7, 3) := by decide +kernel
theorem dX4_pending_20 : decode cX4_pending 20 = .ok (.iconst 0, 1) := by decide +kernel
theorem dX4_pending_21 : decode cX4_pending 21 = .ok (.goto 11, 3) := by decide +kernel
theorem dX4_pending_24 : decode cX4_pending 24 = .ok (.aload_n 0, 1) := by decide +kernel
theorem dX4_pending_25 : decode cX4_pending 25 = .ok (.iload_n 1, 1) := by decide +kernel
theorem dX4_pending_26 : decode cX4_pending 26 = .ok (.sipush 226, 3) := by decide +kernel
theorem dX4_pending_29 : decode cX4_pending 29 = .ok (.invokevirtual 40, 3) := by decide +kernel
theorem dX4_pending_32 : decode cX4_pending 32 = .ok (.ireturn, 1) := by decide +kernel
theorem dX4_resend_0 : decode cX4_resend 0 = .ok (.aload_n 0, 1) := by decide +kernel
theorem dX4_resend_1 : decode cX4_resend 1 = .ok (.aload_n 0, 1) := by decide +kernel
theorem dX4_resend_2 : decode cX4_resend 2 = .ok (.iload_n 1, 1) := by decide +kernel
theorem dX4_resend_3 : decode cX4_resend 3 = .ok (.invokevirtual 104, 3) := by decide +kernel
theorem dX4_resend_6 : decode cX4_resend 6 = .ok (.ifCond .ne 7, 3) := by decide +kernel
theorem dX4_resend_9 : decode cX4_resend 9 = .ok (.iconst 1, 1) := by decide +kernel
theorem dX4_resend_10 : decode cX4_resend 10 = .ok (.goto 30, 3) := by decide +kernel
theorem dX4_resend_13 : decode cX4_resend 13 = .ok (.aload_n 0, 1) := by decide +kernel
theorem dX4_resend_14 : decode cX4_resend 14 = .ok (.getfield 7, 3) := by decide +kernel
theorem dX4_resend_17 : decode cX4_resend 17 = .ok (.sipush 2599, 3) := by decide +kernel
theorem dX4_resend_20 : decode cX4_resend 20 = .ok (.iaload, 1) := by decide +kernel
theorem dX4_resend_21 : decode cX4_resend 21 = .ok (.aload_n 0, 1) := by decide +kernel
theorem dX4_resend_22 : decode cX4_resend 22 = .ok (.iload_n 1, 1) := by decide +kernel
theorem dX4_resend_23 : decode cX4_resend 23 = .ok (.sipush 226, 3) := by decide +kernel
theorem dX4_resend_26 : decode cX4_resend 26 = .ok (.invokevirtual 40, 3) := by decide +kernel
theorem dX4_resend_29 : decode cX4_resend 29 = .ok (.iadd, 1) := by decide +kernel
theorem dX4_resend_30 : decode cX4_resend 30 = .ok (.bipush 40, 2) := by decide +kernel
theorem dX4_resend_32 : decode cX4_resend 32 = .ok (.if_icmp .le 7, 3) := by decide +kernel
theorem dX4_resend_35 : decode cX4_resend 35 = .ok (.iconst 2, 1) := by decide +kernel
theorem dX4_resend_36 : decode cX4_resend 36 = .ok (.goto 4, 3) := by decide +kernel
theorem dX4_resend_39 : decode cX4_resend 39 = .ok (.iconst 0, 1) := by decide +kernel
theorem dX4_resend_40 : decode cX4_resend 40 = .ok (.invokevirtual 35, 3) := by decide +kernel
theorem dX4_resend_43 : decode cX4_resend 43 = .ok (.ifCond .eq 5, 3) := by decide +kernel
theorem dX4_resend_46 : decode cX4_resend 46 = .ok (.iconst 0, 1) := by decide +kernel
theorem dX4_resend_47 : decode cX4_resend 47 = .ok (.ireturn, 1) := by decide +kernel
theorem dX4_resend_48 : decode cX4_resend 48 = .ok (.aload_n 0, 1) := by decide +kernel
theorem dX4_resend_49 : decode cX4_resend 49 = .ok (.invokevirtual 101, 3) := by decide +kernel
theorem dX4_resend_52 : decode cX4_resend 52 = .ok (.aload_n 0, 1) := by decide +kernel
theorem dX4_resend_53 : decode cX4_resend 53 = .ok (.iload_n 1, 1) := by decide +kernel
theorem dX4_resend_54 : decode cX4_resend 54 = .ok (.sipush 226, 3) := by decide +kernel
theorem dX4_resend_57 : decode cX4_resend 57 = .ok (.invokevirtual 40, 3) := by decide +kernel
theorem dX4_resend_60 : decode cX4_resend 60 = .ok (.istore_n 2, 1) := by decide +kernel
theorem dX4_resend_61 : decode cX4_resend 61 = .ok (.iconst 0, 1) := by decide +kernel
theorem dX4_resend_62 : decode cX4_resend 62 = .ok (.istore_n 3, 1) := by decide +kernel
theorem dX4_resend_63 : decode cX4_resend 63 = .ok (.iload_n 3, 1) := by decide +kernel
theorem dX4_resend_64 : decode cX4_resend 64 = .ok (.iconst 5, 1) := by decide +kernel
theorem dX4_resend_65 : decode cX4_resend 65 = .ok (.iload_n 2, 1) := by decide +kernel
theorem dX4_resend_66 : decode cX4_resend 66 = .ok (.imul, 1) := by decide +kernel
theorem dX4_resend_67 : decode cX4_resend 67 = .ok (.if_icmp .ge 40, 3) := by decide +kernel
theorem dX4_resend_70 : decode cX4_resend 70 = .ok (.aload_n 0, 1) := by decide +kernel
theorem dX4_resend_71 : decode cX4_resend 71 = .ok (.getfield 7, 3) := by decide +kernel
theorem dX4_resend_74 : decode cX4_resend 74 = .ok (.sipush 2600, 3) := by decide +kernel
theorem dX4_resend_77 : decode cX4_resend 77 = .ok (.iconst 5, 1) := by decide +kernel
theorem dX4_resend_78 : decode cX4_resend 78 = .ok (.aload_n 0, 1) := by decide +kernel
theorem dX4_resend_79 : decode cX4_resend 79 = .ok (.getfield 7, 3) := by decide +kernel
theorem dX4_resend_82 : decode cX4_resend 82 = .ok (.sipush 2599, 3) := by decide +kernel
theorem dX4_resend_85 : decode cX4_resend 85 = .ok (.iaload, 1) := by decide +kernel
theorem dX4_resend_86 : decode cX4_resend 86 = .ok (.imul, 1) := by decide +kernel
theorem dX4_resend_87 : decode cX4_resend 87 = .ok (.iadd, 1) := by decide +kernel
theorem dX4_resend_88 : decode cX4_resend 88 = .ok (.iload_n 3, 1) := by decide +kernel
theorem dX4_resend_89 : decode cX4_resend 89 = .ok (.iadd, 1) := by decide +kernel
theorem dX4_resend_90 : decode cX4_resend 90 = .ok (.aload_n 0, 1) := by decide +kernel
theorem dX4_resend_91 : decode cX4_resend 91 = .ok (.iload_n 1, 1) := by decide +kernel
theorem dX4_resend_92 : decode cX4_resend 92 = .ok (.sipush 227, 3) := by decide +kernel
theorem dX4_resend_95 : decode cX4_resend 95 = .ok (.iload_n 3, 1) := by decide +kernel
theorem dX4_resend_96 : decode cX4_resend 96 = .ok (.iadd, 1) := by decide +kernel
theorem dX4_resend_97 : decode cX4_resend 97 = .ok (.invokevirtual 40, 3) := by decide +kernel
theorem dX4_resend_100 : decode cX4_resend 100 = .ok (.iastore, 1) := by decide +kernel
theorem dX4_resend_101 : decode cX4_resend 101 = .ok (.iinc 3 1, 3) := by decide +kernel
theorem dX4_resend_104 : decode cX4_resend 104 = .ok (.goto (-41), 3) := by decide +kernel
theorem dX4_resend_107 : decode cX4_resend 107 = .ok (.aload_n 0, 1) := by decide +kernel
theorem dX4_resend_108 : decode cX4_resend 108 = .ok (.getfield 7, 3) := by decide +kernel
theorem dX4_resend_111 : decode cX4_resend 111 = .ok (.sipush 2599, 3) := by decide +kernel
theorem dX4_resend_114 : decode cX4_resend 114 = .ok (.dup2, 1) := by decide +kernel
theorem dX4_resend_115 : decode cX4_resend 115 = .ok (.iaload, 1) := by decide +kernel
theorem dX4_resend_116 : decode cX4_resend 116 = .ok (.iload_n 2, 1) := by decide +kernel
theorem dX4_resend_117 : decode cX4_resend 117 = .ok (.iadd, 1) := by decide +kernel
theorem dX4_resend_118 : decode cX4_resend 118 = .ok (.iastore, 1) := by decide +kernel
theorem dX4_resend_119 : decode cX4_resend 119 = .ok (.aload_n 0, 1) := by decide +kernel
theorem dX4_resend_120 : decode cX4_resend 120 = .ok (.getfield 7, 3) := by decide +kernel
theorem dX4_resend_123 : decode cX4_resend 123 = .ok (.iload_n 1, 1) := by decide +kernel
theorem dX4_resend_124 : decode cX4_resend 124 = .ok (.sipush 226, 3) := by decide +kernel
theorem dX4_resend_127 : decode cX4_resend 127 = .ok (.invokestatic 28, 3) := by decide +kernel
theorem dX4_resend_130 : decode cX4_resend 130 = .ok (.iconst 0, 1) := by decide +kernel
theorem dX4_resend_131 : decode cX4_resend 131 = .ok (.iastore, 1) := by decide +kernel
theorem dX4_resend_132 : decode cX4_resend 132 = .ok (.iload_n 2, 1) := by decide +kernel
theorem dX4_resend_133 : decode cX4_resend 133 = .ok (.ireturn, 1) := by decide +kernel
theorem dX4_lie_0 : decode cX4_lie 0 = .ok (.aload_n 0, 1) := by decide +kernel
theorem dX4_lie_1 : decode cX4_lie 1 = .ok (.aload_n 0, 1) := by decide +kernel
theorem dX4_lie_2 : decode cX4_lie 2 = .ok (.iload_n 1, 1) := by decide +kernel
theorem dX4_lie_3 : decode cX4_lie 3 = .ok (.invokevirtual 104, 3) := by decide +kernel
theorem dX4_lie_6 : decode cX4_lie 6 = .ok (.ifCond .eq 7, 3) := by decide +kernel
theorem dX4_lie_9 : decode cX4_lie 9 = .ok (.iconst 0, 1) := by decide +kernel
theorem dX4_lie_10 : decode cX4_lie 10 = .ok (.goto 4, 3) := by decide +kernel
theorem dX4_lie_13 : decode cX4_lie 13 = .ok (.iconst 1, 1) := by decide +kernel
theorem dX4_lie_14 : decode cX4_lie 14 = .ok (.invokevirtual 35, 3) := by decide +kernel
theorem dX4_lie_17 : decode cX4_lie 17 = .ok (.ifCond .eq 5, 3) := by decide +kernel
theorem dX4_lie_20 : decode cX4_lie 20 = .ok (.iconst 0, 1) := by decide +kernel
theorem dX4_lie_21 : decode cX4_lie 21 = .ok (.ireturn, 1) := by decide +kernel
theorem dX4_lie_22 : decode cX4_lie 22 = .ok (.aload_n 0, 1) := by decide +kernel
theorem dX4_lie_23 : decode cX4_lie 23 = .ok (.invokevirtual 101, 3) := by decide +kernel
theorem dX4_lie_26 : decode cX4_lie 26 = .ok (.aload_n 0, 1) := by decide +kernel
theorem dX4_lie_27 : decode cX4_lie 27 = .ok (.iload_n 1, 1) := by decide +kernel
theorem dX4_lie_28 : decode cX4_lie 28 = .ok (.iconst 2, 1) := by decide +kernel
theorem dX4_lie_29 : decode cX4_lie 29 = .ok (.invokevirtual 40, 3) := by decide +kernel
theorem dX4_lie_32 : decode cX4_lie 32 = .ok (.iconst 1, 1) := by decide +kernel
theorem dX4_lie_33 : decode cX4_lie 33 = .ok (.if_icmp .ne 7, 3) := by decide +kernel
theorem dX4_lie_36 : decode cX4_lie 36 = .ok (.iconst 1, 1) := by decide +kernel
theorem dX4_lie_37 : decode cX4_lie 37 = .ok (.goto 4, 3) := by decide +kernel
theorem dX4_lie_40 : decode cX4_lie 40 = .ok (.iconst 0, 1) := by decide +kernel
theorem dX4_lie_41 : decode cX4_lie 41 = .ok (.istore_n 2, 1) := by decide +kernel
theorem dX4_lie_42 : decode cX4_lie 42 = .ok (.aload_n 0, 1) := by decide +kernel
theorem dX4_lie_43 : decode cX4_lie 43 = .ok (.getfield 7, 3) := by decide +kernel
theorem dX4_lie_46 : decode cX4_lie 46 = .ok (.iload_n 1, 1) := by decide +kernel
theorem dX4_lie_47 : decode cX4_lie 47 = .ok (.iconst 2, 1) := by decide +kernel
theorem dX4_lie_48 : decode cX4_lie 48 = .ok (.invokestatic 28, 3) := by decide +kernel
theorem dX4_lie_51 : decode cX4_lie 51 = .ok (.iconst 1, 1) := by decide +kernel
theorem dX4_lie_52 : decode cX4_lie 52 = .ok (.iastore, 1) := by decide +kernel
theorem dX4_lie_53 : decode cX4_lie 53 = .ok (.iload_n 2, 1) := by decide +kernel
theorem dX4_lie_54 : decode cX4_lie 54 = .ok (.ireturn, 1) := by decide +kernel
theorem dX4_isEntry_0 : decode cX4_isEntry 0 = .ok (.aload_n 0, 1) := by decide +kernel
theorem dX4_isEntry_1 : decode cX4_isEntry 1 = .ok (.iload_n 1, 1) := by decide +kernel
theorem dX4_isEntry_2 : decode cX4_isEntry 2 = .ok (.invokevirtual 104, 3) := by decide +kernel
theorem dX4_isEntry_5 : decode cX4_isEntry 5 = .ok (.ifCond .eq 23, 3) := by decide +kernel
theorem dX4_isEntry_8 : decode cX4_isEntry 8 = .ok (.iload_n 2, 1) := by decide +kernel
theorem dX4_isEntry_9 : decode cX4_isEntry 9 = .ok (.iconst 0, 1) := by decide +kernel
theorem dX4_isEntry_10 : decode cX4_isEntry 10 = .ok (.aload_n 0, 1) := by decide +kernel
theorem dX4_isEntry_11 : decode cX4_isEntry 11 = .ok (.iload_n 1, 1) := by decide +kernel
theorem dX4_isEntry_12 : decode cX4_isEntry 12 = .ok (.iconst 4, 1) := by decide +kernel
theorem dX4_isEntry_13 : decode cX4_isEntry 13 = .ok (.invokevirtual 40, 3) := by decide +kernel
theorem dX4_isEntry_16 : decode cX4_isEntry 16 = .ok (.iconst 1, 1) := by decide +kernel
theorem dX4_isEntry_17 : decode cX4_isEntry 17 = .ok (.isub, 1) := by decide +kernel
theorem dX4_isEntry_18 : decode cX4_isEntry 18 = .ok (.invokestatic 24, 3) := by decide +kernel
theorem dX4_isEntry_21 : decode cX4_isEntry 21 = .ok (.ifCond .eq 7, 3) := by decide +kernel
theorem dX4_isEntry_24 : decode cX4_isEntry 24 = .ok (.iconst 1, 1) := by decide +kernel
theorem dX4_isEntry_25 : decode cX4_isEntry 25 = .ok (.goto 4, 3) := by decide +kernel
theorem dX4_isEntry_28 : decode cX4_isEntry 28 = .ok (.iconst 0, 1) := by decide +kernel
theorem dX4_isEntry_29 : decode cX4_isEntry 29 = .ok (.ireturn, 1) := by decide +kernel
theorem dX4_tamper_0 : decode cX4_tamper 0 = .ok (.aload_n 0, 1) := by decide +kernel
theorem dX4_tamper_1 : decode cX4_tamper 1 = .ok (.aload_n 0, 1) := by decide +kernel
theorem dX4_tamper_2 : decode cX4_tamper 2 = .ok (.iload_n 1, 1) := by decide +kernel
theorem dX4_tamper_3 : decode cX4_tamper 3 = .ok (.iload_n 2, 1) := by decide +kernel
theorem dX4_tamper_4 : decode cX4_tamper 4 = .ok (.invokevirtual 114, 3) := by decide +kernel
theorem dX4_tamper_7 : decode cX4_tamper 7 = .ok (.ifCond .ne 7, 3) := by decide +kernel
theorem dX4_tamper_10 : decode cX4_tamper 10 = .ok (.iconst 1, 1) := by decide +kernel
theorem dX4_tamper_11 : decode cX4_tamper 11 = .ok (.goto 19, 3) := by decide +kernel
theorem dX4_tamper_14 : decode cX4_tamper 14 = .ok (.iload_n 3, 1) := by decide +kernel
theorem dX4_tamper_15 : decode cX4_tamper 15 = .ok (.iconst 0, 1) := by decide +kernel
theorem dX4_tamper_16 : decode cX4_tamper 16 = .ok (.sipush 999, 3) := by decide +kernel
theorem dX4_tamper_19 : decode cX4_tamper 19 = .ok (.invokestatic 24, 3) := by decide +kernel
theorem dX4_tamper_22 : decode cX4_tamper 22 = .ok (.ifCond .eq 7, 3) := by decide +kernel
theorem dX4_tamper_25 : decode cX4_tamper 25 = .ok (.iconst 0, 1) := by decide +kernel
theorem dX4_tamper_26 : decode cX4_tamper 26 = .ok (.goto 4, 3) := by decide +kernel
theorem dX4_tamper_29 : decode cX4_tamper 29 = .ok (.iconst 2, 1) := by decide +kernel
theorem dX4_tamper_30 : decode cX4_tamper 30 = .ok (.invokevirtual 35, 3) := by decide +kernel
theorem dX4_tamper_33 : decode cX4_tamper 33 = .ok (.ifCond .eq 5, 3) := by decide +kernel
theorem dX4_tamper_36 : decode cX4_tamper 36 = .ok (.iconst 0, 1) := by decide +kernel
theorem dX4_tamper_37 : decode cX4_tamper 37 = .ok (.ireturn, 1) := by decide +kernel
theorem dX4_tamper_38 : decode cX4_tamper 38 = .ok (.aload_n 0, 1) := by decide +kernel
theorem dX4_tamper_39 : decode cX4_tamper 39 = .ok (.invokevirtual 101, 3) := by decide +kernel
theorem dX4_tamper_42 : decode cX4_tamper 42 = .ok (.aload_n 0, 1) := by decide +kernel
theorem dX4_tamper_43 : decode cX4_tamper 43 = .ok (.iload_n 1, 1) := by decide +kernel
theorem dX4_tamper_44 : decode cX4_tamper 44 = .ok (.iload_n 2, 1) := by decide +kernel
theorem dX4_tamper_45 : decode cX4_tamper 45 = .ok (.invokevirtual 43, 3) := by decide +kernel
theorem dX4_tamper_48 : decode cX4_tamper 48 = .ok (.istore 4, 2) := by decide +kernel
theorem dX4_tamper_50 : decode cX4_tamper 50 = .ok (.aload_n 0, 1) := by decide +kernel
theorem dX4_tamper_51 : decode cX4_tamper 51 = .ok (.getfield 7, 3) := by decide +kernel
theorem dX4_tamper_54 : decode cX4_tamper 54 = .ok (.iload_n 1, 1) := by decide +kernel
theorem dX4_tamper_55 : decode cX4_tamper 55 = .ok (.iconst 5, 1) := by decide +kernel
theorem dX4_tamper_56 : decode cX4_tamper 56 = .ok (.iload_n 2, 1) := by decide +kernel
theorem dX4_tamper_57 : decode cX4_tamper 57 = .ok (.iadd, 1) := by decide +kernel
theorem dX4_tamper_58 : decode cX4_tamper 58 = .ok (.invokestatic 28, 3) := by decide +kernel
theorem dX4_tamper_61 : decode cX4_tamper 61 = .ok (.iload 4, 2) := by decide +kernel
theorem dX4_tamper_63 : decode cX4_tamper 63 = .ok (.iload 4, 2) := by decide +kernel
theorem dX4_tamper_65 : decode cX4_tamper 65 = .ok (.invokestatic 61, 3) := by decide +kernel
theorem dX4_tamper_68 : decode cX4_tamper 68 = .ok (.isub, 1) := by decide +kernel
theorem dX4_tamper_69 : decode cX4_tamper 69 = .ok (.iload_n 3, 1) := by decide +kernel
theorem dX4_tamper_70 : decode cX4_tamper 70 = .ok (.iadd, 1) := by decide +kernel
theorem dX4_tamper_71 : decode cX4_tamper 71 = .ok (.iastore, 1) := by decide +kernel
theorem dX4_tamper_72 : decode cX4_tamper 72 = .ok (.iload 4, 2) := by decide +kernel
theorem dX4_tamper_74 : decode cX4_tamper 74 = .ok (.invokestatic 61, 3) := by decide +kernel
theorem dX4_tamper_77 : decode cX4_tamper 77 = .ok (.ireturn, 1) := by decide +kernel
theorem dX4_cut_0 : decode cX4_cut 0 = .ok (.aload_n 0, 1) := by decide +kernel
theorem dX4_cut_1 : decode cX4_cut 1 = .ok (.aload_n 0, 1) := by decide +kernel
theorem dX4_cut_2 : decode cX4_cut 2 = .ok (.iload_n 1, 1) := by decide +kernel
theorem dX4_cut_3 : decode cX4_cut 3 = .ok (.invokevirtual 104, 3) := by decide +kernel
theorem dX4_cut_6 : decode cX4_cut 6 = .ok (.ifCond .ne 7, 3) := by decide +kernel
theorem dX4_cut_9 : decode cX4_cut 9 = .ok (.iconst 1, 1) := by decide +kernel
theorem dX4_cut_10 : decode cX4_cut 10 = .ok (.goto 22, 3) := by decide +kernel
theorem dX4_cut_13 : decode cX4_cut 13 = .ok (.iload_n 2, 1) := by decide +kernel
theorem dX4_cut_14 : decode cX4_cut 14 = .ok (.iconst 1, 1) := by decide +kernel
theorem dX4_cut_15 : decode cX4_cut 15 = .ok (.aload_n 0, 1) := by decide +kernel
theorem dX4_cut_16 : decode cX4_cut 16 = .ok (.iload_n 1, 1) := by decide +kernel
theorem dX4_cut_17 : decode cX4_cut 17 = .ok (.iconst 4, 1) := by decide +kernel
theorem dX4_cut_18 : decode cX4_cut 18 = .ok (.invokevirtual 40, 3) := by decide +kernel
theorem dX4_cut_21 : decode cX4_cut 21 = .ok (.invokestatic 24, 3) := by decide +kernel
theorem dX4_cut_24 : decode cX4_cut 24 = .ok (.ifCond .eq 7, 3) := by decide +kernel
theorem dX4_cut_27 : decode cX4_cut 27 = .ok (.iconst 0, 1) := by decide +kernel
theorem dX4_cut_28 : decode cX4_cut 28 = .ok (.goto 4, 3) := by decide +kernel
theorem dX4_cut_31 : decode cX4_cut 31 = .ok (.iconst 2, 1) := by decide +kernel
theorem dX4_cut_32 : decode cX4_cut 32 = .ok (.invokevirtual 35, 3) := by decide +kernel
theorem dX4_cut_35 : decode cX4_cut 35 = .ok (.ifCond .eq 5, 3) := by decide +kernel
theorem dX4_cut_38 : decode cX4_cut 38 = .ok (.iconst 0, 1) := by decide +kernel
theorem dX4_cut_39 : decode cX4_cut 39 = .ok (.ireturn, 1) := by decide +kernel
theorem dX4_cut_40 : decode cX4_cut 40 = .ok (.aload_n 0, 1) := by decide +kernel
theorem dX4_cut_41 : decode cX4_cut 41 = .ok (.invokevirtual 101, 3) := by decide +kernel
theorem dX4_cut_44 : decode cX4_cut 44 = .ok (.aload_n 0, 1) := by decide +kernel
theorem dX4_cut_45 : decode cX4_cut 45 = .ok (.getfield 7, 3) := by decide +kernel
theorem dX4_cut_48 : decode cX4_cut 48 = .ok (.iload_n 1, 1) := by decide +kernel
theorem dX4_cut_49 : decode cX4_cut 49 = .ok (.iconst 4, 1) := by decide +kernel
theorem dX4_cut_50 : decode cX4_cut 50 = .ok (.invokestatic 28, 3) := by decide +kernel
theorem dX4_cut_53 : decode cX4_cut 53 = .ok (.dup2, 1) := by decide +kernel
theorem dX4_cut_54 : decode cX4_cut 54 = .ok (.iaload, 1) := by decide +kernel
theorem dX4_cut_55 : decode cX4_cut 55 = .ok (.iload_n 2, 1) := by decide +kernel
theorem dX4_cut_56 : decode cX4_cut 56 = .ok (.isub, 1) := by decide +kernel
theorem dX4_cut_57 : decode cX4_cut 57 = .ok (.iastore, 1) := by decide +kernel
theorem dX4_cut_58 : decode cX4_cut 58 = .ok (.aload_n 0, 1) := by decide +kernel
theorem dX4_cut_59 : decode cX4_cut 59 = .ok (.iload_n 1, 1) := by decide +kernel
theorem dX4_cut_60 : decode cX4_cut 60 = .ok (.iconst 4, 1) := by decide +kernel
theorem dX4_cut_61 : decode cX4_cut 61 = .ok (.invokevirtual 40, 3) := by decide +kernel
theorem dX4_cut_64 : decode cX4_cut 64 = .ok (.ireturn, 1) := by decide +kernel
theorem dX4_logLength_0 : decode cX4_logLength 0 = .ok (.aload_n 0, 1) := by decide +kernel
theorem dX4_logLength_1 : decode cX4_logLength 1 = .ok (.aload_n 0, 1) := by decide +kernel
theorem dX4_logLength_2 : decode cX4_logLength 2 = .ok (.iload_n 1, 1) := by decide +kernel
theorem dX4_logLength_3 : decode cX4_logLength 3 = .ok (.invokevirtual 104, 3) := by decide +kernel
theorem dX4_logLength_6 : decode cX4_logLength 6 = .ok (.ifCond .eq 7, 3) := by decide +kernel
theorem dX4_logLength_9 : decode cX4_logLength 9 = .ok (.iconst 0, 1) := by decide +kernel
theorem dX4_logLength_10 : decode cX4_logLength 10 = .ok (.goto 4, 3) := by decide +kernel
theorem dX4_logLength_13 : decode cX4_logLength 13 = .ok (.iconst 1, 1) := by decide +kernel
theorem dX4_logLength_14 : decode cX4_logLength 14 = .ok (.invokevirtual 35, 3) := by decide +kernel
theorem dX4_logLength_17 : decode cX4_logLength 17 = .ok (.ifCond .eq 7, 3) := by decide +kernel
theorem dX4_logLength_20 : decode cX4_logLength 20 = .ok (.iconst 0, 1) := by decide +kernel
theorem dX4_logLength_21 : decode cX4_logLength 21 = .ok (.goto 9, 3) := by decide +kernel
theorem dX4_logLength_24 : decode cX4_logLength 24 = .ok (.aload_n 0, 1) := by decide +kernel
theorem dX4_logLength_25 : decode cX4_logLength 25 = .ok (.iload_n 1, 1) := by decide +kernel
theorem dX4_logLength_26 : decode cX4_logLength 26 = .ok (.iconst 4, 1) := by decide +kernel
theorem dX4_logLength_27 : decode cX4_logLength 27 = .ok (.invokevirtual 40, 3) := by decide +kernel
theorem dX4_logLength_30 : decode cX4_logLength 30 = .ok (.ireturn, 1) := by decide +kernel
theorem dX4_entry_0 : decode cX4_entry 0 = .ok (.aload_n 0, 1) := by decide +kernel
theorem dX4_entry_1 : decode cX4_entry 1 = .ok (.aload_n 0, 1) := by decide +kernel
theorem dX4_entry_2 : decode cX4_entry 2 = .ok (.iload_n 1, 1) := by decide +kernel
theorem dX4_entry_3 : decode cX4_entry 3 = .ok (.iload_n 2, 1) := by decide +kernel
theorem dX4_entry_4 : decode cX4_entry 4 = .ok (.invokevirtual 114, 3) := by decide +kernel
theorem dX4_entry_7 : decode cX4_entry 7 = .ok (.ifCond .eq 7, 3) := by decide +kernel
theorem dX4_entry_10 : decode cX4_entry 10 = .ok (.iconst 0, 1) := by decide +kernel
theorem dX4_entry_11 : decode cX4_entry 11 = .ok (.goto 4, 3) := by decide +kernel
theorem dX4_entry_14 : decode cX4_entry 14 = .ok (.iconst 1, 1) := by decide +kernel
theorem dX4_entry_15 : decode cX4_entry 15 = .ok (.invokevirtual 35, 3) := by decide +kernel
theorem dX4_entry_18 : decode cX4_entry 18 = .ok (.ifCond .eq 7, 3) := by decide +kernel
theorem dX4_entry_21 : decode cX4_entry 21 = .ok (.iconst 0, 1) := by decide +kernel
theorem dX4_entry_22 : decode cX4_entry 22 = .ok (.goto 9, 3) := by decide +kernel
theorem dX4_entry_25 : decode cX4_entry 25 = .ok (.aload_n 0, 1) := by decide +kernel
theorem dX4_entry_26 : decode cX4_entry 26 = .ok (.iload_n 1, 1) := by decide +kernel
theorem dX4_entry_27 : decode cX4_entry 27 = .ok (.iload_n 2, 1) := by decide +kernel
theorem dX4_entry_28 : decode cX4_entry 28 = .ok (.invokevirtual 43, 3) := by decide +kernel
theorem dX4_entry_31 : decode cX4_entry 31 = .ok (.ireturn, 1) := by decide +kernel
theorem dX4_chain_0 : decode cX4_chain 0 = .ok (.aload_n 0, 1) := by decide +kernel
theorem dX4_chain_1 : decode cX4_chain 1 = .ok (.aload_n 0, 1) := by decide +kernel
theorem dX4_chain_2 : decode cX4_chain 2 = .ok (.iload_n 1, 1) := by decide +kernel
theorem dX4_chain_3 : decode cX4_chain 3 = .ok (.invokevirtual 104, 3) := by decide +kernel
theorem dX4_chain_6 : decode cX4_chain 6 = .ok (.ifCond .eq 21, 3) := by decide +kernel
theorem dX4_chain_9 : decode cX4_chain 9 = .ok (.iload_n 2, 1) := by decide +kernel
theorem dX4_chain_10 : decode cX4_chain 10 = .ok (.iconst 0, 1) := by decide +kernel
theorem dX4_chain_11 : decode cX4_chain 11 = .ok (.aload_n 0, 1) := by decide +kernel
theorem dX4_chain_12 : decode cX4_chain 12 = .ok (.iload_n 1, 1) := by decide +kernel
theorem dX4_chain_13 : decode cX4_chain 13 = .ok (.iconst 4, 1) := by decide +kernel
theorem dX4_chain_14 : decode cX4_chain 14 = .ok (.invokevirtual 40, 3) := by decide +kernel
theorem dX4_chain_17 : decode cX4_chain 17 = .ok (.invokestatic 24, 3) := by decide +kernel
theorem dX4_chain_20 : decode cX4_chain 20 = .ok (.ifCond .eq 7, 3) := by decide +kernel
theorem dX4_chain_23 : decode cX4_chain 23 = .ok (.iconst 0, 1) := by decide +kernel
theorem dX4_chain_24 : decode cX4_chain 24 = .ok (.goto 4, 3) := by decide +kernel
theorem dX4_chain_27 : decode cX4_chain 27 = .ok (.iconst 1, 1) := by decide +kernel
theorem dX4_chain_28 : decode cX4_chain 28 = .ok (.invokevirtual 35, 3) := by decide +kernel
theorem dX4_chain_31 : decode cX4_chain 31 = .ok (.ifCond .eq 7, 3) := by decide +kernel
theorem dX4_chain_34 : decode cX4_chain 34 = .ok (.iconst 0, 1) := by decide +kernel
theorem dX4_chain_35 : decode cX4_chain 35 = .ok (.goto 9, 3) := by decide +kernel
theorem dX4_chain_38 : decode cX4_chain 38 = .ok (.aload_n 0, 1) := by decide +kernel
theorem dX4_chain_39 : decode cX4_chain 39 = .ok (.iload_n 1, 1) := by decide +kernel
theorem dX4_chain_40 : decode cX4_chain 40 = .ok (.iload_n 2, 1) := by decide +kernel
theorem dX4_chain_41 : decode cX4_chain 41 = .ok (.invokevirtual 84, 3) := by decide +kernel
theorem dX4_chain_44 : decode cX4_chain 44 = .ok (.ireturn, 1) := by decide +kernel
theorem dX4_held_0 : decode cX4_held 0 = .ok (.aload_n 0, 1) := by decide +kernel
theorem dX4_held_1 : decode cX4_held 1 = .ok (.aload_n 0, 1) := by decide +kernel
theorem dX4_held_2 : decode cX4_held 2 = .ok (.iload_n 1, 1) := by decide +kernel
theorem dX4_held_3 : decode cX4_held 3 = .ok (.invokevirtual 104, 3) := by decide +kernel
theorem dX4_held_6 : decode cX4_held 6 = .ok (.ifCond .eq 7, 3) := by decide +kernel
theorem dX4_held_9 : decode cX4_held 9 = .ok (.iconst 0, 1) := by decide +kernel
theorem dX4_held_10 : decode cX4_held 10 = .ok (.goto 4, 3) := by decide +kernel
theorem dX4_held_13 : decode cX4_held 13 = .ok (.iconst 1, 1) := by decide +kernel
theorem dX4_held_14 : decode cX4_held 14 = .ok (.invokevirtual 35, 3) := by decide +kernel
theorem dX4_held_17 : decode cX4_held 17 = .ok (.ifCond .eq 7, 3) := by decide +kernel
theorem dX4_held_20 : decode cX4_held 20 = .ok (.iconst 0, 1) := by decide +kernel
theorem dX4_held_21 : decode cX4_held 21 = .ok (.goto 10, 3) := by decide +kernel
theorem dX4_held_24 : decode cX4_held 24 = .ok (.aload_n 0, 1) := by decide +kernel
theorem dX4_held_25 : decode cX4_held 25 = .ok (.iload_n 1, 1) := by decide +kernel
theorem dX4_held_26 : decode cX4_held 26 = .ok (.bipush 45, 2) := by decide +kernel
theorem dX4_held_28 : decode cX4_held 28 = .ok (.invokevirtual 40, 3) := by decide +kernel
theorem dX4_held_31 : decode cX4_held 31 = .ok (.ireturn, 1) := by decide +kernel
theorem dX4_authenticator_0 : decode cX4_authenticator 0 = .ok (.aload_n 0, 1) := by decide +kernel
theorem dX4_authenticator_1 : decode cX4_authenticator 1 = .ok (.aload_n 0, 1) := by decide +kernel
theorem dX4_authenticator_2 : decode cX4_authenticator 2 = .ok (.iload_n 1, 1) := by decide +kernel
theorem dX4_authenticator_3 : decode cX4_authenticator 3 = .ok (.invokevirtual 104, 3) := by decide +kernel
theorem dX4_authenticator_6 : decode cX4_authenticator 6 = .ok (.ifCond .eq 20, 3) := by decide +kernel
theorem dX4_authenticator_9 : decode cX4_authenticator 9 = .ok (.iload_n 2, 1) := by decide +kernel
theorem dX4_authenticator_10 : decode cX4_authenticator 10 = .ok (.iconst 0, 1) := by decide +kernel
theorem dX4_authenticator_11 : decode cX4_authenticator 11 = .ok (.aload_n 0, 1) := by decide +kernel
theorem dX4_authenticator_12 : decode cX4_authenticator 12 = .ok (.iload_n 1, 1) := by decide +kernel
theorem dX4_authenticator_13 : decode cX4_authenticator 13 = .ok (.bipush 45, 2) := by decide +kernel
theorem dX4_authenticator_15 : decode cX4_authenticator 15 = .ok (.invokevirtual 40, 3) := by decide +kernel
theorem dX4_authenticator_18 : decode cX4_authenticator 18 = .ok (.iconst 1, 1) := by decide +kernel
theorem dX4_authenticator_19 : decode cX4_authenticator 19 = .ok (.isub, 1) := by decide +kernel
theorem dX4_authenticator_20 : decode cX4_authenticator 20 = .ok (.invokestatic 24, 3) := by decide +kernel
theorem dX4_authenticator_23 : decode cX4_authenticator 23 = .ok (.ifCond .ne 7, 3) := by decide +kernel
theorem dX4_authenticator_26 : decode cX4_authenticator 26 = .ok (.iconst 1, 1) := by decide +kernel
theorem dX4_authenticator_27 : decode cX4_authenticator 27 = .ok (.goto 17, 3) := by decide +kernel
theorem dX4_authenticator_30 : decode cX4_authenticator 30 = .ok (.iload_n 3, 1) := by decide +kernel
theorem dX4_authenticator_31 : decode cX4_authenticator 31 = .ok (.iconst 0, 1) := by decide +kernel
theorem dX4_authenticator_32 : decode cX4_authenticator 32 = .ok (.iconst 2, 1) := by decide +kernel
theorem dX4_authenticator_33 : decode cX4_authenticator 33 = .ok (.invokestatic 24, 3) := by decide +kernel
theorem dX4_authenticator_36 : decode cX4_authenticator 36 = .ok (.ifCond .eq 7, 3) := by decide +kernel
theorem dX4_authenticator_39 : decode cX4_authenticator 39 = .ok (.iconst 0, 1) := by decide +kernel
theorem dX4_authenticator_40 : decode cX4_authenticator 40 = .ok (.goto 4, 3) := by decide +kernel
theorem dX4_authenticator_43 : decode cX4_authenticator 43 = .ok (.iconst 2, 1) := by decide +kernel
theorem dX4_authenticator_44 : decode cX4_authenticator 44 = .ok (.invokevirtual 35, 3) := by decide +kernel
theorem dX4_authenticator_47 : decode cX4_authenticator 47 = .ok (.ifCond .eq 5, 3) := by decide +kernel
theorem dX4_authenticator_50 : decode cX4_authenticator 50 = .ok (.iconst 0, 1) := by decide +kernel
theorem dX4_authenticator_51 : decode cX4_authenticator 51 = .ok (.ireturn, 1) := by decide +kernel
theorem dX4_authenticator_52 : decode cX4_authenticator 52 = .ok (.aload_n 0, 1) := by decide +kernel
theorem dX4_authenticator_53 : decode cX4_authenticator 53 = .ok (.iload_n 1, 1) := by decide +kernel
theorem dX4_authenticator_54 : decode cX4_authenticator 54 = .ok (.bipush 46, 2) := by decide +kernel
theorem dX4_authenticator_56 : decode cX4_authenticator 56 = .ok (.iconst 3, 1) := by decide +kernel
theorem dX4_authenticator_57 : decode cX4_authenticator 57 = .ok (.iload_n 2, 1) := by decide +kernel
theorem dX4_authenticator_58 : decode cX4_authenticator 58 = .ok (.imul, 1) := by decide +kernel
theorem dX4_authenticator_59 : decode cX4_authenticator 59 = .ok (.iadd, 1) := by decide +kernel
theorem dX4_authenticator_60 : decode cX4_authenticator 60 = .ok (.iload_n 3, 1) := by decide +kernel
theorem dX4_authenticator_61 : decode cX4_authenticator 61 = .ok (.iadd, 1) := by decide +kernel
theorem dX4_authenticator_62 : decode cX4_authenticator 62 = .ok (.invokevirtual 40, 3) := by decide +kernel
theorem dX4_authenticator_65 : decode cX4_authenticator 65 = .ok (.ireturn, 1) := by decide +kernel
theorem dX4_setWitnesses_0 : decode cX4_setWitnesses 0 = .ok (.aload_n 0, 1) := by decide +kernel
theorem dX4_setWitnesses_1 : decode cX4_setWitnesses 1 = .ok (.aload_n 0, 1) := by decide +kernel
theorem dX4_setWitnesses_2 : decode cX4_setWitnesses 2 = .ok (.iload_n 1, 1) := by decide +kernel
theorem dX4_setWitnesses_3 : decode cX4_setWitnesses 3 = .ok (.invokevirtual 104, 3) := by decide +kernel
theorem dX4_setWitnesses_6 : decode cX4_setWitnesses 6 = .ok (.ifCond .ne 7, 3) := by decide +kernel
theorem dX4_setWitnesses_9 : decode cX4_setWitnesses 9 = .ok (.iconst 1, 1) := by decide +kernel
theorem dX4_setWitnesses_10 : decode cX4_setWitnesses 10 = .ok (.goto 32, 3) := by decide +kernel
theorem dX4_setWitnesses_13 : decode cX4_setWitnesses 13 = .ok (.iload_n 2, 1) := by decide +kernel
theorem dX4_setWitnesses_14 : decode cX4_setWitnesses 14 = .ok (.iconst 0, 1) := by decide +kernel
theorem dX4_setWitnesses_15 : decode cX4_setWitnesses 15 = .ok (.iconst 1, 1) := by decide +kernel
theorem dX4_setWitnesses_16 : decode cX4_setWitnesses 16 = .ok (.aload_n 0, 1) := by decide +kernel
theorem dX4_setWitnesses_17 : decode cX4_setWitnesses 17 = .ok (.invokevirtual 66, 3) := by decide +kernel
theorem dX4_setWitnesses_20 : decode cX4_setWitnesses 20 = .ok (.ishl, 1) := by decide +kernel
theorem dX4_setWitnesses_21 : decode cX4_setWitnesses 21 = .ok (.iconst 1, 1) := by decide +kernel
theorem dX4_setWitnesses_22 : decode cX4_setWitnesses 22 = .ok (.isub, 1) := by decide +kernel
theorem dX4_setWitnesses_23 : decode cX4_setWitnesses 23 = .ok (.invokestatic 24, 3) := by decide +kernel
theorem dX4_setWitnesses_26 : decode cX4_setWitnesses 26 = .ok (.ifCond .eq 15, 3) := by decide +kernel
theorem dX4_setWitnesses_29 : decode cX4_setWitnesses 29 = .ok (.iload_n 2, 1) := by decide +kernel
theorem dX4_setWitnesses_30 : decode cX4_setWitnesses 30 = .ok (.iload_n 1, 1) := by decide +kernel
theorem dX4_setWitnesses_31 : decode cX4_setWitnesses 31 = .ok (.ishr, 1) := by decide +kernel
theorem dX4_setWitnesses_32 : decode cX4_setWitnesses 32 = .ok (.iconst 1, 1) := by decide +kernel
theorem dX4_setWitnesses_33 : decode cX4_setWitnesses 33 = .ok (.iand, 1) := by decide +kernel
theorem dX4_setWitnesses_34 : decode cX4_setWitnesses 34 = .ok (.ifCond .ne 7, 3) := by decide +kernel
theorem dX4_setWitnesses_37 : decode cX4_setWitnesses 37 = .ok (.iconst 0, 1) := by decide +kernel
theorem dX4_setWitnesses_38 : decode cX4_setWitnesses 38 = .ok (.goto 4, 3) := by decide +kernel
theorem dX4_setWitnesses_41 : decode cX4_setWitnesses 41 = .ok (.iconst 2, 1) := by decide +kernel
theorem dX4_setWitnesses_42 : decode cX4_setWitnesses 42 = .ok (.invokevirtual 35, 3) := by decide +kernel
theorem dX4_setWitnesses_45 : decode cX4_setWitnesses 45 = .ok (.ifCond .eq 5, 3) := by decide +kernel
theorem dX4_setWitnesses_48 : decode cX4_setWitnesses 48 = .ok (.iconst 0, 1) := by decide +kernel
theorem dX4_setWitnesses_49 : decode cX4_setWitnesses 49 = .ok (.ireturn, 1) := by decide +kernel
theorem dX4_setWitnesses_50 : decode cX4_setWitnesses 50 = .ok (.aload_n 0, 1) := by decide +kernel
theorem dX4_setWitnesses_51 : decode cX4_setWitnesses 51 = .ok (.invokevirtual 101, 3) := by decide +kernel
theorem dX4_setWitnesses_54 : decode cX4_setWitnesses 54 = .ok (.aload_n 0, 1) := by decide +kernel
theorem dX4_setWitnesses_55 : decode cX4_setWitnesses 55 = .ok (.iload_n 1, 1) := by decide +kernel
theorem dX4_setWitnesses_56 : decode cX4_setWitnesses 56 = .ok (.iconst 3, 1) := by decide +kernel
theorem dX4_setWitnesses_57 : decode cX4_setWitnesses 57 = .ok (.invokevirtual 40, 3) := by decide +kernel
theorem dX4_setWitnesses_60 : decode cX4_setWitnesses 60 = .ok (.istore_n 3, 1) := by decide +kernel
theorem dX4_setWitnesses_61 : decode cX4_setWitnesses 61 = .ok (.aload_n 0, 1) := by decide +kernel
theorem dX4_setWitnesses_62 : decode cX4_setWitnesses 62 = .ok (.getfield 7, 3) := by decide +kernel
theorem dX4_setWitnesses_65 : decode cX4_setWitnesses 65 = .ok (.iload_n 1, 1) := by decide +kernel
theorem dX4_setWitnesses_66 : decode cX4_setWitnesses 66 = .ok (.iconst 3, 1) := by decide +kernel
theorem dX4_setWitnesses_67 : decode cX4_setWitnesses 67 = .ok (.invokestatic 28, 3) := by decide +kernel
theorem dX4_setWitnesses_70 : decode cX4_setWitnesses 70 = .ok (.iload_n 2, 1) := by decide +kernel
theorem dX4_setWitnesses_71 : decode cX4_setWitnesses 71 = .ok (.iastore, 1) := by decide +kernel
theorem dX4_setWitnesses_72 : decode cX4_setWitnesses 72 = .ok (.iload_n 3, 1) := by decide +kernel
theorem dX4_setWitnesses_73 : decode cX4_setWitnesses 73 = .ok (.ireturn, 1) := by decide +kernel
theorem dX4_isWitness_0 : decode cX4_isWitness 0 = .ok (.aload_n 0, 1) := by decide +kernel
theorem dX4_isWitness_1 : decode cX4_isWitness 1 = .ok (.iload_n 2, 1) := by decide +kernel
theorem dX4_isWitness_2 : decode cX4_isWitness 2 = .ok (.iconst 3, 1) := by decide +kernel
theorem dX4_isWitness_3 : decode cX4_isWitness 3 = .ok (.invokevirtual 40, 3) := by decide +kernel
theorem dX4_isWitness_6 : decode cX4_isWitness 6 = .ok (.iload_n 1, 1) := by decide +kernel
theorem dX4_isWitness_7 : decode cX4_isWitness 7 = .ok (.ishr, 1) := by decide +kernel
theorem dX4_isWitness_8 : decode cX4_isWitness 8 = .ok (.iconst 1, 1) := by decide +kernel
theorem dX4_isWitness_9 : decode cX4_isWitness 9 = .ok (.iand, 1) := by decide +kernel
theorem dX4_isWitness_10 : decode cX4_isWitness 10 = .ok (.iconst 1, 1) := by decide +kernel
theorem dX4_isWitness_11 : decode cX4_isWitness 11 = .ok (.if_icmp .ne 7, 3) := by decide +kernel
theorem dX4_isWitness_14 : decode cX4_isWitness 14 = .ok (.iconst 1, 1) := by decide +kernel
theorem dX4_isWitness_15 : decode cX4_isWitness 15 = .ok (.goto 4, 3) := by decide +kernel
theorem dX4_isWitness_18 : decode cX4_isWitness 18 = .ok (.iconst 0, 1) := by decide +kernel
theorem dX4_isWitness_19 : decode cX4_isWitness 19 = .ok (.ireturn, 1) := by decide +kernel
theorem dX4_mismatch_0 : decode cX4_mismatch 0 = .ok (.iconst 0, 1) := by decide +kernel
theorem dX4_mismatch_1 : decode cX4_mismatch 1 = .ok (.istore_n 2, 1) := by decide +kernel
theorem dX4_mismatch_2 : decode cX4_mismatch 2 = .ok (.iload_n 2, 1) := by decide +kernel
theorem dX4_mismatch_3 : decode cX4_mismatch 3 = .ok (.aload_n 0, 1) := by decide +kernel
theorem dX4_mismatch_4 : decode cX4_mismatch 4 = .ok (.invokevirtual 66, 3) := by decide +kernel
theorem dX4_mismatch_7 : decode cX4_mismatch 7 = .ok (.if_icmp .ge 118, 3) := by decide +kernel
theorem dX4_mismatch_10 : decode cX4_mismatch 10 = .ok (.iconst 0, 1) := by decide +kernel
theorem dX4_mismatch_11 : decode cX4_mismatch 11 = .ok (.istore_n 3, 1) := by decide +kernel
theorem dX4_mismatch_12 : decode cX4_mismatch 12 = .ok (.iload_n 3, 1) := by decide +kernel
theorem dX4_mismatch_13 : decode cX4_mismatch 13 = .ok (.aload_n 0, 1) := by decide +kernel
theorem dX4_mismatch_14 : decode cX4_mismatch 14 = .ok (.iload_n 2, 1) := by decide +kernel
theorem dX4_mismatch_15 : decode cX4_mismatch 15 = .ok (.bipush 45, 2) := by decide +kernel
theorem dX4_mismatch_17 : decode cX4_mismatch 17 = .ok (.invokevirtual 40, 3) := by decide +kernel
theorem dX4_mismatch_20 : decode cX4_mismatch 20 = .ok (.if_icmp .ge 99, 3) := by decide +kernel
theorem dX4_mismatch_23 : decode cX4_mismatch 23 = .ok (.aload_n 0, 1) := by decide +kernel
theorem dX4_mismatch_24 : decode cX4_mismatch 24 = .ok (.iload_n 2, 1) := by decide +kernel
theorem dX4_mismatch_25 : decode cX4_mismatch 25 = .ok (.iconst 1, 1) := by decide +kernel
theorem dX4_mismatch_26 : decode cX4_mismatch 26 = .ok (.invokevirtual 40, 3) := by decide +kernel
theorem dX4_mismatch_29 : decode cX4_mismatch 29 = .ok (.ifCond .ne 90, 3) := by decide +kernel
theorem dX4_mismatch_32 : decode cX4_mismatch 32 = .ok (.aload_n 0, 1) := by decide +kernel
theorem dX4_mismatch_33 : decode cX4_mismatch 33 = .ok (.iload_n 2, 1) := by decide +kernel
theorem dX4_mismatch_34 : decode cX4_mismatch 34 = .ok (.bipush 46, 2) := by decide +kernel
theorem dX4_mismatch_36 : decode cX4_mismatch 36 = .ok (.iconst 3, 1) := by decide +kernel
theorem dX4_mismatch_37 : decode cX4_mismatch 37 = .ok (.iload_n 3, 1) := by decide +kernel
theorem dX4_mismatch_38 : decode cX4_mismatch 38 = .ok (.imul, 1) := by decide +kernel
theorem dX4_mismatch_39 : decode cX4_mismatch 39 = .ok (.iadd, 1) := by decide +kernel
theorem dX4_mismatch_40 : decode cX4_mismatch 40 = .ok (.iconst 1, 1) := by decide +kernel
theorem dX4_mismatch_41 : decode cX4_mismatch 41 = .ok (.iadd, 1) := by decide +kernel
theorem dX4_mismatch_42 : decode cX4_mismatch 42 = .ok (.invokevirtual 40, 3) := by decide +kernel
theorem dX4_mismatch_45 : decode cX4_mismatch 45 = .ok (.istore 4, 2) := by decide +kernel
theorem dX4_mismatch_47 : decode cX4_mismatch 47 = .ok (.aload_n 0, 1) := by decide +kernel
theorem dX4_mismatch_48 : decode cX4_mismatch 48 = .ok (.iload_n 2, 1) := by decide +kernel
theorem dX4_mismatch_49 : decode cX4_mismatch 49 = .ok (.bipush 46, 2) := by decide +kernel
theorem dX4_mismatch_51 : decode cX4_mismatch 51 = .ok (.iconst 3, 1) := by decide +kernel
theorem dX4_mismatch_52 : decode cX4_mismatch 52 = .ok (.iload_n 3, 1) := by decide +kernel
theorem dX4_mismatch_53 : decode cX4_mismatch 53 = .ok (.imul, 1) := by decide +kernel
theorem dX4_mismatch_54 : decode cX4_mismatch 54 = .ok (.iadd, 1) := by decide +kernel
theorem dX4_mismatch_55 : decode cX4_mismatch 55 = .ok (.invokevirtual 40, 3) := by decide +kernel
theorem dX4_mismatch_58 : decode cX4_mismatch 58 = .ok (.iload_n 1, 1) := by decide +kernel
theorem dX4_mismatch_59 : decode cX4_mismatch 59 = .ok (.if_icmp .ne 7, 3) := by decide +kernel
theorem dX4_mismatch_62 : decode cX4_mismatch 62 = .ok (.iconst 1, 1) := by decide +kernel
theorem dX4_mismatch_63 : decode cX4_mismatch 63 = .ok (.goto 4, 3) := by decide +kernel
theorem dX4_mismatch_66 : decode cX4_mismatch 66 = .ok (.iconst 0, 1) := by decide +kernel
theorem dX4_mismatch_67 : decode cX4_mismatch 67 = .ok (.istore 5, 2) := by decide +kernel
theorem dX4_mismatch_69 : decode cX4_mismatch 69 = .ok (.iload 5, 2) := by decide +kernel
theorem dX4_mismatch_71 : decode cX4_mismatch 71 = .ok (.ifCond .eq 42, 3) := by decide +kernel
theorem dX4_mismatch_74 : decode cX4_mismatch 74 = .ok (.iload 4, 2) := by decide +kernel
theorem dX4_mismatch_76 : decode cX4_mismatch 76 = .ok (.aload_n 0, 1) := by decide +kernel
theorem dX4_mismatch_77 : decode cX4_mismatch 77 = .ok (.iload_n 1, 1) := by decide +kernel
theorem dX4_mismatch_78 : decode cX4_mismatch 78 = .ok (.iconst 4, 1) := by decide +kernel
theorem dX4_mismatch_79 : decode cX4_mismatch 79 = .ok (.invokevirtual 40, 3) := by decide +kernel
theorem dX4_mismatch_82 : decode cX4_mismatch 82 = .ok (.if_icmp .ge 28, 3) := by decide +kernel
theorem dX4_mismatch_85 : decode cX4_mismatch 85 = .ok (.aload_n 0, 1) := by decide +kernel
theorem dX4_mismatch_86 : decode cX4_mismatch 86 = .ok (.iload_n 1, 1) := by decide +kernel
theorem dX4_mismatch_87 : decode cX4_mismatch 87 = .ok (.iload 4, 2) := by decide +kernel
theorem dX4_mismatch_89 : decode cX4_mismatch 89 = .ok (.iconst 1, 1) := by decide +kernel
theorem dX4_mismatch_90 : decode cX4_mismatch 90 = .ok (.iadd, 1) := by decide +kernel
theorem dX4_mismatch_91 : decode cX4_mismatch 91 = .ok (.invokevirtual 84, 3) := by decide +kernel
theorem dX4_mismatch_94 : decode cX4_mismatch 94 = .ok (.aload_n 0, 1) := by decide +kernel
theorem dX4_mismatch_95 : decode cX4_mismatch 95 = .ok (.iload_n 2, 1) := by decide +kernel
theorem dX4_mismatch_96 : decode cX4_mismatch 96 = .ok (.bipush 46, 2) := by decide +kernel
theorem dX4_mismatch_98 : decode cX4_mismatch 98 = .ok (.iconst 3, 1) := by decide +kernel
theorem dX4_mismatch_99 : decode cX4_mismatch 99 = .ok (.iload_n 3, 1) := by decide +kernel
theorem dX4_mismatch_100 : decode cX4_mismatch 100 = .ok (.imul, 1) := by decide +kernel
theorem dX4_mismatch_101 : decode cX4_mismatch 101 = .ok (.iadd, 1) := by decide +kernel
theorem dX4_mismatch_102 : decode cX4_mismatch 102 = .ok (.iconst 2, 1) := by decide +kernel
theorem dX4_mismatch_103 : decode cX4_mismatch 103 = .ok (.iadd, 1) := by decide +kernel
theorem dX4_mismatch_104 : decode cX4_mismatch 104 = .ok (.invokevirtual 40, 3) := by decide +kernel
theorem dX4_mismatch_107 : decode cX4_mismatch 107 = .ok (.if_icmp .eq 6, 3) := by decide +kernel
theorem dX4_mismatch_110 : decode cX4_mismatch 110 = .ok (.iload 4, 2) := by decide +kernel
theorem dX4_mismatch_112 : decode cX4_mismatch 112 = .ok (.ireturn, 1) := by decide +kernel
theorem dX4_mismatch_113 : decode cX4_mismatch 113 = .ok (.iinc 3 1, 3) := by decide +kernel
theorem dX4_mismatch_116 : decode cX4_mismatch 116 = .ok (.goto (-104), 3) := by decide +kernel
theorem dX4_mismatch_119 : decode cX4_mismatch 119 = .ok (.iinc 2 1, 3) := by decide +kernel
theorem dX4_mismatch_122 : decode cX4_mismatch 122 = .ok (.goto (-120), 3) := by decide +kernel
theorem dX4_mismatch_125 : decode cX4_mismatch 125 = .ok (.iconst (-1), 1) := by decide +kernel
theorem dX4_mismatch_126 : decode cX4_mismatch 126 = .ok (.ireturn, 1) := by decide +kernel
theorem dX4_replayed_0 : decode cX4_replayed 0 = .ok (.iload_n 1, 1) := by decide +kernel
theorem dX4_replayed_1 : decode cX4_replayed 1 = .ok (.istore_n 2, 1) := by decide +kernel
theorem dX4_replayed_2 : decode cX4_replayed 2 = .ok (.iconst (-1), 1) := by decide +kernel
theorem dX4_replayed_3 : decode cX4_replayed 3 = .ok (.istore_n 3, 1) := by decide +kernel
theorem dX4_replayed_4 : decode cX4_replayed 4 = .ok (.iconst 0, 1) := by decide +kernel
theorem dX4_replayed_5 : decode cX4_replayed 5 = .ok (.istore 4, 2) := by decide +kernel
theorem dX4_replayed_7 : decode cX4_replayed 7 = .ok (.iload 4, 2) := by decide +kernel
theorem dX4_replayed_9 : decode cX4_replayed 9 = .ok (.aload_n 0, 1) := by decide +kernel
theorem dX4_replayed_10 : decode cX4_replayed 10 = .ok (.iload_n 1, 1) := by decide +kernel
theorem dX4_replayed_11 : decode cX4_replayed 11 = .ok (.iconst 4, 1) := by decide +kernel
theorem dX4_replayed_12 : decode cX4_replayed 12 = .ok (.invokevirtual 40, 3) := by decide +kernel
theorem dX4_replayed_15 : decode cX4_replayed 15 = .ok (.if_icmp .ge 87, 3) := by decide +kernel
theorem dX4_replayed_18 : decode cX4_replayed 18 = .ok (.aload_n 0, 1) := by decide +kernel
theorem dX4_replayed_19 : decode cX4_replayed 19 = .ok (.iload_n 1, 1) := by decide +kernel
theorem dX4_replayed_20 : decode cX4_replayed 20 = .ok (.iload 4, 2) := by decide +kernel
theorem dX4_replayed_22 : decode cX4_replayed 22 = .ok (.invokevirtual 43, 3) := by decide +kernel
theorem dX4_replayed_25 : decode cX4_replayed 25 = .ok (.istore 5, 2) := by decide +kernel
theorem dX4_replayed_27 : decode cX4_replayed 27 = .ok (.iload_n 3, 1) := by decide +kernel
theorem dX4_replayed_28 : decode cX4_replayed 28 = .ok (.iconst (-1), 1) := by decide +kernel
theorem dX4_replayed_29 : decode cX4_replayed 29 = .ok (.if_icmp .ne 12, 3) := by decide +kernel
theorem dX4_replayed_32 : decode cX4_replayed 32 = .ok (.iload 5, 2) := by decide +kernel
theorem dX4_replayed_34 : decode cX4_replayed 34 = .ok (.invokestatic 50, 3) := by decide +kernel
theorem dX4_replayed_37 : decode cX4_replayed 37 = .ok (.iconst 2, 1) := by decide +kernel
theorem dX4_replayed_38 : decode cX4_replayed 38 = .ok (.if_icmp .ne 17, 3) := by decide +kernel
theorem dX4_replayed_41 : decode cX4_replayed 41 = .ok (.iload 5, 2) := by decide +kernel
theorem dX4_replayed_43 : decode cX4_replayed 43 = .ok (.iload_n 3, 1) := by decide +kernel
theorem dX4_replayed_44 : decode cX4_replayed 44 = .ok (.if_icmp .eq 6, 3) := by decide +kernel
theorem dX4_replayed_47 : decode cX4_replayed 47 = .ok (.iload 4, 2) := by decide +kernel
theorem dX4_replayed_49 : decode cX4_replayed 49 = .ok (.ireturn, 1) := by decide +kernel
theorem dX4_replayed_50 : decode cX4_replayed 50 = .ok (.iconst (-1), 1) := by decide +kernel
theorem dX4_replayed_51 : decode cX4_replayed 51 = .ok (.istore_n 3, 1) := by decide +kernel
theorem dX4_replayed_52 : decode cX4_replayed 52 = .ok (.goto 44, 3) := by decide +kernel
theorem dX4_replayed_55 : decode cX4_replayed 55 = .ok (.iload_n 2, 1) := by decide +kernel
theorem dX4_replayed_56 : decode cX4_replayed 56 = .ok (.iload 5, 2) := by decide +kernel
theorem dX4_replayed_58 : decode cX4_replayed 58 = .ok (.invokestatic 61, 3) := by decide +kernel
theorem dX4_replayed_61 : decode cX4_replayed 61 = .ok (.iload 5, 2) := by decide +kernel
theorem dX4_replayed_63 : decode cX4_replayed 63 = .ok (.invokestatic 56, 3) := by decide +kernel
theorem dX4_replayed_66 : decode cX4_replayed 66 = .ok (.invokestatic 78, 3) := by decide +kernel
theorem dX4_replayed_69 : decode cX4_replayed 69 = .ok (.istore_n 2, 1) := by decide +kernel
theorem dX4_replayed_70 : decode cX4_replayed 70 = .ok (.iload_n 2, 1) := by decide +kernel
theorem dX4_replayed_71 : decode cX4_replayed 71 = .ok (.iconst 3, 1) := by decide +kernel
theorem dX4_replayed_72 : decode cX4_replayed 72 = .ok (.irem, 1) := by decide +kernel
theorem dX4_replayed_73 : decode cX4_replayed 73 = .ok (.ifCond .ne 21, 3) := by decide +kernel
theorem dX4_replayed_76 : decode cX4_replayed 76 = .ok (.iconst 2, 1) := by decide +kernel
theorem dX4_replayed_77 : decode cX4_replayed 77 = .ok (.aload_n 0, 1) := by decide +kernel
theorem dX4_replayed_78 : decode cX4_replayed 78 = .ok (.iload_n 1, 1) := by decide +kernel
theorem dX4_replayed_79 : decode cX4_replayed 79 = .ok (.iload_n 2, 1) := by decide +kernel
theorem dX4_replayed_80 : decode cX4_replayed 80 = .ok (.invokevirtual 81, 3) := by decide +kernel
theorem dX4_replayed_83 : decode cX4_replayed 83 = .ok (.iload_n 2, 1) := by decide +kernel
theorem dX4_replayed_84 : decode cX4_replayed 84 = .ok (.sipush 1000, 3) := by decide +kernel
theorem dX4_replayed_87 : decode cX4_replayed 87 = .ok (.irem, 1) := by decide +kernel
theorem dX4_replayed_88 : decode cX4_replayed 88 = .ok (.invokestatic 70, 3) := by decide +kernel
theorem dX4_replayed_91 : decode cX4_replayed 91 = .ok (.goto 4, 3) := by decide +kernel
theorem dX4_replayed_94 : decode cX4_replayed 94 = .ok (.iconst (-1), 1) := by decide +kernel
theorem dX4_replayed_95 : decode cX4_replayed 95 = .ok (.istore_n 3, 1) := by decide +kernel
theorem dX4_replayed_96 : decode cX4_replayed 96 = .ok (.iinc 4 1, 3) := by decide +kernel
theorem dX4_replayed_99 : decode cX4_replayed 99 = .ok (.goto (-92), 3) := by decide +kernel
theorem dX4_replayed_102 : decode cX4_replayed 102 = .ok (.iload_n 3, 1) := by decide +kernel
theorem dX4_replayed_103 : decode cX4_replayed 103 = .ok (.iconst (-1), 1) := by decide +kernel
theorem dX4_replayed_104 : decode cX4_replayed 104 = .ok (.if_icmp .ne 7, 3) := by decide +kernel
theorem dX4_replayed_107 : decode cX4_replayed 107 = .ok (.iconst (-1), 1) := by decide +kernel
theorem dX4_replayed_108 : decode cX4_replayed 108 = .ok (.goto 9, 3) := by decide +kernel
theorem dX4_replayed_111 : decode cX4_replayed 111 = .ok (.aload_n 0, 1) := by decide +kernel
theorem dX4_replayed_112 : decode cX4_replayed 112 = .ok (.iload_n 1, 1) := by decide +kernel
theorem dX4_replayed_113 : decode cX4_replayed 113 = .ok (.iconst 4, 1) := by decide +kernel
theorem dX4_replayed_114 : decode cX4_replayed 114 = .ok (.invokevirtual 40, 3) := by decide +kernel
theorem dX4_replayed_117 : decode cX4_replayed 117 = .ok (.ireturn, 1) := by decide +kernel
theorem dX4_proves_0 : decode cX4_proves 0 = .ok (.sipush 2801, 3) := by decide +kernel
theorem dX4_proves_3 : decode cX4_proves 3 = .ok (.iconst 4, 1) := by decide +kernel
theorem dX4_proves_4 : decode cX4_proves 4 = .ok (.aload_n 0, 1) := by decide +kernel
theorem dX4_proves_5 : decode cX4_proves 5 = .ok (.getfield 7, 3) := by decide +kernel
theorem dX4_proves_8 : decode cX4_proves 8 = .ok (.sipush 2800, 3) := by decide +kernel
theorem dX4_proves_11 : decode cX4_proves 11 = .ok (.iaload, 1) := by decide +kernel
theorem dX4_proves_12 : decode cX4_proves 12 = .ok (.imul, 1) := by decide +kernel
theorem dX4_proves_13 : decode cX4_proves 13 = .ok (.iadd, 1) := by decide +kernel
theorem dX4_proves_14 : decode cX4_proves 14 = .ok (.istore 5, 2) := by decide +kernel
theorem dX4_proves_16 : decode cX4_proves 16 = .ok (.aload_n 0, 1) := by decide +kernel
theorem dX4_proves_17 : decode cX4_proves 17 = .ok (.getfield 7, 3) := by decide +kernel
theorem dX4_proves_20 : decode cX4_proves 20 = .ok (.iload 5, 2) := by decide +kernel
theorem dX4_proves_22 : decode cX4_proves 22 = .ok (.iload_n 1, 1) := by decide +kernel
theorem dX4_proves_23 : decode cX4_proves 23 = .ok (.iastore, 1) := by decide +kernel
theorem dX4_proves_24 : decode cX4_proves 24 = .ok (.aload_n 0, 1) := by decide +kernel
theorem dX4_proves_25 : decode cX4_proves 25 = .ok (.getfield 7, 3) := by decide +kernel
theorem dX4_proves_28 : decode cX4_proves 28 = .ok (.iload 5, 2) := by decide +kernel
theorem dX4_proves_30 : decode cX4_proves 30 = .ok (.iconst 1, 1) := by decide +kernel
theorem dX4_proves_31 : decode cX4_proves 31 = .ok (.iadd, 1) := by decide +kernel
theorem dX4_proves_32 : decode cX4_proves 32 = .ok (.iload_n 2, 1) := by decide +kernel
theorem dX4_proves_33 : decode cX4_proves 33 = .ok (.iastore, 1) := by decide +kernel
theorem dX4_proves_34 : decode cX4_proves 34 = .ok (.aload_n 0, 1) := by decide +kernel
theorem dX4_proves_35 : decode cX4_proves 35 = .ok (.getfield 7, 3) := by decide +kernel
theorem dX4_proves_38 : decode cX4_proves 38 = .ok (.iload 5, 2) := by decide +kernel
theorem dX4_proves_40 : decode cX4_proves 40 = .ok (.iconst 2, 1) := by decide +kernel
theorem dX4_proves_41 : decode cX4_proves 41 = .ok (.iadd, 1) := by decide +kernel
theorem dX4_proves_42 : decode cX4_proves 42 = .ok (.iload_n 3, 1) := by decide +kernel
theorem dX4_proves_43 : decode cX4_proves 43 = .ok (.iastore, 1) := by decide +kernel
theorem dX4_proves_44 : decode cX4_proves 44 = .ok (.aload_n 0, 1) := by decide +kernel
theorem dX4_proves_45 : decode cX4_proves 45 = .ok (.getfield 7, 3) := by decide +kernel
theorem dX4_proves_48 : decode cX4_proves 48 = .ok (.iload 5, 2) := by decide +kernel
theorem dX4_proves_50 : decode cX4_proves 50 = .ok (.iconst 3, 1) := by decide +kernel
theorem dX4_proves_51 : decode cX4_proves 51 = .ok (.iadd, 1) := by decide +kernel
theorem dX4_proves_52 : decode cX4_proves 52 = .ok (.iload 4, 2) := by decide +kernel
theorem dX4_proves_54 : decode cX4_proves 54 = .ok (.iastore, 1) := by decide +kernel
theorem dX4_proves_55 : decode cX4_proves 55 = .ok (.aload_n 0, 1) := by decide +kernel
theorem dX4_proves_56 : decode cX4_proves 56 = .ok (.getfield 7, 3) := by decide +kernel
theorem dX4_proves_59 : decode cX4_proves 59 = .ok (.sipush 2800, 3) := by decide +kernel
theorem dX4_proves_62 : decode cX4_proves 62 = .ok (.dup2, 1) := by decide +kernel
theorem dX4_proves_63 : decode cX4_proves 63 = .ok (.iaload, 1) := by decide +kernel
theorem dX4_proves_64 : decode cX4_proves 64 = .ok (.iconst 1, 1) := by decide +kernel
theorem dX4_proves_65 : decode cX4_proves 65 = .ok (.iadd, 1) := by decide +kernel
theorem dX4_proves_66 : decode cX4_proves 66 = .ok (.iastore, 1) := by decide +kernel
theorem dX4_proves_67 : decode cX4_proves 67 = .ok (.return_, 1) := by decide +kernel
theorem dX4_exposes_0 : decode cX4_exposes 0 = .ok (.aload_n 0, 1) := by decide +kernel
theorem dX4_exposes_1 : decode cX4_exposes 1 = .ok (.iload_n 1, 1) := by decide +kernel
theorem dX4_exposes_2 : decode cX4_exposes 2 = .ok (.iload_n 2, 1) := by decide +kernel
theorem dX4_exposes_3 : decode cX4_exposes 3 = .ok (.iload_n 3, 1) := by decide +kernel
theorem dX4_exposes_4 : decode cX4_exposes 4 = .ok (.iload 4, 2) := by decide +kernel
theorem dX4_exposes_6 : decode cX4_exposes 6 = .ok (.invokevirtual 118, 3) := by decide +kernel
theorem dX4_exposes_9 : decode cX4_exposes 9 = .ok (.iconst 2, 1) := by decide +kernel
theorem dX4_exposes_10 : decode cX4_exposes 10 = .ok (.ireturn, 1) := by decide +kernel
theorem dX4_judged_0 : decode cX4_judged 0 = .ok (.aload_n 0, 1) := by decide +kernel
theorem dX4_judged_1 : decode cX4_judged 1 = .ok (.iload_n 2, 1) := by decide +kernel
theorem dX4_judged_2 : decode cX4_judged 2 = .ok (.sipush 427, 3) := by decide +kernel
theorem dX4_judged_5 : decode cX4_judged 5 = .ok (.iload_n 1, 1) := by decide +kernel
theorem dX4_judged_6 : decode cX4_judged 6 = .ok (.iadd, 1) := by decide +kernel
theorem dX4_judged_7 : decode cX4_judged 7 = .ok (.invokevirtual 40, 3) := by decide +kernel
theorem dX4_judged_10 : decode cX4_judged 10 = .ok (.iconst 2, 1) := by decide +kernel
theorem dX4_judged_11 : decode cX4_judged 11 = .ok (.if_icmp .ne 5, 3) := by decide +kernel
theorem dX4_judged_14 : decode cX4_judged 14 = .ok (.iconst 2, 1) := by decide +kernel
theorem dX4_judged_15 : decode cX4_judged 15 = .ok (.ireturn, 1) := by decide +kernel
theorem dX4_judged_16 : decode cX4_judged 16 = .ok (.aload_n 0, 1) := by decide +kernel
theorem dX4_judged_17 : decode cX4_judged 17 = .ok (.iload_n 2, 1) := by decide +kernel
theorem dX4_judged_18 : decode cX4_judged 18 = .ok (.iconst 1, 1) := by decide +kernel
theorem dX4_judged_19 : decode cX4_judged 19 = .ok (.invokevirtual 40, 3) := by decide +kernel
theorem dX4_judged_22 : decode cX4_judged 22 = .ok (.iconst 1, 1) := by decide +kernel
theorem dX4_judged_23 : decode cX4_judged 23 = .ok (.if_icmp .ne 5, 3) := by decide +kernel
theorem dX4_judged_26 : decode cX4_judged 26 = .ok (.iconst 1, 1) := by decide +kernel
theorem dX4_judged_27 : decode cX4_judged 27 = .ok (.ireturn, 1) := by decide +kernel
theorem dX4_judged_28 : decode cX4_judged 28 = .ok (.aload_n 0, 1) := by decide +kernel
theorem dX4_judged_29 : decode cX4_judged 29 = .ok (.iload_n 2, 1) := by decide +kernel
theorem dX4_judged_30 : decode cX4_judged 30 = .ok (.invokevirtual 121, 3) := by decide +kernel
theorem dX4_judged_33 : decode cX4_judged 33 = .ok (.istore_n 3, 1) := by decide +kernel
theorem dX4_judged_34 : decode cX4_judged 34 = .ok (.iload_n 3, 1) := by decide +kernel
theorem dX4_judged_35 : decode cX4_judged 35 = .ok (.iconst (-1), 1) := by decide +kernel
theorem dX4_judged_36 : decode cX4_judged 36 = .ok (.if_icmp .eq 12, 3) := by decide +kernel
theorem dX4_judged_39 : decode cX4_judged 39 = .ok (.aload_n 0, 1) := by decide +kernel
theorem dX4_judged_40 : decode cX4_judged 40 = .ok (.iconst 0, 1) := by decide +kernel
theorem dX4_judged_41 : decode cX4_judged 41 = .ok (.iload_n 2, 1) := by decide +kernel
theorem dX4_judged_42 : decode cX4_judged 42 = .ok (.iload_n 1, 1) := by decide +kernel
theorem dX4_judged_43 : decode cX4_judged 43 = .ok (.iload_n 3, 1) := by decide +kernel
theorem dX4_judged_44 : decode cX4_judged 44 = .ok (.invokevirtual 124, 3) := by decide +kernel
theorem dX4_judged_47 : decode cX4_judged 47 = .ok (.ireturn, 1) := by decide +kernel
theorem dX4_judged_48 : decode cX4_judged 48 = .ok (.aload_n 0, 1) := by decide +kernel
theorem dX4_judged_49 : decode cX4_judged 49 = .ok (.iload_n 2, 1) := by decide +kernel
theorem dX4_judged_50 : decode cX4_judged 50 = .ok (.invokevirtual 128, 3) := by decide +kernel
theorem dX4_judged_53 : decode cX4_judged 53 = .ok (.istore_n 3, 1) := by decide +kernel
theorem dX4_judged_54 : decode cX4_judged 54 = .ok (.iload_n 3, 1) := by decide +kernel
theorem dX4_judged_55 : decode cX4_judged 55 = .ok (.iconst (-1), 1) := by decide +kernel
theorem dX4_judged_56 : decode cX4_judged 56 = .ok (.if_icmp .eq 12, 3) := by decide +kernel
theorem dX4_judged_59 : decode cX4_judged 59 = .ok (.aload_n 0, 1) := by decide +kernel
theorem dX4_judged_60 : decode cX4_judged 60 = .ok (.iconst 1, 1) := by decide +kernel
theorem dX4_judged_61 : decode cX4_judged 61 = .ok (.iload_n 2, 1) := by decide +kernel
theorem dX4_judged_62 : decode cX4_judged 62 = .ok (.iload_n 1, 1) := by decide +kernel
theorem dX4_judged_63 : decode cX4_judged 63 = .ok (.iload_n 3, 1) := by decide +kernel
theorem dX4_judged_64 : decode cX4_judged 64 = .ok (.invokevirtual 124, 3) := by decide +kernel
theorem dX4_judged_67 : decode cX4_judged 67 = .ok (.ireturn, 1) := by decide +kernel
theorem dX4_judged_68 : decode cX4_judged 68 = .ok (.aload_n 0, 1) := by decide +kernel
theorem dX4_judged_69 : decode cX4_judged 69 = .ok (.iload_n 2, 1) := by decide +kernel
theorem dX4_judged_70 : decode cX4_judged 70 = .ok (.sipush 226, 3) := by decide +kernel
theorem dX4_judged_73 : decode cX4_judged 73 = .ok (.invokevirtual 40, 3) := by decide +kernel
theorem dX4_judged_76 : decode cX4_judged 76 = .ok (.ifCond .le 7, 3) := by decide +kernel
theorem dX4_judged_79 : decode cX4_judged 79 = .ok (.iconst 1, 1) := by decide +kernel
theorem dX4_judged_80 : decode cX4_judged 80 = .ok (.goto 4, 3) := by decide +kernel
theorem dX4_judged_83 : decode cX4_judged 83 = .ok (.iconst 0, 1) := by decide +kernel
theorem dX4_judged_84 : decode cX4_judged 84 = .ok (.ireturn, 1) := by decide +kernel
theorem dX4_audit_0 : decode cX4_audit 0 = .ok (.aload_n 0, 1) := by decide +kernel
theorem dX4_audit_1 : decode cX4_audit 1 = .ok (.aload_n 0, 1) := by decide +kernel
theorem dX4_audit_2 : decode cX4_audit 2 = .ok (.iload_n 1, 1) := by decide +kernel
theorem dX4_audit_3 : decode cX4_audit 3 = .ok (.invokevirtual 104, 3) := by decide +kernel
theorem dX4_audit_6 : decode cX4_audit 6 = .ok (.ifCond .eq 11, 3) := by decide +kernel
theorem dX4_audit_9 : decode cX4_audit 9 = .ok (.aload_n 0, 1) := by decide +kernel
theorem dX4_audit_10 : decode cX4_audit 10 = .ok (.iload_n 2, 1) := by decide +kernel
theorem dX4_audit_11 : decode cX4_audit 11 = .ok (.invokevirtual 104, 3) := by decide +kernel
theorem dX4_audit_14 : decode cX4_audit 14 = .ok (.ifCond .ne 7, 3) := by decide +kernel
theorem dX4_audit_17 : decode cX4_audit 17 = .ok (.iconst 1, 1) := by decide +kernel
theorem dX4_audit_18 : decode cX4_audit 18 = .ok (.goto 17, 3) := by decide +kernel
theorem dX4_audit_21 : decode cX4_audit 21 = .ok (.aload_n 0, 1) := by decide +kernel
theorem dX4_audit_22 : decode cX4_audit 22 = .ok (.iload_n 1, 1) := by decide +kernel
theorem dX4_audit_23 : decode cX4_audit 23 = .ok (.iload_n 2, 1) := by decide +kernel
theorem dX4_audit_24 : decode cX4_audit 24 = .ok (.invokevirtual 131, 3) := by decide +kernel
theorem dX4_audit_27 : decode cX4_audit 27 = .ok (.ifCond .eq 7, 3) := by decide +kernel
theorem dX4_audit_30 : decode cX4_audit 30 = .ok (.iconst 0, 1) := by decide +kernel
theorem dX4_audit_31 : decode cX4_audit 31 = .ok (.goto 4, 3) := by decide +kernel
theorem dX4_audit_34 : decode cX4_audit 34 = .ok (.iconst 2, 1) := by decide +kernel
theorem dX4_audit_35 : decode cX4_audit 35 = .ok (.invokevirtual 35, 3) := by decide +kernel
theorem dX4_audit_38 : decode cX4_audit 38 = .ok (.ifCond .eq 5, 3) := by decide +kernel
theorem dX4_audit_41 : decode cX4_audit 41 = .ok (.iconst 0, 1) := by decide +kernel
theorem dX4_audit_42 : decode cX4_audit 42 = .ok (.ireturn, 1) := by decide +kernel
theorem dX4_audit_43 : decode cX4_audit 43 = .ok (.aload_n 0, 1) := by decide +kernel
theorem dX4_audit_44 : decode cX4_audit 44 = .ok (.invokevirtual 101, 3) := by decide +kernel
theorem dX4_audit_47 : decode cX4_audit 47 = .ok (.aload_n 0, 1) := by decide +kernel
theorem dX4_audit_48 : decode cX4_audit 48 = .ok (.iload_n 1, 1) := by decide +kernel
theorem dX4_audit_49 : decode cX4_audit 49 = .ok (.iload_n 2, 1) := by decide +kernel
theorem dX4_audit_50 : decode cX4_audit 50 = .ok (.invokevirtual 134, 3) := by decide +kernel
theorem dX4_audit_53 : decode cX4_audit 53 = .ok (.istore_n 3, 1) := by decide +kernel
theorem dX4_audit_54 : decode cX4_audit 54 = .ok (.aload_n 0, 1) := by decide +kernel
theorem dX4_audit_55 : decode cX4_audit 55 = .ok (.getfield 7, 3) := by decide +kernel
theorem dX4_audit_58 : decode cX4_audit 58 = .ok (.iload_n 2, 1) := by decide +kernel
theorem dX4_audit_59 : decode cX4_audit 59 = .ok (.sipush 427, 3) := by decide +kernel
theorem dX4_audit_62 : decode cX4_audit 62 = .ok (.iload_n 1, 1) := by decide +kernel
theorem dX4_audit_63 : decode cX4_audit 63 = .ok (.iadd, 1) := by decide +kernel
theorem dX4_audit_64 : decode cX4_audit 64 = .ok (.invokestatic 28, 3) := by decide +kernel
theorem dX4_audit_67 : decode cX4_audit 67 = .ok (.iload_n 3, 1) := by decide +kernel
theorem dX4_audit_68 : decode cX4_audit 68 = .ok (.iastore, 1) := by decide +kernel
theorem dX4_audit_69 : decode cX4_audit 69 = .ok (.iload_n 3, 1) := by decide +kernel
theorem dX4_audit_70 : decode cX4_audit 70 = .ok (.ireturn, 1) := by decide +kernel
theorem dX4_auditAll_0 : decode cX4_auditAll 0 = .ok (.aload_n 0, 1) := by decide +kernel
theorem dX4_auditAll_1 : decode cX4_auditAll 1 = .ok (.iconst 0, 1) := by decide +kernel
theorem dX4_auditAll_2 : decode cX4_auditAll 2 = .ok (.putfield 20, 3) := by decide +kernel
theorem dX4_auditAll_5 : decode cX4_auditAll 5 = .ok (.aload_n 0, 1) := by decide +kernel
theorem dX4_auditAll_6 : decode cX4_auditAll 6 = .ok (.invokevirtual 101, 3) := by decide +kernel
theorem dX4_auditAll_9 : decode cX4_auditAll 9 = .ok (.iconst 0, 1) := by decide +kernel
theorem dX4_auditAll_10 : decode cX4_auditAll 10 = .ok (.istore_n 1, 1) := by decide +kernel
theorem dX4_auditAll_11 : decode cX4_auditAll 11 = .ok (.iconst 0, 1) := by decide +kernel
theorem dX4_auditAll_12 : decode cX4_auditAll 12 = .ok (.istore_n 2, 1) := by decide +kernel
theorem dX4_auditAll_13 : decode cX4_auditAll 13 = .ok (.iload_n 2, 1) := by decide +kernel
theorem dX4_auditAll_14 : decode cX4_auditAll 14 = .ok (.aload_n 0, 1) := by decide +kernel
theorem dX4_auditAll_15 : decode cX4_auditAll 15 = .ok (.invokevirtual 66, 3) := by decide +kernel
theorem dX4_auditAll_18 : decode cX4_auditAll 18 = .ok (.if_icmp .ge 81, 3) := by decide +kernel
theorem dX4_auditAll_21 : decode cX4_auditAll 21 = .ok (.iconst 0, 1) := by decide +kernel
theorem dX4_auditAll_22 : decode cX4_auditAll 22 = .ok (.istore_n 3, 1) := by decide +kernel
theorem dX4_auditAll_23 : decode cX4_auditAll 23 = .ok (.iload_n 3, 1) := by decide +kernel
theorem dX4_auditAll_24 : decode cX4_auditAll 24 = .ok (.aload_n 0, 1) := by decide +kernel
theorem dX4_auditAll_25 : decode cX4_auditAll 25 = .ok (.invokevirtual 66, 3) := by decide +kernel
theorem dX4_auditAll_28 : decode cX4_auditAll 28 = .ok (.if_icmp .ge 65, 3) := by decide +kernel
theorem dX4_auditAll_31 : decode cX4_auditAll 31 = .ok (.aload_n 0, 1) := by decide +kernel
theorem dX4_auditAll_32 : decode cX4_auditAll 32 = .ok (.iload_n 3, 1) := by decide +kernel
theorem dX4_auditAll_33 : decode cX4_auditAll 33 = .ok (.iload_n 2, 1) := by decide +kernel
theorem dX4_auditAll_34 : decode cX4_auditAll 34 = .ok (.invokevirtual 131, 3) := by decide +kernel
theorem dX4_auditAll_37 : decode cX4_auditAll 37 = .ok (.ifCond .eq 50, 3) := by decide +kernel
theorem dX4_auditAll_40 : decode cX4_auditAll 40 = .ok (.aload_n 0, 1) := by decide +kernel
theorem dX4_auditAll_41 : decode cX4_auditAll 41 = .ok (.iload_n 3, 1) := by decide +kernel
theorem dX4_auditAll_42 : decode cX4_auditAll 42 = .ok (.iload_n 2, 1) := by decide +kernel
theorem dX4_auditAll_43 : decode cX4_auditAll 43 = .ok (.invokevirtual 134, 3) := by decide +kernel
theorem dX4_auditAll_46 : decode cX4_auditAll 46 = .ok (.istore 4, 2) := by decide +kernel
theorem dX4_auditAll_48 : decode cX4_auditAll 48 = .ok (.iload_n 1, 1) := by decide +kernel
theorem dX4_auditAll_49 : decode cX4_auditAll 49 = .ok (.iload 4, 2) := by decide +kernel
theorem dX4_auditAll_51 : decode cX4_auditAll 51 = .ok (.aload_n 0, 1) := by decide +kernel
theorem dX4_auditAll_52 : decode cX4_auditAll 52 = .ok (.iload_n 2, 1) := by decide +kernel
theorem dX4_auditAll_53 : decode cX4_auditAll 53 = .ok (.sipush 427, 3) := by decide +kernel
theorem dX4_auditAll_56 : decode cX4_auditAll 56 = .ok (.iload_n 3, 1) := by decide +kernel
theorem dX4_auditAll_57 : decode cX4_auditAll 57 = .ok (.iadd, 1) := by decide +kernel
theorem dX4_auditAll_58 : decode cX4_auditAll 58 = .ok (.invokevirtual 40, 3) := by decide +kernel
theorem dX4_auditAll_61 : decode cX4_auditAll 61 = .ok (.if_icmp .ne 7, 3) := by decide +kernel
theorem dX4_auditAll_64 : decode cX4_auditAll 64 = .ok (.iconst 0, 1) := by decide +kernel
theorem dX4_auditAll_65 : decode cX4_auditAll 65 = .ok (.goto 4, 3) := by decide +kernel
theorem dX4_auditAll_68 : decode cX4_auditAll 68 = .ok (.iconst 1, 1) := by decide +kernel
theorem dX4_auditAll_69 : decode cX4_auditAll 69 = .ok (.iadd, 1) := by decide +kernel
theorem dX4_auditAll_70 : decode cX4_auditAll 70 = .ok (.istore_n 1, 1) := by decide +kernel
theorem dX4_auditAll_71 : decode cX4_auditAll 71 = .ok (.aload_n 0, 1) := by decide +kernel
theorem dX4_auditAll_72 : decode cX4_auditAll 72 = .ok (.getfield 7, 3) := by decide +kernel
theorem dX4_auditAll_75 : decode cX4_auditAll 75 = .ok (.iload_n 2, 1) := by decide +kernel
theorem dX4_auditAll_76 : decode cX4_auditAll 76 = .ok (.sipush 427, 3) := by decide +kernel
theorem dX4_auditAll_79 : decode cX4_auditAll 79 = .ok (.iload_n 3, 1) := by decide +kernel
theorem dX4_auditAll_80 : decode cX4_auditAll 80 = .ok (.iadd, 1) := by decide +kernel
theorem dX4_auditAll_81 : decode cX4_auditAll 81 = .ok (.invokestatic 28, 3) := by decide +kernel
theorem dX4_auditAll_84 : decode cX4_auditAll 84 = .ok (.iload 4, 2) := by decide +kernel
theorem dX4_auditAll_86 : decode cX4_auditAll 86 = .ok (.iastore, 1) := by decide +kernel
theorem dX4_auditAll_87 : decode cX4_auditAll 87 = .ok (.iinc 3 1, 3) := by decide +kernel
theorem dX4_auditAll_90 : decode cX4_auditAll 90 = .ok (.goto (-67), 3) := by decide +kernel
theorem dX4_auditAll_93 : decode cX4_auditAll 93 = .ok (.iinc 2 1, 3) := by decide +kernel
theorem dX4_auditAll_96 : decode cX4_auditAll 96 = .ok (.goto (-83), 3) := by decide +kernel
theorem dX4_auditAll_99 : decode cX4_auditAll 99 = .ok (.iload_n 1, 1) := by decide +kernel
theorem dX4_auditAll_100 : decode cX4_auditAll 100 = .ok (.ireturn, 1) := by decide +kernel
theorem dX4_verdict_0 : decode cX4_verdict 0 = .ok (.aload_n 0, 1) := by decide +kernel
theorem dX4_verdict_1 : decode cX4_verdict 1 = .ok (.aload_n 0, 1) := by decide +kernel
theorem dX4_verdict_2 : decode cX4_verdict 2 = .ok (.iload_n 1, 1) := by decide +kernel
theorem dX4_verdict_3 : decode cX4_verdict 3 = .ok (.invokevirtual 104, 3) := by decide +kernel
theorem dX4_verdict_6 : decode cX4_verdict 6 = .ok (.ifCond .eq 15, 3) := by decide +kernel
theorem dX4_verdict_9 : decode cX4_verdict 9 = .ok (.aload_n 0, 1) := by decide +kernel
theorem dX4_verdict_10 : decode cX4_verdict 10 = .ok (.iload_n 2, 1) := by decide +kernel
theorem dX4_verdict_11 : decode cX4_verdict 11 = .ok (.invokevirtual 104, 3) := by decide +kernel
theorem dX4_verdict_14 : decode cX4_verdict 14 = .ok (.ifCond .eq 7, 3) := by decide +kernel
theorem dX4_verdict_17 : decode cX4_verdict 17 = .ok (.iconst 0, 1) := by decide +kernel
theorem dX4_verdict_18 : decode cX4_verdict 18 = .ok (.goto 4, 3) := by decide +kernel
theorem dX4_verdict_21 : decode cX4_verdict 21 = .ok (.iconst 1, 1) := by decide +kernel
theorem dX4_verdict_22 : decode cX4_verdict 22 = .ok (.invokevirtual 35, 3) := by decide +kernel
theorem dX4_verdict_25 : decode cX4_verdict 25 = .ok (.ifCond .eq 7, 3) := by decide +kernel
theorem dX4_verdict_28 : decode cX4_verdict 28 = .ok (.iconst 0, 1) := by decide +kernel
theorem dX4_verdict_29 : decode cX4_verdict 29 = .ok (.goto 13, 3) := by decide +kernel
theorem dX4_verdict_32 : decode cX4_verdict 32 = .ok (.aload_n 0, 1) := by decide +kernel
theorem dX4_verdict_33 : decode cX4_verdict 33 = .ok (.iload_n 2, 1) := by decide +kernel
theorem dX4_verdict_34 : decode cX4_verdict 34 = .ok (.sipush 427, 3) := by decide +kernel
theorem dX4_verdict_37 : decode cX4_verdict 37 = .ok (.iload_n 1, 1) := by decide +kernel
theorem dX4_verdict_38 : decode cX4_verdict 38 = .ok (.iadd, 1) := by decide +kernel
theorem dX4_verdict_39 : decode cX4_verdict 39 = .ok (.invokevirtual 40, 3) := by decide +kernel
theorem dX4_verdict_42 : decode cX4_verdict 42 = .ok (.ireturn, 1) := by decide +kernel
theorem dX4_verdictMask_0 : decode cX4_verdictMask 0 = .ok (.aload_n 0, 1) := by decide +kernel
theorem dX4_verdictMask_1 : decode cX4_verdictMask 1 = .ok (.iload_n 1, 1) := by decide +kernel
theorem dX4_verdictMask_2 : decode cX4_verdictMask 2 = .ok (.iconst 0, 1) := by decide +kernel
theorem dX4_verdictMask_3 : decode cX4_verdictMask 3 = .ok (.iconst 2, 1) := by decide +kernel
theorem dX4_verdictMask_4 : decode cX4_verdictMask 4 = .ok (.invokestatic 24, 3) := by decide +kernel
theorem dX4_verdictMask_7 : decode cX4_verdictMask 7 = .ok (.ifCond .eq 7, 3) := by decide +kernel
theorem dX4_verdictMask_10 : decode cX4_verdictMask 10 = .ok (.iconst 0, 1) := by decide +kernel
theorem dX4_verdictMask_11 : decode cX4_verdictMask 11 = .ok (.goto 4, 3) := by decide +kernel
theorem dX4_verdictMask_14 : decode cX4_verdictMask 14 = .ok (.iconst 1, 1) := by decide +kernel
theorem dX4_verdictMask_15 : decode cX4_verdictMask 15 = .ok (.invokevirtual 35, 3) := by decide +kernel
theorem dX4_verdictMask_18 : decode cX4_verdictMask 18 = .ok (.ifCond .eq 5, 3) := by decide +kernel
theorem dX4_verdictMask_21 : decode cX4_verdictMask 21 = .ok (.iconst 0, 1) := by decide +kernel
theorem dX4_verdictMask_22 : decode cX4_verdictMask 22 = .ok (.ireturn, 1) := by decide +kernel
theorem dX4_verdictMask_23 : decode cX4_verdictMask 23 = .ok (.iconst 0, 1) := by decide +kernel
theorem dX4_verdictMask_24 : decode cX4_verdictMask 24 = .ok (.istore_n 2, 1) := by decide +kernel
theorem dX4_verdictMask_25 : decode cX4_verdictMask 25 = .ok (.iconst 0, 1) := by decide +kernel
theorem dX4_verdictMask_26 : decode cX4_verdictMask 26 = .ok (.istore_n 3, 1) := by decide +kernel
theorem dX4_verdictMask_27 : decode cX4_verdictMask 27 = .ok (.iload_n 3, 1) := by decide +kernel
theorem dX4_verdictMask_28 : decode cX4_verdictMask 28 = .ok (.aload_n 0, 1) := by decide +kernel
theorem dX4_verdictMask_29 : decode cX4_verdictMask 29 = .ok (.invokevirtual 66, 3) := by decide +kernel
theorem dX4_verdictMask_32 : decode cX4_verdictMask 32 = .ok (.if_icmp .ge 62, 3) := by decide +kernel
theorem dX4_verdictMask_35 : decode cX4_verdictMask 35 = .ok (.iconst 0, 1) := by decide +kernel
theorem dX4_verdictMask_36 : decode cX4_verdictMask 36 = .ok (.istore 4, 2) := by decide +kernel
theorem dX4_verdictMask_38 : decode cX4_verdictMask 38 = .ok (.iload 4, 2) := by decide +kernel
theorem dX4_verdictMask_40 : decode cX4_verdictMask 40 = .ok (.aload_n 0, 1) := by decide +kernel
theorem dX4_verdictMask_41 : decode cX4_verdictMask 41 = .ok (.invokevirtual 66, 3) := by decide +kernel
theorem dX4_verdictMask_44 : decode cX4_verdictMask 44 = .ok (.if_icmp .ge 44, 3) := by decide +kernel
theorem dX4_verdictMask_47 : decode cX4_verdictMask 47 = .ok (.iload_n 2, 1) := by decide +kernel
theorem dX4_verdictMask_48 : decode cX4_verdictMask 48 = .ok (.aload_n 0, 1) := by decide +kernel
theorem dX4_verdictMask_49 : decode cX4_verdictMask 49 = .ok (.iload 4, 2) := by decide +kernel
theorem dX4_verdictMask_51 : decode cX4_verdictMask 51 = .ok (.iload_n 3, 1) := by decide +kernel
theorem dX4_verdictMask_52 : decode cX4_verdictMask 52 = .ok (.invokevirtual 131, 3) := by decide +kernel
theorem dX4_verdictMask_55 : decode cX4_verdictMask 55 = .ok (.ifCond .eq 24, 3) := by decide +kernel
theorem dX4_verdictMask_58 : decode cX4_verdictMask 58 = .ok (.aload_n 0, 1) := by decide +kernel
theorem dX4_verdictMask_59 : decode cX4_verdictMask 59 = .ok (.iload_n 3, 1) := by decide +kernel
theorem dX4_verdictMask_60 : decode cX4_verdictMask 60 = .ok (.sipush 427, 3) := by decide +kernel
theorem dX4_verdictMask_63 : decode cX4_verdictMask 63 = .ok (.iload 4, 2) := by decide +kernel
theorem dX4_verdictMask_65 : decode cX4_verdictMask 65 = .ok (.iadd, 1) := by decide +kernel
theorem dX4_verdictMask_66 : decode cX4_verdictMask 66 = .ok (.invokevirtual 40, 3) := by decide +kernel
theorem dX4_verdictMask_69 : decode cX4_verdictMask 69 = .ok (.iload_n 1, 1) := by decide +kernel
theorem dX4_verdictMask_70 : decode cX4_verdictMask 70 = .ok (.if_icmp .ne 9, 3) := by decide +kernel
theorem dX4_verdictMask_73 : decode cX4_verdictMask 73 = .ok (.iconst 1, 1) := by decide +kernel
theorem dX4_verdictMask_74 : decode cX4_verdictMask 74 = .ok (.iload_n 3, 1) := by decide +kernel
theorem dX4_verdictMask_75 : decode cX4_verdictMask 75 = .ok (.ishl, 1) := by decide +kernel
theorem dX4_verdictMask_76 : decode cX4_verdictMask 76 = .ok (.goto 4, 3) := by decide +kernel
theorem dX4_verdictMask_79 : decode cX4_verdictMask 79 = .ok (.iconst 0, 1) := by decide +kernel
theorem dX4_verdictMask_80 : decode cX4_verdictMask 80 = .ok (.ior, 1) := by decide +kernel
theorem dX4_verdictMask_81 : decode cX4_verdictMask 81 = .ok (.istore_n 2, 1) := by decide +kernel
theorem dX4_verdictMask_82 : decode cX4_verdictMask 82 = .ok (.iinc 4 1, 3) := by decide +kernel
theorem dX4_verdictMask_85 : decode cX4_verdictMask 85 = .ok (.goto (-47), 3) := by decide +kernel
theorem dX4_verdictMask_88 : decode cX4_verdictMask 88 = .ok (.iinc 3 1, 3) := by decide +kernel
theorem dX4_verdictMask_91 : decode cX4_verdictMask 91 = .ok (.goto (-64), 3) := by decide +kernel
theorem dX4_verdictMask_94 : decode cX4_verdictMask 94 = .ok (.iload_n 2, 1) := by decide +kernel
theorem dX4_verdictMask_95 : decode cX4_verdictMask 95 = .ok (.ireturn, 1) := by decide +kernel
theorem dX4_evidenceCount_0 : decode cX4_evidenceCount 0 = .ok (.aload_n 0, 1) := by decide +kernel
theorem dX4_evidenceCount_1 : decode cX4_evidenceCount 1 = .ok (.iconst 0, 1) := by decide +kernel
theorem dX4_evidenceCount_2 : decode cX4_evidenceCount 2 = .ok (.putfield 20, 3) := by decide +kernel
theorem dX4_evidenceCount_5 : decode cX4_evidenceCount 5 = .ok (.aload_n 0, 1) := by decide +kernel
theorem dX4_evidenceCount_6 : decode cX4_evidenceCount 6 = .ok (.getfield 7, 3) := by decide +kernel
theorem dX4_evidenceCount_9 : decode cX4_evidenceCount 9 = .ok (.sipush 2800, 3) := by decide +kernel
theorem dX4_evidenceCount_12 : decode cX4_evidenceCount 12 = .ok (.iaload, 1) := by decide +kernel
theorem dX4_evidenceCount_13 : decode cX4_evidenceCount 13 = .ok (.ireturn, 1) := by decide +kernel
theorem dX4_evidence_0 : decode cX4_evidence 0 = .ok (.aload_n 0, 1) := by decide +kernel
theorem dX4_evidence_1 : decode cX4_evidence 1 = .ok (.iload_n 1, 1) := by decide +kernel
theorem dX4_evidence_2 : decode cX4_evidence 2 = .ok (.iconst 0, 1) := by decide +kernel
theorem dX4_evidence_3 : decode cX4_evidence 3 = .ok (.aload_n 0, 1) := by decide +kernel
theorem dX4_evidence_4 : decode cX4_evidence 4 = .ok (.getfield 7, 3) := by decide +kernel
theorem dX4_evidence_7 : decode cX4_evidence 7 = .ok (.sipush 2800, 3) := by decide +kernel
theorem dX4_evidence_10 : decode cX4_evidence 10 = .ok (.iaload, 1) := by decide +kernel
theorem dX4_evidence_11 : decode cX4_evidence 11 = .ok (.iconst 1, 1) := by decide +kernel
theorem dX4_evidence_12 : decode cX4_evidence 12 = .ok (.isub, 1) := by decide +kernel
theorem dX4_evidence_13 : decode cX4_evidence 13 = .ok (.invokestatic 24, 3) := by decide +kernel
theorem dX4_evidence_16 : decode cX4_evidence 16 = .ok (.ifCond .ne 7, 3) := by decide +kernel
theorem dX4_evidence_19 : decode cX4_evidence 19 = .ok (.iconst 1, 1) := by decide +kernel
theorem dX4_evidence_20 : decode cX4_evidence 20 = .ok (.goto 17, 3) := by decide +kernel
theorem dX4_evidence_23 : decode cX4_evidence 23 = .ok (.iload_n 2, 1) := by decide +kernel
theorem dX4_evidence_24 : decode cX4_evidence 24 = .ok (.iconst 0, 1) := by decide +kernel
theorem dX4_evidence_25 : decode cX4_evidence 25 = .ok (.iconst 3, 1) := by decide +kernel
theorem dX4_evidence_26 : decode cX4_evidence 26 = .ok (.invokestatic 24, 3) := by decide +kernel
theorem dX4_evidence_29 : decode cX4_evidence 29 = .ok (.ifCond .eq 7, 3) := by decide +kernel
theorem dX4_evidence_32 : decode cX4_evidence 32 = .ok (.iconst 0, 1) := by decide +kernel
theorem dX4_evidence_33 : decode cX4_evidence 33 = .ok (.goto 4, 3) := by decide +kernel
theorem dX4_evidence_36 : decode cX4_evidence 36 = .ok (.iconst 2, 1) := by decide +kernel
theorem dX4_evidence_37 : decode cX4_evidence 37 = .ok (.invokevirtual 35, 3) := by decide +kernel
theorem dX4_evidence_40 : decode cX4_evidence 40 = .ok (.ifCond .eq 5, 3) := by decide +kernel
theorem dX4_evidence_43 : decode cX4_evidence 43 = .ok (.iconst 0, 1) := by decide +kernel
theorem dX4_evidence_44 : decode cX4_evidence 44 = .ok (.ireturn, 1) := by decide +kernel
theorem dX4_evidence_45 : decode cX4_evidence 45 = .ok (.aload_n 0, 1) := by decide +kernel
theorem dX4_evidence_46 : decode cX4_evidence 46 = .ok (.getfield 7, 3) := by decide +kernel
theorem dX4_evidence_49 : decode cX4_evidence 49 = .ok (.sipush 2801, 3) := by decide +kernel
theorem dX4_evidence_52 : decode cX4_evidence 52 = .ok (.iconst 4, 1) := by decide +kernel
theorem dX4_evidence_53 : decode cX4_evidence 53 = .ok (.iload_n 1, 1) := by decide +kernel
theorem dX4_evidence_54 : decode cX4_evidence 54 = .ok (.imul, 1) := by decide +kernel
theorem dX4_evidence_55 : decode cX4_evidence 55 = .ok (.iadd, 1) := by decide +kernel
theorem dX4_evidence_56 : decode cX4_evidence 56 = .ok (.iload_n 2, 1) := by decide +kernel
theorem dX4_evidence_57 : decode cX4_evidence 57 = .ok (.iadd, 1) := by decide +kernel
theorem dX4_evidence_58 : decode cX4_evidence 58 = .ok (.iaload, 1) := by decide +kernel
theorem dX4_evidence_59 : decode cX4_evidence 59 = .ok (.ireturn, 1) := by decide +kernel
theorem dX4_mix_0 : decode cX4_mix 0 = .ok (.aload_n 0, 1) := by decide +kernel
theorem dX4_mix_1 : decode cX4_mix 1 = .ok (.ldc2_w 54, 3) := by decide +kernel
theorem dX4_mix_4 : decode cX4_mix 4 = .ok (.aload_n 0, 1) := by decide +kernel
theorem dX4_mix_5 : decode cX4_mix 5 = .ok (.getfield 137, 3) := by decide +kernel
theorem dX4_mix_8 : decode cX4_mix 8 = .ok (.lmul, 1) := by decide +kernel
theorem dX4_mix_9 : decode cX4_mix 9 = .ok (.iload_n 1, 1) := by decide +kernel
theorem dX4_mix_10 : decode cX4_mix 10 = .ok (.i2l, 1) := by decide +kernel
theorem dX4_mix_11 : decode cX4_mix 11 = .ok (.ladd, 1) := by decide +kernel
theorem dX4_mix_12 : decode cX4_mix 12 = .ok (.putfield 137, 3) := by decide +kernel
theorem dX4_mix_15 : decode cX4_mix 15 = .ok (.return_, 1) := by decide +kernel
theorem dX4_mixMachine_0 : decode cX4_mixMachine 0 = .ok (.iconst 0, 1) := by decide +kernel
theorem dX4_mixMachine_1 : decode cX4_mixMachine 1 = .ok (.istore_n 2, 1) := by decide +kernel
theorem dX4_mixMachine_2 : decode cX4_mixMachine 2 = .ok (.iload_n 2, 1) := by decide +kernel
theorem dX4_mixMachine_3 : decode cX4_mixMachine 3 = .ok (.iconst 4, 1) := by decide +kernel
theorem dX4_mixMachine_4 : decode cX4_mixMachine 4 = .ok (.if_icmp .gt 19, 3) := by decide +kernel
theorem dX4_mixMachine_7 : decode cX4_mixMachine 7 = .ok (.aload_n 0, 1) := by decide +kernel
theorem dX4_mixMachine_8 : decode cX4_mixMachine 8 = .ok (.aload_n 0, 1) := by decide +kernel
theorem dX4_mixMachine_9 : decode cX4_mixMachine 9 = .ok (.iload_n 1, 1) := by decide +kernel
theorem dX4_mixMachine_10 : decode cX4_mixMachine 10 = .ok (.iload_n 2, 1) := by decide +kernel
theorem dX4_mixMachine_11 : decode cX4_mixMachine 11 = .ok (.invokevirtual 40, 3) := by decide +kernel
theorem dX4_mixMachine_14 : decode cX4_mixMachine 14 = .ok (.invokevirtual 141, 3) := by decide +kernel
theorem dX4_mixMachine_17 : decode cX4_mixMachine 17 = .ok (.iinc 2 1, 3) := by decide +kernel
theorem dX4_mixMachine_20 : decode cX4_mixMachine 20 = .ok (.goto (-18), 3) := by decide +kernel
theorem dX4_mixMachine_23 : decode cX4_mixMachine 23 = .ok (.iconst 0, 1) := by decide +kernel
theorem dX4_mixMachine_24 : decode cX4_mixMachine 24 = .ok (.istore_n 2, 1) := by decide +kernel
theorem dX4_mixMachine_25 : decode cX4_mixMachine 25 = .ok (.iload_n 2, 1) := by decide +kernel
theorem dX4_mixMachine_26 : decode cX4_mixMachine 26 = .ok (.aload_n 0, 1) := by decide +kernel
theorem dX4_mixMachine_27 : decode cX4_mixMachine 27 = .ok (.iload_n 1, 1) := by decide +kernel
theorem dX4_mixMachine_28 : decode cX4_mixMachine 28 = .ok (.iconst 4, 1) := by decide +kernel
theorem dX4_mixMachine_29 : decode cX4_mixMachine 29 = .ok (.invokevirtual 40, 3) := by decide +kernel
theorem dX4_mixMachine_32 : decode cX4_mixMachine 32 = .ok (.if_icmp .ge 19, 3) := by decide +kernel
theorem dX4_mixMachine_35 : decode cX4_mixMachine 35 = .ok (.aload_n 0, 1) := by decide +kernel
theorem dX4_mixMachine_36 : decode cX4_mixMachine 36 = .ok (.aload_n 0, 1) := by decide +kernel
theorem dX4_mixMachine_37 : decode cX4_mixMachine 37 = .ok (.iload_n 1, 1) := by decide +kernel
theorem dX4_mixMachine_38 : decode cX4_mixMachine 38 = .ok (.iload_n 2, 1) := by decide +kernel
theorem dX4_mixMachine_39 : decode cX4_mixMachine 39 = .ok (.invokevirtual 43, 3) := by decide +kernel
theorem dX4_mixMachine_42 : decode cX4_mixMachine 42 = .ok (.invokevirtual 141, 3) := by decide +kernel
theorem dX4_mixMachine_45 : decode cX4_mixMachine 45 = .ok (.iinc 2 1, 3) := by decide +kernel
theorem dX4_mixMachine_48 : decode cX4_mixMachine 48 = .ok (.goto (-23), 3) := by decide +kernel
theorem dX4_mixMachine_51 : decode cX4_mixMachine 51 = .ok (.aload_n 0, 1) := by decide +kernel
theorem dX4_mixMachine_52 : decode cX4_mixMachine 52 = .ok (.aload_n 0, 1) := by decide +kernel
theorem dX4_mixMachine_53 : decode cX4_mixMachine 53 = .ok (.iload_n 1, 1) := by decide +kernel
theorem dX4_mixMachine_54 : decode cX4_mixMachine 54 = .ok (.aload_n 0, 1) := by decide +kernel
theorem dX4_mixMachine_55 : decode cX4_mixMachine 55 = .ok (.iload_n 1, 1) := by decide +kernel
theorem dX4_mixMachine_56 : decode cX4_mixMachine 56 = .ok (.iconst 4, 1) := by decide +kernel
theorem dX4_mixMachine_57 : decode cX4_mixMachine 57 = .ok (.invokevirtual 40, 3) := by decide +kernel
theorem dX4_mixMachine_60 : decode cX4_mixMachine 60 = .ok (.invokevirtual 84, 3) := by decide +kernel
theorem dX4_mixMachine_63 : decode cX4_mixMachine 63 = .ok (.invokevirtual 141, 3) := by decide +kernel
theorem dX4_mixMachine_66 : decode cX4_mixMachine 66 = .ok (.aload_n 0, 1) := by decide +kernel
theorem dX4_mixMachine_67 : decode cX4_mixMachine 67 = .ok (.aload_n 0, 1) := by decide +kernel
theorem dX4_mixMachine_68 : decode cX4_mixMachine 68 = .ok (.iload_n 1, 1) := by decide +kernel
theorem dX4_mixMachine_69 : decode cX4_mixMachine 69 = .ok (.bipush 45, 2) := by decide +kernel
theorem dX4_mixMachine_71 : decode cX4_mixMachine 71 = .ok (.invokevirtual 40, 3) := by decide +kernel
theorem dX4_mixMachine_74 : decode cX4_mixMachine 74 = .ok (.invokevirtual 141, 3) := by decide +kernel
theorem dX4_mixMachine_77 : decode cX4_mixMachine 77 = .ok (.aload_n 0, 1) := by decide +kernel
theorem dX4_mixMachine_78 : decode cX4_mixMachine 78 = .ok (.aload_n 0, 1) := by decide +kernel
theorem dX4_mixMachine_79 : decode cX4_mixMachine 79 = .ok (.iload_n 1, 1) := by decide +kernel
theorem dX4_mixMachine_80 : decode cX4_mixMachine 80 = .ok (.sipush 226, 3) := by decide +kernel
theorem dX4_mixMachine_83 : decode cX4_mixMachine 83 = .ok (.invokevirtual 40, 3) := by decide +kernel
theorem dX4_mixMachine_86 : decode cX4_mixMachine 86 = .ok (.invokevirtual 141, 3) := by decide +kernel
theorem dX4_mixMachine_89 : decode cX4_mixMachine 89 = .ok (.iconst 0, 1) := by decide +kernel
theorem dX4_mixMachine_90 : decode cX4_mixMachine 90 = .ok (.istore_n 2, 1) := by decide +kernel
theorem dX4_mixMachine_91 : decode cX4_mixMachine 91 = .ok (.iload_n 2, 1) := by decide +kernel
theorem dX4_mixMachine_92 : decode cX4_mixMachine 92 = .ok (.aload_n 0, 1) := by decide +kernel
theorem dX4_mixMachine_93 : decode cX4_mixMachine 93 = .ok (.invokevirtual 66, 3) := by decide +kernel
theorem dX4_mixMachine_96 : decode cX4_mixMachine 96 = .ok (.if_icmp .ge 23, 3) := by decide +kernel
theorem dX4_mixMachine_99 : decode cX4_mixMachine 99 = .ok (.aload_n 0, 1) := by decide +kernel
theorem dX4_mixMachine_100 : decode cX4_mixMachine 100 = .ok (.aload_n 0, 1) := by decide +kernel
theorem dX4_mixMachine_101 : decode cX4_mixMachine 101 = .ok (.iload_n 1, 1) := by decide +kernel
theorem dX4_mixMachine_102 : decode cX4_mixMachine 102 = .ok (.sipush 427, 3) := by decide +kernel
theorem dX4_mixMachine_105 : decode cX4_mixMachine 105 = .ok (.iload_n 2, 1) := by decide +kernel
theorem dX4_mixMachine_106 : decode cX4_mixMachine 106 = .ok (.iadd, 1) := by decide +kernel
theorem dX4_mixMachine_107 : decode cX4_mixMachine 107 = .ok (.invokevirtual 40, 3) := by decide +kernel
theorem dX4_mixMachine_110 : decode cX4_mixMachine 110 = .ok (.invokevirtual 141, 3) := by decide +kernel
theorem dX4_mixMachine_113 : decode cX4_mixMachine 113 = .ok (.iinc 2 1, 3) := by decide +kernel
theorem dX4_mixMachine_116 : decode cX4_mixMachine 116 = .ok (.goto (-25), 3) := by decide +kernel
theorem dX4_mixMachine_119 : decode cX4_mixMachine 119 = .ok (.return_, 1) := by decide +kernel
theorem dX4_digest_0 : decode cX4_digest 0 = .ok (.aload_n 0, 1) := by decide +kernel
theorem dX4_digest_1 : decode cX4_digest 1 = .ok (.iconst 0, 1) := by decide +kernel
theorem dX4_digest_2 : decode cX4_digest 2 = .ok (.putfield 20, 3) := by decide +kernel
theorem dX4_digest_5 : decode cX4_digest 5 = .ok (.aload_n 0, 1) := by decide +kernel
theorem dX4_digest_6 : decode cX4_digest 6 = .ok (.ldc2_w 144, 3) := by decide +kernel
theorem dX4_digest_9 : decode cX4_digest 9 = .ok (.putfield 137, 3) := by decide +kernel
theorem dX4_digest_12 : decode cX4_digest 12 = .ok (.aload_n 0, 1) := by decide +kernel
theorem dX4_digest_13 : decode cX4_digest 13 = .ok (.aload_n 0, 1) := by decide +kernel
theorem dX4_digest_14 : decode cX4_digest 14 = .ok (.getfield 32, 3) := by decide +kernel
theorem dX4_digest_17 : decode cX4_digest 17 = .ok (.invokevirtual 141, 3) := by decide +kernel
theorem dX4_digest_20 : decode cX4_digest 20 = .ok (.aload_n 0, 1) := by decide +kernel
theorem dX4_digest_21 : decode cX4_digest 21 = .ok (.aload_n 0, 1) := by decide +kernel
theorem dX4_digest_22 : decode cX4_digest 22 = .ok (.invokevirtual 66, 3) := by decide +kernel
theorem dX4_digest_25 : decode cX4_digest 25 = .ok (.invokevirtual 141, 3) := by decide +kernel
theorem dX4_digest_28 : decode cX4_digest 28 = .ok (.iconst 0, 1) := by decide +kernel
theorem dX4_digest_29 : decode cX4_digest 29 = .ok (.istore_n 1, 1) := by decide +kernel
theorem dX4_digest_30 : decode cX4_digest 30 = .ok (.iload_n 1, 1) := by decide +kernel
theorem dX4_digest_31 : decode cX4_digest 31 = .ok (.aload_n 0, 1) := by decide +kernel
theorem dX4_digest_32 : decode cX4_digest 32 = .ok (.invokevirtual 66, 3) := by decide +kernel
theorem dX4_digest_35 : decode cX4_digest 35 = .ok (.if_icmp .ge 14, 3) := by decide +kernel
theorem dX4_digest_38 : decode cX4_digest 38 = .ok (.aload_n 0, 1) := by decide +kernel
theorem dX4_digest_39 : decode cX4_digest 39 = .ok (.iload_n 1, 1) := by decide +kernel
theorem dX4_digest_40 : decode cX4_digest 40 = .ok (.invokevirtual 146, 3) := by decide +kernel
theorem dX4_digest_43 : decode cX4_digest 43 = .ok (.iinc 1 1, 3) := by decide +kernel
theorem dX4_digest_46 : decode cX4_digest 46 = .ok (.goto (-16), 3) := by decide +kernel
theorem dX4_digest_49 : decode cX4_digest 49 = .ok (.aload_n 0, 1) := by decide +kernel
theorem dX4_digest_50 : decode cX4_digest 50 = .ok (.aload_n 0, 1) := by decide +kernel
theorem dX4_digest_51 : decode cX4_digest 51 = .ok (.getfield 7, 3) := by decide +kernel
theorem dX4_digest_54 : decode cX4_digest 54 = .ok (.sipush 2599, 3) := by decide +kernel
theorem dX4_digest_57 : decode cX4_digest 57 = .ok (.iaload, 1) := by decide +kernel
theorem dX4_digest_58 : decode cX4_digest 58 = .ok (.invokevirtual 141, 3) := by decide +kernel
theorem dX4_digest_61 : decode cX4_digest 61 = .ok (.iconst 0, 1) := by decide +kernel
theorem dX4_digest_62 : decode cX4_digest 62 = .ok (.istore_n 1, 1) := by decide +kernel
theorem dX4_digest_63 : decode cX4_digest 63 = .ok (.iload_n 1, 1) := by decide +kernel
theorem dX4_digest_64 : decode cX4_digest 64 = .ok (.aload_n 0, 1) := by decide +kernel
theorem dX4_digest_65 : decode cX4_digest 65 = .ok (.getfield 7, 3) := by decide +kernel
theorem dX4_digest_68 : decode cX4_digest 68 = .ok (.sipush 2599, 3) := by decide +kernel
theorem dX4_digest_71 : decode cX4_digest 71 = .ok (.iaload, 1) := by decide +kernel
theorem dX4_digest_72 : decode cX4_digest 72 = .ok (.if_icmp .ge 43, 3) := by decide +kernel
theorem dX4_digest_75 : decode cX4_digest 75 = .ok (.aload_n 0, 1) := by decide +kernel
theorem dX4_digest_76 : decode cX4_digest 76 = .ok (.aload_n 0, 1) := by decide +kernel
theorem dX4_digest_77 : decode cX4_digest 77 = .ok (.getfield 7, 3) := by decide +kernel
theorem dX4_digest_80 : decode cX4_digest 80 = .ok (.sipush 2600, 3) := by decide +kernel
theorem dX4_digest_83 : decode cX4_digest 83 = .ok (.iconst 5, 1) := by decide +kernel
theorem dX4_digest_84 : decode cX4_digest 84 = .ok (.iload_n 1, 1) := by decide +kernel
theorem dX4_digest_85 : decode cX4_digest 85 = .ok (.imul, 1) := by decide +kernel
theorem dX4_digest_86 : decode cX4_digest 86 = .ok (.iadd, 1) := by decide +kernel
theorem dX4_digest_87 : decode cX4_digest 87 = .ok (.iaload, 1) := by decide +kernel
theorem dX4_digest_88 : decode cX4_digest 88 = .ok (.invokevirtual 141, 3) := by decide +kernel
theorem dX4_digest_91 : decode cX4_digest 91 = .ok (.aload_n 0, 1) := by decide +kernel
theorem dX4_digest_92 : decode cX4_digest 92 = .ok (.aload_n 0, 1) := by decide +kernel
theorem dX4_digest_93 : decode cX4_digest 93 = .ok (.getfield 7, 3) := by decide +kernel
theorem dX4_digest_96 : decode cX4_digest 96 = .ok (.sipush 2600, 3) := by decide +kernel
theorem dX4_digest_99 : decode cX4_digest 99 = .ok (.iconst 5, 1) := by decide +kernel
theorem dX4_digest_100 : decode cX4_digest 100 = .ok (.iload_n 1, 1) := by decide +kernel
theorem dX4_digest_101 : decode cX4_digest 101 = .ok (.imul, 1) := by decide +kernel
theorem dX4_digest_102 : decode cX4_digest 102 = .ok (.iadd, 1) := by decide +kernel
theorem dX4_digest_103 : decode cX4_digest 103 = .ok (.iconst 2, 1) := by decide +kernel
theorem dX4_digest_104 : decode cX4_digest 104 = .ok (.iadd, 1) := by decide +kernel
theorem dX4_digest_105 : decode cX4_digest 105 = .ok (.iaload, 1) := by decide +kernel
theorem dX4_digest_106 : decode cX4_digest 106 = .ok (.invokevirtual 141, 3) := by decide +kernel
theorem dX4_digest_109 : decode cX4_digest 109 = .ok (.iinc 1 1, 3) := by decide +kernel
theorem dX4_digest_112 : decode cX4_digest 112 = .ok (.goto (-49), 3) := by decide +kernel
theorem dX4_digest_115 : decode cX4_digest 115 = .ok (.aload_n 0, 1) := by decide +kernel
theorem dX4_digest_116 : decode cX4_digest 116 = .ok (.aload_n 0, 1) := by decide +kernel
theorem dX4_digest_117 : decode cX4_digest 117 = .ok (.getfield 7, 3) := by decide +kernel
theorem dX4_digest_120 : decode cX4_digest 120 = .ok (.sipush 2800, 3) := by decide +kernel
theorem dX4_digest_123 : decode cX4_digest 123 = .ok (.iaload, 1) := by decide +kernel
theorem dX4_digest_124 : decode cX4_digest 124 = .ok (.invokevirtual 141, 3) := by decide +kernel
theorem dX4_digest_127 : decode cX4_digest 127 = .ok (.iconst 0, 1) := by decide +kernel
theorem dX4_digest_128 : decode cX4_digest 128 = .ok (.istore_n 1, 1) := by decide +kernel
theorem dX4_digest_129 : decode cX4_digest 129 = .ok (.iload_n 1, 1) := by decide +kernel
theorem dX4_digest_130 : decode cX4_digest 130 = .ok (.iconst 4, 1) := by decide +kernel
theorem dX4_digest_131 : decode cX4_digest 131 = .ok (.aload_n 0, 1) := by decide +kernel
theorem dX4_digest_132 : decode cX4_digest 132 = .ok (.getfield 7, 3) := by decide +kernel
theorem dX4_digest_135 : decode cX4_digest 135 = .ok (.sipush 2800, 3) := by decide +kernel
theorem dX4_digest_138 : decode cX4_digest 138 = .ok (.iaload, 1) := by decide +kernel
theorem dX4_digest_139 : decode cX4_digest 139 = .ok (.imul, 1) := by decide +kernel
theorem dX4_digest_140 : decode cX4_digest 140 = .ok (.if_icmp .ge 23, 3) := by decide +kernel
theorem dX4_digest_143 : decode cX4_digest 143 = .ok (.aload_n 0, 1) := by decide +kernel
theorem dX4_digest_144 : decode cX4_digest 144 = .ok (.aload_n 0, 1) := by decide +kernel
theorem dX4_digest_145 : decode cX4_digest 145 = .ok (.getfield 7, 3) := by decide +kernel
theorem dX4_digest_148 : decode cX4_digest 148 = .ok (.sipush 2801, 3) := by decide +kernel
theorem dX4_digest_151 : decode cX4_digest 151 = .ok (.iload_n 1, 1) := by decide +kernel
theorem dX4_digest_152 : decode cX4_digest 152 = .ok (.iadd, 1) := by decide +kernel
theorem dX4_digest_153 : decode cX4_digest 153 = .ok (.iaload, 1) := by decide +kernel
theorem dX4_digest_154 : decode cX4_digest 154 = .ok (.invokevirtual 141, 3) := by decide +kernel
theorem dX4_digest_157 : decode cX4_digest 157 = .ok (.iinc 1 1, 3) := by decide +kernel
theorem dX4_digest_160 : decode cX4_digest 160 = .ok (.goto (-31), 3) := by decide +kernel
theorem dX4_digest_163 : decode cX4_digest 163 = .ok (.aload_n 0, 1) := by decide +kernel
theorem dX4_digest_164 : decode cX4_digest 164 = .ok (.getfield 137, 3) := by decide +kernel
theorem dX4_digest_167 : decode cX4_digest 167 = .ok (.lreturn, 1) := by decide +kernel
