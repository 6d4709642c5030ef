theorem dX2_init_0 : decode cX2_init 0 = .ok (.aload_n 0, 1) := by decide +kernel
theorem dX2_init_1 : decode cX2_init 1 = .ok (.invokespecial 3, 3) := by decide +kernel
theorem dX2_init_4 : decode cX2_init 4 = .ok (.aload_n 0, 1) := by decide +kernel
theorem dX2_init_5 : decode cX2_init 5 = .ok (.bipush 6, 2) := by decide +kernel
theorem dX2_init_7 : decode cX2_init 7 = .ok (.anewarray 9, 3) := by decide +kernel
theorem dX2_init_10 : decode cX2_init 10 = .ok (.putfield 11, 3) := by decide +kernel
theorem dX2_init_13 : decode cX2_init 13 = .ok (.iconst 0, 1) := by decide +kernel
theorem dX2_init_14 : decode cX2_init 14 = .ok (.istore_n 1, 1) := by decide +kernel
theorem dX2_init_15 : decode cX2_init 15 = .ok (.iload_n 1, 1) := by decide +kernel
theorem dX2_init_16 : decode cX2_init 16 = .ok (.bipush 6, 2) := by decide +kernel
theorem dX2_init_18 : decode cX2_init 18 = .ok (.if_icmp .ge 23, 3) := by decide +kernel
theorem dX2_init_21 : decode cX2_init 21 = .ok (.aload_n 0, 1) := by decide +kernel
theorem dX2_init_22 : decode cX2_init 22 = .ok (.getfield 11, 3) := by decide +kernel
theorem dX2_init_25 : decode cX2_init 25 = .ok (.iload_n 1, 1) := by decide +kernel
theorem dX2_init_26 : decode cX2_init 26 = .ok (.new 9, 3) := by decide +kernel
theorem dX2_init_29 : decode cX2_init 29 = .ok (.dup, 1) := by decide +kernel
theorem dX2_init_30 : decode cX2_init 30 = .ok (.iload_n 1, 1) := by decide +kernel
theorem dX2_init_31 : decode cX2_init 31 = .ok (.invokespecial 17, 3) := by decide +kernel
theorem dX2_init_34 : decode cX2_init 34 = .ok (.aastore, 1) := by decide +kernel
theorem dX2_init_35 : decode cX2_init 35 = .ok (.iinc 1 1, 3) := by decide +kernel
theorem dX2_init_38 : decode cX2_init 38 = .ok (.goto (-23), 3) := by decide +kernel
theorem dX2_init_41 : decode cX2_init 41 = .ok (.aload_n 0, 1) := by decide +kernel
theorem dX2_init_42 : decode cX2_init 42 = .ok (.new 20, 3) := by decide +kernel
theorem dX2_init_45 : decode cX2_init 45 = .ok (.dup, 1) := by decide +kernel
theorem dX2_init_46 : decode cX2_init 46 = .ok (.iconst 5, 1) := by decide +kernel
theorem dX2_init_47 : decode cX2_init 47 = .ok (.bipush 40, 2) := by decide +kernel
theorem dX2_init_49 : decode cX2_init 49 = .ok (.invokespecial 22, 3) := by decide +kernel
theorem dX2_init_52 : decode cX2_init 52 = .ok (.putfield 25, 3) := by decide +kernel
theorem dX2_init_55 : decode cX2_init 55 = .ok (.aload_n 0, 1) := by decide +kernel
theorem dX2_init_56 : decode cX2_init 56 = .ok (.new 20, 3) := by decide +kernel
theorem dX2_init_59 : decode cX2_init 59 = .ok (.dup, 1) := by decide +kernel
theorem dX2_init_60 : decode cX2_init 60 = .ok (.iconst 4, 1) := by decide +kernel
theorem dX2_init_61 : decode cX2_init 61 = .ok (.bipush 30, 2) := by decide +kernel
theorem dX2_init_63 : decode cX2_init 63 = .ok (.invokespecial 22, 3) := by decide +kernel
theorem dX2_init_66 : decode cX2_init 66 = .ok (.putfield 29, 3) := by decide +kernel
theorem dX2_init_69 : decode cX2_init 69 = .ok (.return_, 1) := by decide +kernel
theorem dX2_begin_0 : decode cX2_begin 0 = .ok (.aload_n 0, 1) := by decide +kernel
theorem dX2_begin_1 : decode cX2_begin 1 = .ok (.iload_n 1, 1) := by decide +kernel
theorem dX2_begin_2 : decode cX2_begin 2 = .ok (.putfield 32, 3) := by decide +kernel
theorem dX2_begin_5 : decode cX2_begin 5 = .ok (.iconst 0, 1) := by decide +kernel
theorem dX2_begin_6 : decode cX2_begin 6 = .ok (.istore_n 2, 1) := by decide +kernel
theorem dX2_begin_7 : decode cX2_begin 7 = .ok (.iload_n 2, 1) := by decide +kernel
theorem dX2_begin_8 : decode cX2_begin 8 = .ok (.aload_n 0, 1) := by decide +kernel
theorem dX2_begin_9 : decode cX2_begin 9 = .ok (.getfield 32, 3) := by decide +kernel
theorem dX2_begin_12 : decode cX2_begin 12 = .ok (.if_icmp .ge 22, 3) := by decide +kernel
theorem dX2_begin_15 : decode cX2_begin 15 = .ok (.aload_n 0, 1) := by decide +kernel
theorem dX2_begin_16 : decode cX2_begin 16 = .ok (.getfield 11, 3) := by decide +kernel
theorem dX2_begin_19 : decode cX2_begin 19 = .ok (.iload_n 2, 1) := by decide +kernel
theorem dX2_begin_20 : decode cX2_begin 20 = .ok (.aaload, 1) := by decide +kernel
theorem dX2_begin_21 : decode cX2_begin 21 = .ok (.aload_n 0, 1) := by decide +kernel
theorem dX2_begin_22 : decode cX2_begin 22 = .ok (.getfield 32, 3) := by decide +kernel
theorem dX2_begin_25 : decode cX2_begin 25 = .ok (.invokevirtual 36, 3) := by decide +kernel
theorem dX2_begin_28 : decode cX2_begin 28 = .ok (.iinc 2 1, 3) := by decide +kernel
theorem dX2_begin_31 : decode cX2_begin 31 = .ok (.goto (-24), 3) := by decide +kernel
theorem dX2_begin_34 : decode cX2_begin 34 = .ok (.aload_n 0, 1) := by decide +kernel
theorem dX2_begin_35 : decode cX2_begin 35 = .ok (.getfield 25, 3) := by decide +kernel
theorem dX2_begin_38 : decode cX2_begin 38 = .ok (.iconst 0, 1) := by decide +kernel
theorem dX2_begin_39 : decode cX2_begin 39 = .ok (.invokevirtual 39, 3) := by decide +kernel
theorem dX2_begin_42 : decode cX2_begin 42 = .ok (.aload_n 0, 1) := by decide +kernel
theorem dX2_begin_43 : decode cX2_begin 43 = .ok (.getfield 29, 3) := by decide +kernel
theorem dX2_begin_46 : decode cX2_begin 46 = .ok (.iconst 0, 1) := by decide +kernel
theorem dX2_begin_47 : decode cX2_begin 47 = .ok (.invokevirtual 39, 3) := by decide +kernel
theorem dX2_begin_50 : decode cX2_begin 50 = .ok (.return_, 1) := by decide +kernel
theorem dX2_copyWorld_0 : decode cX2_copyWorld 0 = .ok (.aload_n 0, 1) := by decide +kernel
theorem dX2_copyWorld_1 : decode cX2_copyWorld 1 = .ok (.aload_n 1, 1) := by decide +kernel
theorem dX2_copyWorld_2 : decode cX2_copyWorld 2 = .ok (.getfield 32, 3) := by decide +kernel
theorem dX2_copyWorld_5 : decode cX2_copyWorld 5 = .ok (.putfield 32, 3) := by decide +kernel
theorem dX2_copyWorld_8 : decode cX2_copyWorld 8 = .ok (.iconst 0, 1) := by decide +kernel
theorem dX2_copyWorld_9 : decode cX2_copyWorld 9 = .ok (.istore_n 2, 1) := by decide +kernel
theorem dX2_copyWorld_10 : decode cX2_copyWorld 10 = .ok (.iload_n 2, 1) := by decide +kernel
theorem dX2_copyWorld_11 : decode cX2_copyWorld 11 = .ok (.aload_n 0, 1) := by decide +kernel
theorem dX2_copyWorld_12 : decode cX2_copyWorld 12 = .ok (.getfield 32, 3) := by decide +kernel
theorem dX2_copyWorld_15 : decode cX2_copyWorld 15 = .ok (.if_icmp .ge 24, 3) := by decide +kernel
theorem dX2_copyWorld_18 : decode cX2_copyWorld 18 = .ok (.aload_n 0, 1) := by decide +kernel
theorem dX2_copyWorld_19 : decode cX2_copyWorld 19 = .ok (.getfield 11, 3) := by decide +kernel
theorem dX2_copyWorld_22 : decode cX2_copyWorld 22 = .ok (.iload_n 2, 1) := by decide +kernel
theorem dX2_copyWorld_23 : decode cX2_copyWorld 23 = .ok (.aaload, 1) := by decide +kernel
theorem dX2_copyWorld_24 : decode cX2_copyWorld 24 = .ok (.aload_n 1, 1) := by decide +kernel
theorem dX2_copyWorld_25 : decode cX2_copyWorld 25 = .ok (.getfield 11, 3) := by decide +kernel
theorem dX2_copyWorld_28 : decode cX2_copyWorld 28 = .ok (.iload_n 2, 1) := by decide +kernel
theorem dX2_copyWorld_29 : decode cX2_copyWorld 29 = .ok (.aaload, 1) := by decide +kernel
theorem dX2_copyWorld_30 : decode cX2_copyWorld 30 = .ok (.invokevirtual 42, 3) := by decide +kernel
theorem dX2_copyWorld_33 : decode cX2_copyWorld 33 = .ok (.iinc 2 1, 3) := by decide +kernel
theorem dX2_copyWorld_36 : decode cX2_copyWorld 36 = .ok (.goto (-26), 3) := by decide +kernel
theorem dX2_copyWorld_39 : decode cX2_copyWorld 39 = .ok (.aload_n 0, 1) := by decide +kernel
theorem dX2_copyWorld_40 : decode cX2_copyWorld 40 = .ok (.getfield 25, 3) := by decide +kernel
theorem dX2_copyWorld_43 : decode cX2_copyWorld 43 = .ok (.aload_n 1, 1) := by decide +kernel
theorem dX2_copyWorld_44 : decode cX2_copyWorld 44 = .ok (.getfield 25, 3) := by decide +kernel
theorem dX2_copyWorld_47 : decode cX2_copyWorld 47 = .ok (.invokevirtual 46, 3) := by decide +kernel
theorem dX2_copyWorld_50 : decode cX2_copyWorld 50 = .ok (.aload_n 0, 1) := by decide +kernel
theorem dX2_copyWorld_51 : decode cX2_copyWorld 51 = .ok (.getfield 29, 3) := by decide +kernel
theorem dX2_copyWorld_54 : decode cX2_copyWorld 54 = .ok (.aload_n 1, 1) := by decide +kernel
theorem dX2_copyWorld_55 : decode cX2_copyWorld 55 = .ok (.getfield 29, 3) := by decide +kernel
theorem dX2_copyWorld_58 : decode cX2_copyWorld 58 = .ok (.invokevirtual 46, 3) := by decide +kernel
theorem dX2_copyWorld_61 : decode cX2_copyWorld 61 = .ok (.return_, 1) := by decide +kernel
theorem dX2_isMachine_0 : decode cX2_isMachine 0 = .ok (.iload_n 1, 1) := by decide +kernel
theorem dX2_isMachine_1 : decode cX2_isMachine 1 = .ok (.ifCond .lt 15, 3) := by decide +kernel
theorem dX2_isMachine_4 : decode cX2_isMachine 4 = .ok (.iload_n 1, 1) := by decide +kernel
theorem dX2_isMachine_5 : decode cX2_isMachine 5 = .ok (.aload_n 0, 1) := by decide +kernel
theorem dX2_isMachine_6 : decode cX2_isMachine 6 = .ok (.getfield 32, 3) := by decide +kernel
theorem dX2_isMachine_9 : decode cX2_isMachine 9 = .ok (.if_icmp .ge 7, 3) := by decide +kernel
theorem dX2_isMachine_12 : decode cX2_isMachine 12 = .ok (.iconst 1, 1) := by decide +kernel
theorem dX2_isMachine_13 : decode cX2_isMachine 13 = .ok (.goto 4, 3) := by decide +kernel
theorem dX2_isMachine_16 : decode cX2_isMachine 16 = .ok (.iconst 0, 1) := by decide +kernel
theorem dX2_isMachine_17 : decode cX2_isMachine 17 = .ok (.ireturn, 1) := by decide +kernel
theorem dX2_take_0 : decode cX2_take 0 = .ok (.aload_n 1, 1) := by decide +kernel
theorem dX2_take_1 : decode cX2_take 1 = .ok (.iload_n 2, 1) := by decide +kernel
theorem dX2_take_2 : decode cX2_take 2 = .ok (.iload_n 3, 1) := by decide +kernel
theorem dX2_take_3 : decode cX2_take 3 = .ok (.iload 4, 2) := by decide +kernel
theorem dX2_take_5 : decode cX2_take 5 = .ok (.invokevirtual 50, 3) := by decide +kernel
theorem dX2_take_8 : decode cX2_take 8 = .ok (.aload_n 1, 1) := by decide +kernel
theorem dX2_take_9 : decode cX2_take 9 = .ok (.aload_n 1, 1) := by decide +kernel
theorem dX2_take_10 : decode cX2_take 10 = .ok (.getfield 54, 3) := by decide +kernel
theorem dX2_take_13 : decode cX2_take 13 = .ok (.iload_n 3, 1) := by decide +kernel
theorem dX2_take_14 : decode cX2_take 14 = .ok (.iload 4, 2) := by decide +kernel
theorem dX2_take_16 : decode cX2_take 16 = .ok (.invokestatic 57, 3) := by decide +kernel
theorem dX2_take_19 : decode cX2_take 19 = .ok (.putfield 54, 3) := by decide +kernel
theorem dX2_take_22 : decode cX2_take 22 = .ok (.aload_n 1, 1) := by decide +kernel
theorem dX2_take_23 : decode cX2_take 23 = .ok (.getfield 54, 3) := by decide +kernel
theorem dX2_take_26 : decode cX2_take 26 = .ok (.invokestatic 61, 3) := by decide +kernel
theorem dX2_take_29 : decode cX2_take 29 = .ok (.ifCond .eq 8, 3) := by decide +kernel
theorem dX2_take_32 : decode cX2_take 32 = .ok (.aload_n 0, 1) := by decide +kernel
theorem dX2_take_33 : decode cX2_take 33 = .ok (.aload_n 1, 1) := by decide +kernel
theorem dX2_take_34 : decode cX2_take 34 = .ok (.invokevirtual 65, 3) := by decide +kernel
theorem dX2_take_37 : decode cX2_take 37 = .ok (.return_, 1) := by decide +kernel
theorem dX2_send_0 : decode cX2_send 0 = .ok (.aload_n 1, 1) := by decide +kernel
theorem dX2_send_1 : decode cX2_send 1 = .ok (.getfield 68, 3) := by decide +kernel
theorem dX2_send_4 : decode cX2_send 4 = .ok (.aload_n 1, 1) := by decide +kernel
theorem dX2_send_5 : decode cX2_send 5 = .ok (.getfield 54, 3) := by decide +kernel
theorem dX2_send_8 : decode cX2_send 8 = .ok (.aload_n 0, 1) := by decide +kernel
theorem dX2_send_9 : decode cX2_send 9 = .ok (.getfield 32, 3) := by decide +kernel
theorem dX2_send_12 : decode cX2_send 12 = .ok (.invokestatic 71, 3) := by decide +kernel
theorem dX2_send_15 : decode cX2_send 15 = .ok (.istore_n 2, 1) := by decide +kernel
theorem dX2_send_16 : decode cX2_send 16 = .ok (.aload_n 1, 1) := by decide +kernel
theorem dX2_send_17 : decode cX2_send 17 = .ok (.getfield 54, 3) := by decide +kernel
theorem dX2_send_20 : decode cX2_send 20 = .ok (.invokestatic 74, 3) := by decide +kernel
theorem dX2_send_23 : decode cX2_send 23 = .ok (.istore_n 3, 1) := by decide +kernel
theorem dX2_send_24 : decode cX2_send 24 = .ok (.aload_n 1, 1) := by decide +kernel
theorem dX2_send_25 : decode cX2_send 25 = .ok (.getfield 78, 3) := by decide +kernel
theorem dX2_send_28 : decode cX2_send 28 = .ok (.ifCond .eq 16, 3) := by decide +kernel
theorem dX2_send_31 : decode cX2_send 31 = .ok (.iload_n 3, 1) := by decide +kernel
theorem dX2_send_32 : decode cX2_send 32 = .ok (.iconst 1, 1) := by decide +kernel
theorem dX2_send_33 : decode cX2_send 33 = .ok (.iadd, 1) := by decide +kernel
theorem dX2_send_34 : decode cX2_send 34 = .ok (.sipush 1000, 3) := by decide +kernel
theorem dX2_send_37 : decode cX2_send 37 = .ok (.irem, 1) := by decide +kernel
theorem dX2_send_38 : decode cX2_send 38 = .ok (.istore_n 3, 1) := by decide +kernel
theorem dX2_send_39 : decode cX2_send 39 = .ok (.aload_n 1, 1) := by decide +kernel
theorem dX2_send_40 : decode cX2_send 40 = .ok (.iconst 0, 1) := by decide +kernel
theorem dX2_send_41 : decode cX2_send 41 = .ok (.putfield 78, 3) := by decide +kernel
theorem dX2_send_44 : decode cX2_send 44 = .ok (.aload_n 1, 1) := by decide +kernel
theorem dX2_send_45 : decode cX2_send 45 = .ok (.getfield 82, 3) := by decide +kernel
theorem dX2_send_48 : decode cX2_send 48 = .ok (.getfield 85, 3) := by decide +kernel
theorem dX2_send_51 : decode cX2_send 51 = .ok (.istore 4, 2) := by decide +kernel
theorem dX2_send_53 : decode cX2_send 53 = .ok (.aload_n 1, 1) := by decide +kernel
theorem dX2_send_54 : decode cX2_send 54 = .ok (.iconst 2, 1) := by decide +kernel
theorem dX2_send_55 : decode cX2_send 55 = .ok (.iload_n 2, 1) := by decide +kernel
theorem dX2_send_56 : decode cX2_send 56 = .ok (.iload_n 3, 1) := by decide +kernel
theorem dX2_send_57 : decode cX2_send 57 = .ok (.invokevirtual 50, 3) := by decide +kernel
theorem dX2_send_60 : decode cX2_send 60 = .ok (.aload_n 0, 1) := by decide +kernel
theorem dX2_send_61 : decode cX2_send 61 = .ok (.getfield 25, 3) := by decide +kernel
theorem dX2_send_64 : decode cX2_send 64 = .ok (.invokevirtual 88, 3) := by decide +kernel
theorem dX2_send_67 : decode cX2_send 67 = .ok (.istore 5, 2) := by decide +kernel
theorem dX2_send_69 : decode cX2_send 69 = .ok (.aload_n 0, 1) := by decide +kernel
theorem dX2_send_70 : decode cX2_send 70 = .ok (.getfield 25, 3) := by decide +kernel
theorem dX2_send_73 : decode cX2_send 73 = .ok (.iload 5, 2) := by decide +kernel
theorem dX2_send_75 : decode cX2_send 75 = .ok (.iconst 0, 1) := by decide +kernel
theorem dX2_send_76 : decode cX2_send 76 = .ok (.aload_n 1, 1) := by decide +kernel
theorem dX2_send_77 : decode cX2_send 77 = .ok (.getfield 68, 3) := by decide +kernel
theorem dX2_send_80 : decode cX2_send 80 = .ok (.invokevirtual 92, 3) := by decide +kernel
theorem dX2_send_83 : decode cX2_send 83 = .ok (.aload_n 0, 1) := by decide +kernel
theorem dX2_send_84 : decode cX2_send 84 = .ok (.getfield 25, 3) := by decide +kernel
theorem dX2_send_87 : decode cX2_send 87 = .ok (.iload 5, 2) := by decide +kernel
theorem dX2_send_89 : decode cX2_send 89 = .ok (.iconst 1, 1) := by decide +kernel
theorem dX2_send_90 : decode cX2_send 90 = .ok (.iload 4, 2) := by decide +kernel
theorem dX2_send_92 : decode cX2_send 92 = .ok (.invokevirtual 92, 3) := by decide +kernel
theorem dX2_send_95 : decode cX2_send 95 = .ok (.aload_n 0, 1) := by decide +kernel
theorem dX2_send_96 : decode cX2_send 96 = .ok (.getfield 25, 3) := by decide +kernel
theorem dX2_send_99 : decode cX2_send 99 = .ok (.iload 5, 2) := by decide +kernel
theorem dX2_send_101 : decode cX2_send 101 = .ok (.iconst 2, 1) := by decide +kernel
theorem dX2_send_102 : decode cX2_send 102 = .ok (.aload_n 1, 1) := by decide +kernel
theorem dX2_send_103 : decode cX2_send 103 = .ok (.iload 4, 2) := by decide +kernel
theorem dX2_send_105 : decode cX2_send 105 = .ok (.iconst 1, 1) := by decide +kernel
theorem dX2_send_106 : decode cX2_send 106 = .ok (.iadd, 1) := by decide +kernel
theorem dX2_send_107 : decode cX2_send 107 = .ok (.invokevirtual 95, 3) := by decide +kernel
theorem dX2_send_110 : decode cX2_send 110 = .ok (.invokevirtual 92, 3) := by decide +kernel
theorem dX2_send_113 : decode cX2_send 113 = .ok (.aload_n 0, 1) := by decide +kernel
theorem dX2_send_114 : decode cX2_send 114 = .ok (.getfield 25, 3) := by decide +kernel
theorem dX2_send_117 : decode cX2_send 117 = .ok (.iload 5, 2) := by decide +kernel
theorem dX2_send_119 : decode cX2_send 119 = .ok (.iconst 3, 1) := by decide +kernel
theorem dX2_send_120 : decode cX2_send 120 = .ok (.iload_n 2, 1) := by decide +kernel
theorem dX2_send_121 : decode cX2_send 121 = .ok (.invokevirtual 92, 3) := by decide +kernel
theorem dX2_send_124 : decode cX2_send 124 = .ok (.aload_n 0, 1) := by decide +kernel
theorem dX2_send_125 : decode cX2_send 125 = .ok (.getfield 25, 3) := by decide +kernel
theorem dX2_send_128 : decode cX2_send 128 = .ok (.iload 5, 2) := by decide +kernel
theorem dX2_send_130 : decode cX2_send 130 = .ok (.iconst 4, 1) := by decide +kernel
theorem dX2_send_131 : decode cX2_send 131 = .ok (.iload_n 3, 1) := by decide +kernel
theorem dX2_send_132 : decode cX2_send 132 = .ok (.invokevirtual 92, 3) := by decide +kernel
theorem dX2_send_135 : decode cX2_send 135 = .ok (.return_, 1) := by decide +kernel
theorem dX2_firstReceiver_0 : decode cX2_firstReceiver 0 = .ok (.aload_n 0, 1) := by decide +kernel
theorem dX2_firstReceiver_1 : decode cX2_firstReceiver 1 = .ok (.getfield 25, 3) := by decide +kernel
theorem dX2_firstReceiver_4 : decode cX2_firstReceiver 4 = .ok (.iconst 0, 1) := by decide +kernel
theorem dX2_firstReceiver_5 : decode cX2_firstReceiver 5 = .ok (.iconst 3, 1) := by decide +kernel
theorem dX2_firstReceiver_6 : decode cX2_firstReceiver 6 = .ok (.invokevirtual 98, 3) := by decide +kernel
theorem dX2_firstReceiver_9 : decode cX2_firstReceiver 9 = .ok (.ireturn, 1) := by decide +kernel
theorem dX2_canDeliver_0 : decode cX2_canDeliver 0 = .ok (.aload_n 0, 1) := by decide +kernel
theorem dX2_canDeliver_1 : decode cX2_canDeliver 1 = .ok (.invokevirtual 102, 3) := by decide +kernel
theorem dX2_canDeliver_4 : decode cX2_canDeliver 4 = .ok (.istore_n 1, 1) := by decide +kernel
theorem dX2_canDeliver_5 : decode cX2_canDeliver 5 = .ok (.aload_n 0, 1) := by decide +kernel
theorem dX2_canDeliver_6 : decode cX2_canDeliver 6 = .ok (.iload_n 1, 1) := by decide +kernel
theorem dX2_canDeliver_7 : decode cX2_canDeliver 7 = .ok (.invokevirtual 105, 3) := by decide +kernel
theorem dX2_canDeliver_10 : decode cX2_canDeliver 10 = .ok (.ifCond .eq 19, 3) := by decide +kernel
theorem dX2_canDeliver_13 : decode cX2_canDeliver 13 = .ok (.aload_n 0, 1) := by decide +kernel
theorem dX2_canDeliver_14 : decode cX2_canDeliver 14 = .ok (.aload_n 0, 1) := by decide +kernel
theorem dX2_canDeliver_15 : decode cX2_canDeliver 15 = .ok (.getfield 25, 3) := by decide +kernel
theorem dX2_canDeliver_18 : decode cX2_canDeliver 18 = .ok (.iconst 0, 1) := by decide +kernel
theorem dX2_canDeliver_19 : decode cX2_canDeliver 19 = .ok (.iconst 0, 1) := by decide +kernel
theorem dX2_canDeliver_20 : decode cX2_canDeliver 20 = .ok (.invokevirtual 98, 3) := by decide +kernel
theorem dX2_canDeliver_23 : decode cX2_canDeliver 23 = .ok (.invokevirtual 105, 3) := by decide +kernel
theorem dX2_canDeliver_26 : decode cX2_canDeliver 26 = .ok (.ifCond .ne 5, 3) := by decide +kernel
theorem dX2_canDeliver_29 : decode cX2_canDeliver 29 = .ok (.iconst 0, 1) := by decide +kernel
theorem dX2_canDeliver_30 : decode cX2_canDeliver 30 = .ok (.ireturn, 1) := by decide +kernel
theorem dX2_canDeliver_31 : decode cX2_canDeliver 31 = .ok (.aload_n 0, 1) := by decide +kernel
theorem dX2_canDeliver_32 : decode cX2_canDeliver 32 = .ok (.getfield 11, 3) := by decide +kernel
theorem dX2_canDeliver_35 : decode cX2_canDeliver 35 = .ok (.iload_n 1, 1) := by decide +kernel
theorem dX2_canDeliver_36 : decode cX2_canDeliver 36 = .ok (.aaload, 1) := by decide +kernel
theorem dX2_canDeliver_37 : decode cX2_canDeliver 37 = .ok (.getfield 108, 3) := by decide +kernel
theorem dX2_canDeliver_40 : decode cX2_canDeliver 40 = .ok (.ifCond .ne 24, 3) := by decide +kernel
theorem dX2_canDeliver_43 : decode cX2_canDeliver 43 = .ok (.aload_n 0, 1) := by decide +kernel
theorem dX2_canDeliver_44 : decode cX2_canDeliver 44 = .ok (.getfield 11, 3) := by decide +kernel
theorem dX2_canDeliver_47 : decode cX2_canDeliver 47 = .ok (.iload_n 1, 1) := by decide +kernel
theorem dX2_canDeliver_48 : decode cX2_canDeliver 48 = .ok (.aaload, 1) := by decide +kernel
theorem dX2_canDeliver_49 : decode cX2_canDeliver 49 = .ok (.aload_n 0, 1) := by decide +kernel
theorem dX2_canDeliver_50 : decode cX2_canDeliver 50 = .ok (.getfield 25, 3) := by decide +kernel
theorem dX2_canDeliver_53 : decode cX2_canDeliver 53 = .ok (.getfield 85, 3) := by decide +kernel
theorem dX2_canDeliver_56 : decode cX2_canDeliver 56 = .ok (.iconst 1, 1) := by decide +kernel
theorem dX2_canDeliver_57 : decode cX2_canDeliver 57 = .ok (.isub, 1) := by decide +kernel
theorem dX2_canDeliver_58 : decode cX2_canDeliver 58 = .ok (.invokevirtual 111, 3) := by decide +kernel
theorem dX2_canDeliver_61 : decode cX2_canDeliver 61 = .ok (.ifCond .eq 7, 3) := by decide +kernel
theorem dX2_canDeliver_64 : decode cX2_canDeliver 64 = .ok (.iconst 1, 1) := by decide +kernel
theorem dX2_canDeliver_65 : decode cX2_canDeliver 65 = .ok (.goto 4, 3) := by decide +kernel
theorem dX2_canDeliver_68 : decode cX2_canDeliver 68 = .ok (.iconst 0, 1) := by decide +kernel
theorem dX2_canDeliver_69 : decode cX2_canDeliver 69 = .ok (.ireturn, 1) := by decide +kernel
theorem dX2_deliverFirst_0 : decode cX2_deliverFirst 0 = .ok (.aload_n 0, 1) := by decide +kernel
theorem dX2_deliverFirst_1 : decode cX2_deliverFirst 1 = .ok (.getfield 11, 3) := by decide +kernel
theorem dX2_deliverFirst_4 : decode cX2_deliverFirst 4 = .ok (.aload_n 0, 1) := by decide +kernel
theorem dX2_deliverFirst_5 : decode cX2_deliverFirst 5 = .ok (.getfield 25, 3) := by decide +kernel
theorem dX2_deliverFirst_8 : decode cX2_deliverFirst 8 = .ok (.iconst 0, 1) := by decide +kernel
theorem dX2_deliverFirst_9 : decode cX2_deliverFirst 9 = .ok (.iconst 3, 1) := by decide +kernel
theorem dX2_deliverFirst_10 : decode cX2_deliverFirst 10 = .ok (.invokevirtual 98, 3) := by decide +kernel
theorem dX2_deliverFirst_13 : decode cX2_deliverFirst 13 = .ok (.aaload, 1) := by decide +kernel
theorem dX2_deliverFirst_14 : decode cX2_deliverFirst 14 = .ok (.astore_n 1, 1) := by decide +kernel
theorem dX2_deliverFirst_15 : decode cX2_deliverFirst 15 = .ok (.aload_n 1, 1) := by decide +kernel
theorem dX2_deliverFirst_16 : decode cX2_deliverFirst 16 = .ok (.getfield 108, 3) := by decide +kernel
theorem dX2_deliverFirst_19 : decode cX2_deliverFirst 19 = .ok (.ifCond .eq 23, 3) := by decide +kernel
theorem dX2_deliverFirst_22 : decode cX2_deliverFirst 22 = .ok (.aload_n 1, 1) := by decide +kernel
theorem dX2_deliverFirst_23 : decode cX2_deliverFirst 23 = .ok (.getfield 114, 3) := by decide +kernel
theorem dX2_deliverFirst_26 : decode cX2_deliverFirst 26 = .ok (.aload_n 0, 1) := by decide +kernel
theorem dX2_deliverFirst_27 : decode cX2_deliverFirst 27 = .ok (.getfield 25, 3) := by decide +kernel
theorem dX2_deliverFirst_30 : decode cX2_deliverFirst 30 = .ok (.iconst 0, 1) := by decide +kernel
theorem dX2_deliverFirst_31 : decode cX2_deliverFirst 31 = .ok (.invokevirtual 117, 3) := by decide +kernel
theorem dX2_deliverFirst_34 : decode cX2_deliverFirst 34 = .ok (.aload_n 0, 1) := by decide +kernel
theorem dX2_deliverFirst_35 : decode cX2_deliverFirst 35 = .ok (.getfield 25, 3) := by decide +kernel
theorem dX2_deliverFirst_38 : decode cX2_deliverFirst 38 = .ok (.invokevirtual 121, 3) := by decide +kernel
theorem dX2_deliverFirst_41 : decode cX2_deliverFirst 41 = .ok (.return_, 1) := by decide +kernel
theorem dX2_deliverFirst_42 : decode cX2_deliverFirst 42 = .ok (.aload_n 0, 1) := by decide +kernel
theorem dX2_deliverFirst_43 : decode cX2_deliverFirst 43 = .ok (.getfield 11, 3) := by decide +kernel
theorem dX2_deliverFirst_46 : decode cX2_deliverFirst 46 = .ok (.aload_n 0, 1) := by decide +kernel
theorem dX2_deliverFirst_47 : decode cX2_deliverFirst 47 = .ok (.getfield 25, 3) := by decide +kernel
theorem dX2_deliverFirst_50 : decode cX2_deliverFirst 50 = .ok (.iconst 0, 1) := by decide +kernel
theorem dX2_deliverFirst_51 : decode cX2_deliverFirst 51 = .ok (.iconst 0, 1) := by decide +kernel
theorem dX2_deliverFirst_52 : decode cX2_deliverFirst 52 = .ok (.invokevirtual 98, 3) := by decide +kernel
theorem dX2_deliverFirst_55 : decode cX2_deliverFirst 55 = .ok (.aaload, 1) := by decide +kernel
theorem dX2_deliverFirst_56 : decode cX2_deliverFirst 56 = .ok (.astore_n 2, 1) := by decide +kernel
theorem dX2_deliverFirst_57 : decode cX2_deliverFirst 57 = .ok (.aload_n 0, 1) := by decide +kernel
theorem dX2_deliverFirst_58 : decode cX2_deliverFirst 58 = .ok (.getfield 25, 3) := by decide +kernel
theorem dX2_deliverFirst_61 : decode cX2_deliverFirst 61 = .ok (.iconst 0, 1) := by decide +kernel
theorem dX2_deliverFirst_62 : decode cX2_deliverFirst 62 = .ok (.iconst 4, 1) := by decide +kernel
theorem dX2_deliverFirst_63 : decode cX2_deliverFirst 63 = .ok (.invokevirtual 98, 3) := by decide +kernel
theorem dX2_deliverFirst_66 : decode cX2_deliverFirst 66 = .ok (.istore_n 3, 1) := by decide +kernel
theorem dX2_deliverFirst_67 : decode cX2_deliverFirst 67 = .ok (.aload_n 1, 1) := by decide +kernel
theorem dX2_deliverFirst_68 : decode cX2_deliverFirst 68 = .ok (.aload_n 2, 1) := by decide +kernel
theorem dX2_deliverFirst_69 : decode cX2_deliverFirst 69 = .ok (.getfield 68, 3) := by decide +kernel
theorem dX2_deliverFirst_72 : decode cX2_deliverFirst 72 = .ok (.aload_n 0, 1) := by decide +kernel
theorem dX2_deliverFirst_73 : decode cX2_deliverFirst 73 = .ok (.getfield 25, 3) := by decide +kernel
theorem dX2_deliverFirst_76 : decode cX2_deliverFirst 76 = .ok (.iconst 0, 1) := by decide +kernel
theorem dX2_deliverFirst_77 : decode cX2_deliverFirst 77 = .ok (.iconst 1, 1) := by decide +kernel
theorem dX2_deliverFirst_78 : decode cX2_deliverFirst 78 = .ok (.invokevirtual 98, 3) := by decide +kernel
theorem dX2_deliverFirst_81 : decode cX2_deliverFirst 81 = .ok (.aload_n 0, 1) := by decide +kernel
theorem dX2_deliverFirst_82 : decode cX2_deliverFirst 82 = .ok (.getfield 25, 3) := by decide +kernel
theorem dX2_deliverFirst_85 : decode cX2_deliverFirst 85 = .ok (.iconst 0, 1) := by decide +kernel
theorem dX2_deliverFirst_86 : decode cX2_deliverFirst 86 = .ok (.iconst 2, 1) := by decide +kernel
theorem dX2_deliverFirst_87 : decode cX2_deliverFirst 87 = .ok (.invokevirtual 98, 3) := by decide +kernel
theorem dX2_deliverFirst_90 : decode cX2_deliverFirst 90 = .ok (.invokevirtual 124, 3) := by decide +kernel
theorem dX2_deliverFirst_93 : decode cX2_deliverFirst 93 = .ok (.aload_n 0, 1) := by decide +kernel
theorem dX2_deliverFirst_94 : decode cX2_deliverFirst 94 = .ok (.getfield 25, 3) := by decide +kernel
theorem dX2_deliverFirst_97 : decode cX2_deliverFirst 97 = .ok (.invokevirtual 121, 3) := by decide +kernel
theorem dX2_deliverFirst_100 : decode cX2_deliverFirst 100 = .ok (.aload_n 1, 1) := by decide +kernel
theorem dX2_deliverFirst_101 : decode cX2_deliverFirst 101 = .ok (.getfield 82, 3) := by decide +kernel
theorem dX2_deliverFirst_104 : decode cX2_deliverFirst 104 = .ok (.getfield 85, 3) := by decide +kernel
theorem dX2_deliverFirst_107 : decode cX2_deliverFirst 107 = .ok (.istore 4, 2) := by decide +kernel
theorem dX2_deliverFirst_109 : decode cX2_deliverFirst 109 = .ok (.aload_n 0, 1) := by decide +kernel
theorem dX2_deliverFirst_110 : decode cX2_deliverFirst 110 = .ok (.aload_n 1, 1) := by decide +kernel
theorem dX2_deliverFirst_111 : decode cX2_deliverFirst 111 = .ok (.iconst 1, 1) := by decide +kernel
theorem dX2_deliverFirst_112 : decode cX2_deliverFirst 112 = .ok (.aload_n 2, 1) := by decide +kernel
theorem dX2_deliverFirst_113 : decode cX2_deliverFirst 113 = .ok (.getfield 68, 3) := by decide +kernel
theorem dX2_deliverFirst_116 : decode cX2_deliverFirst 116 = .ok (.iload_n 3, 1) := by decide +kernel
theorem dX2_deliverFirst_117 : decode cX2_deliverFirst 117 = .ok (.invokevirtual 127, 3) := by decide +kernel
theorem dX2_deliverFirst_120 : decode cX2_deliverFirst 120 = .ok (.aload_n 2, 1) := by decide +kernel
theorem dX2_deliverFirst_121 : decode cX2_deliverFirst 121 = .ok (.aload_n 1, 1) := by decide +kernel
theorem dX2_deliverFirst_122 : decode cX2_deliverFirst 122 = .ok (.getfield 68, 3) := by decide +kernel
theorem dX2_deliverFirst_125 : decode cX2_deliverFirst 125 = .ok (.iload 4, 2) := by decide +kernel
theorem dX2_deliverFirst_127 : decode cX2_deliverFirst 127 = .ok (.aload_n 1, 1) := by decide +kernel
theorem dX2_deliverFirst_128 : decode cX2_deliverFirst 128 = .ok (.iload 4, 2) := by decide +kernel
theorem dX2_deliverFirst_130 : decode cX2_deliverFirst 130 = .ok (.iconst 1, 1) := by decide +kernel
theorem dX2_deliverFirst_131 : decode cX2_deliverFirst 131 = .ok (.iadd, 1) := by decide +kernel
theorem dX2_deliverFirst_132 : decode cX2_deliverFirst 132 = .ok (.invokevirtual 95, 3) := by decide +kernel
theorem dX2_deliverFirst_135 : decode cX2_deliverFirst 135 = .ok (.invokevirtual 124, 3) := by decide +kernel
theorem dX2_deliverFirst_138 : decode cX2_deliverFirst 138 = .ok (.return_, 1) := by decide +kernel
theorem dX2_judgeByAll_0 : decode cX2_judgeByAll 0 = .ok (.iconst 0, 1) := by decide +kernel
theorem dX2_judgeByAll_1 : decode cX2_judgeByAll 1 = .ok (.istore_n 2, 1) := by decide +kernel
theorem dX2_judgeByAll_2 : decode cX2_judgeByAll 2 = .ok (.iconst 0, 1) := by decide +kernel
theorem dX2_judgeByAll_3 : decode cX2_judgeByAll 3 = .ok (.istore_n 3, 1) := by decide +kernel
theorem dX2_judgeByAll_4 : decode cX2_judgeByAll 4 = .ok (.iload_n 3, 1) := by decide +kernel
theorem dX2_judgeByAll_5 : decode cX2_judgeByAll 5 = .ok (.aload_n 0, 1) := by decide +kernel
theorem dX2_judgeByAll_6 : decode cX2_judgeByAll 6 = .ok (.getfield 32, 3) := by decide +kernel
theorem dX2_judgeByAll_9 : decode cX2_judgeByAll 9 = .ok (.if_icmp .ge 51, 3) := by decide +kernel
theorem dX2_judgeByAll_12 : decode cX2_judgeByAll 12 = .ok (.aload_n 1, 1) := by decide +kernel
theorem dX2_judgeByAll_13 : decode cX2_judgeByAll 13 = .ok (.iload_n 3, 1) := by decide +kernel
theorem dX2_judgeByAll_14 : decode cX2_judgeByAll 14 = .ok (.invokevirtual 131, 3) := by decide +kernel
theorem dX2_judgeByAll_17 : decode cX2_judgeByAll 17 = .ok (.ifCond .eq 37, 3) := by decide +kernel
theorem dX2_judgeByAll_20 : decode cX2_judgeByAll 20 = .ok (.aload_n 1, 1) := by decide +kernel
theorem dX2_judgeByAll_21 : decode cX2_judgeByAll 21 = .ok (.getfield 134, 3) := by decide +kernel
theorem dX2_judgeByAll_24 : decode cX2_judgeByAll 24 = .ok (.iload_n 3, 1) := by decide +kernel
theorem dX2_judgeByAll_25 : decode cX2_judgeByAll 25 = .ok (.iaload, 1) := by decide +kernel
theorem dX2_judgeByAll_26 : decode cX2_judgeByAll 26 = .ok (.istore 4, 2) := by decide +kernel
theorem dX2_judgeByAll_28 : decode cX2_judgeByAll 28 = .ok (.aload_n 1, 1) := by decide +kernel
theorem dX2_judgeByAll_29 : decode cX2_judgeByAll 29 = .ok (.getfield 134, 3) := by decide +kernel
theorem dX2_judgeByAll_32 : decode cX2_judgeByAll 32 = .ok (.iload_n 3, 1) := by decide +kernel
theorem dX2_judgeByAll_33 : decode cX2_judgeByAll 33 = .ok (.aload_n 0, 1) := by decide +kernel
theorem dX2_judgeByAll_34 : decode cX2_judgeByAll 34 = .ok (.iload_n 3, 1) := by decide +kernel
theorem dX2_judgeByAll_35 : decode cX2_judgeByAll 35 = .ok (.aload_n 1, 1) := by decide +kernel
theorem dX2_judgeByAll_36 : decode cX2_judgeByAll 36 = .ok (.invokevirtual 138, 3) := by decide +kernel
theorem dX2_judgeByAll_39 : decode cX2_judgeByAll 39 = .ok (.iastore, 1) := by decide +kernel
theorem dX2_judgeByAll_40 : decode cX2_judgeByAll 40 = .ok (.aload_n 1, 1) := by decide +kernel
theorem dX2_judgeByAll_41 : decode cX2_judgeByAll 41 = .ok (.getfield 134, 3) := by decide +kernel
theorem dX2_judgeByAll_44 : decode cX2_judgeByAll 44 = .ok (.iload_n 3, 1) := by decide +kernel
theorem dX2_judgeByAll_45 : decode cX2_judgeByAll 45 = .ok (.iaload, 1) := by decide +kernel
theorem dX2_judgeByAll_46 : decode cX2_judgeByAll 46 = .ok (.iload 4, 2) := by decide +kernel
theorem dX2_judgeByAll_48 : decode cX2_judgeByAll 48 = .ok (.if_icmp .eq 6, 3) := by decide +kernel
theorem dX2_judgeByAll_51 : decode cX2_judgeByAll 51 = .ok (.iinc 2 1, 3) := by decide +kernel
theorem dX2_judgeByAll_54 : decode cX2_judgeByAll 54 = .ok (.iinc 3 1, 3) := by decide +kernel
theorem dX2_judgeByAll_57 : decode cX2_judgeByAll 57 = .ok (.goto (-53), 3) := by decide +kernel
theorem dX2_judgeByAll_60 : decode cX2_judgeByAll 60 = .ok (.iload_n 2, 1) := by decide +kernel
theorem dX2_judgeByAll_61 : decode cX2_judgeByAll 61 = .ok (.ireturn, 1) := by decide +kernel
theorem dX2_judge_0 : decode cX2_judge 0 = .ok (.aload_n 2, 1) := by decide +kernel
theorem dX2_judge_1 : decode cX2_judge 1 = .ok (.getfield 134, 3) := by decide +kernel
theorem dX2_judge_4 : decode cX2_judge 4 = .ok (.iload_n 1, 1) := by decide +kernel
theorem dX2_judge_5 : decode cX2_judge 5 = .ok (.iaload, 1) := by decide +kernel
theorem dX2_judge_6 : decode cX2_judge 6 = .ok (.iconst 2, 1) := by decide +kernel
theorem dX2_judge_7 : decode cX2_judge 7 = .ok (.if_icmp .ne 5, 3) := by decide +kernel
theorem dX2_judge_10 : decode cX2_judge 10 = .ok (.iconst 2, 1) := by decide +kernel
theorem dX2_judge_11 : decode cX2_judge 11 = .ok (.ireturn, 1) := by decide +kernel
theorem dX2_judge_12 : decode cX2_judge 12 = .ok (.aload_n 2, 1) := by decide +kernel
theorem dX2_judge_13 : decode cX2_judge 13 = .ok (.getfield 108, 3) := by decide +kernel
theorem dX2_judge_16 : decode cX2_judge 16 = .ok (.ifCond .eq 5, 3) := by decide +kernel
theorem dX2_judge_19 : decode cX2_judge 19 = .ok (.iconst 1, 1) := by decide +kernel
theorem dX2_judge_20 : decode cX2_judge 20 = .ok (.ireturn, 1) := by decide +kernel
theorem dX2_judge_21 : decode cX2_judge 21 = .ok (.aload_n 0, 1) := by decide +kernel
theorem dX2_judge_22 : decode cX2_judge 22 = .ok (.aload_n 2, 1) := by decide +kernel
theorem dX2_judge_23 : decode cX2_judge 23 = .ok (.invokevirtual 142, 3) := by decide +kernel
theorem dX2_judge_26 : decode cX2_judge 26 = .ok (.istore_n 3, 1) := by decide +kernel
theorem dX2_judge_27 : decode cX2_judge 27 = .ok (.iload_n 3, 1) := by decide +kernel
theorem dX2_judge_28 : decode cX2_judge 28 = .ok (.iconst (-1), 1) := by decide +kernel
theorem dX2_judge_29 : decode cX2_judge 29 = .ok (.if_icmp .eq 16, 3) := by decide +kernel
theorem dX2_judge_32 : decode cX2_judge 32 = .ok (.aload_n 0, 1) := by decide +kernel
theorem dX2_judge_33 : decode cX2_judge 33 = .ok (.iconst 0, 1) := by decide +kernel
theorem dX2_judge_34 : decode cX2_judge 34 = .ok (.aload_n 2, 1) := by decide +kernel
theorem dX2_judge_35 : decode cX2_judge 35 = .ok (.getfield 68, 3) := by decide +kernel
theorem dX2_judge_38 : decode cX2_judge 38 = .ok (.iload_n 1, 1) := by decide +kernel
theorem dX2_judge_39 : decode cX2_judge 39 = .ok (.iload_n 3, 1) := by decide +kernel
theorem dX2_judge_40 : decode cX2_judge 40 = .ok (.invokevirtual 146, 3) := by decide +kernel
theorem dX2_judge_43 : decode cX2_judge 43 = .ok (.iconst 2, 1) := by decide +kernel
theorem dX2_judge_44 : decode cX2_judge 44 = .ok (.ireturn, 1) := by decide +kernel
theorem dX2_judge_45 : decode cX2_judge 45 = .ok (.aload_n 2, 1) := by decide +kernel
theorem dX2_judge_46 : decode cX2_judge 46 = .ok (.aload_n 0, 1) := by decide +kernel
theorem dX2_judge_47 : decode cX2_judge 47 = .ok (.getfield 32, 3) := by decide +kernel
theorem dX2_judge_50 : decode cX2_judge 50 = .ok (.invokevirtual 150, 3) := by decide +kernel
theorem dX2_judge_53 : decode cX2_judge 53 = .ok (.istore_n 3, 1) := by decide +kernel
theorem dX2_judge_54 : decode cX2_judge 54 = .ok (.iload_n 3, 1) := by decide +kernel
theorem dX2_judge_55 : decode cX2_judge 55 = .ok (.iconst (-1), 1) := by decide +kernel
theorem dX2_judge_56 : decode cX2_judge 56 = .ok (.if_icmp .eq 16, 3) := by decide +kernel
theorem dX2_judge_59 : decode cX2_judge 59 = .ok (.aload_n 0, 1) := by decide +kernel
theorem dX2_judge_60 : decode cX2_judge 60 = .ok (.iconst 1, 1) := by decide +kernel
theorem dX2_judge_61 : decode cX2_judge 61 = .ok (.aload_n 2, 1) := by decide +kernel
theorem dX2_judge_62 : decode cX2_judge 62 = .ok (.getfield 68, 3) := by decide +kernel
theorem dX2_judge_65 : decode cX2_judge 65 = .ok (.iload_n 1, 1) := by decide +kernel
theorem dX2_judge_66 : decode cX2_judge 66 = .ok (.iload_n 3, 1) := by decide +kernel
theorem dX2_judge_67 : decode cX2_judge 67 = .ok (.invokevirtual 146, 3) := by decide +kernel
theorem dX2_judge_70 : decode cX2_judge 70 = .ok (.iconst 2, 1) := by decide +kernel
theorem dX2_judge_71 : decode cX2_judge 71 = .ok (.ireturn, 1) := by decide +kernel
theorem dX2_judge_72 : decode cX2_judge 72 = .ok (.aload_n 2, 1) := by decide +kernel
theorem dX2_judge_73 : decode cX2_judge 73 = .ok (.getfield 114, 3) := by decide +kernel
theorem dX2_judge_76 : decode cX2_judge 76 = .ok (.getfield 85, 3) := by decide +kernel
theorem dX2_judge_79 : decode cX2_judge 79 = .ok (.ifCond .le 7, 3) := by decide +kernel
theorem dX2_judge_82 : decode cX2_judge 82 = .ok (.iconst 1, 1) := by decide +kernel
theorem dX2_judge_83 : decode cX2_judge 83 = .ok (.goto 4, 3) := by decide +kernel
theorem dX2_judge_86 : decode cX2_judge 86 = .ok (.iconst 0, 1) := by decide +kernel
theorem dX2_judge_87 : decode cX2_judge 87 = .ok (.ireturn, 1) := by decide +kernel
theorem dX2_beliedEntry_0 : decode cX2_beliedEntry 0 = .ok (.iconst 0, 1) := by decide +kernel
theorem dX2_beliedEntry_1 : decode cX2_beliedEntry 1 = .ok (.istore_n 2, 1) := by decide +kernel
theorem dX2_beliedEntry_2 : decode cX2_beliedEntry 2 = .ok (.iload_n 2, 1) := by decide +kernel
theorem dX2_beliedEntry_3 : decode cX2_beliedEntry 3 = .ok (.aload_n 0, 1) := by decide +kernel
theorem dX2_beliedEntry_4 : decode cX2_beliedEntry 4 = .ok (.getfield 32, 3) := by decide +kernel
theorem dX2_beliedEntry_7 : decode cX2_beliedEntry 7 = .ok (.if_icmp .ge 39, 3) := by decide +kernel
theorem dX2_beliedEntry_10 : decode cX2_beliedEntry 10 = .ok (.aload_n 0, 1) := by decide +kernel
theorem dX2_beliedEntry_11 : decode cX2_beliedEntry 11 = .ok (.getfield 11, 3) := by decide +kernel
theorem dX2_beliedEntry_14 : decode cX2_beliedEntry 14 = .ok (.iload_n 2, 1) := by decide +kernel
theorem dX2_beliedEntry_15 : decode cX2_beliedEntry 15 = .ok (.aaload, 1) := by decide +kernel
theorem dX2_beliedEntry_16 : decode cX2_beliedEntry 16 = .ok (.getfield 108, 3) := by decide +kernel
theorem dX2_beliedEntry_19 : decode cX2_beliedEntry 19 = .ok (.ifCond .ne 21, 3) := by decide +kernel
theorem dX2_beliedEntry_22 : decode cX2_beliedEntry 22 = .ok (.aload_n 0, 1) := by decide +kernel
theorem dX2_beliedEntry_23 : decode cX2_beliedEntry 23 = .ok (.getfield 11, 3) := by decide +kernel
theorem dX2_beliedEntry_26 : decode cX2_beliedEntry 26 = .ok (.iload_n 2, 1) := by decide +kernel
theorem dX2_beliedEntry_27 : decode cX2_beliedEntry 27 = .ok (.aaload, 1) := by decide +kernel
theorem dX2_beliedEntry_28 : decode cX2_beliedEntry 28 = .ok (.aload_n 1, 1) := by decide +kernel
theorem dX2_beliedEntry_29 : decode cX2_beliedEntry 29 = .ok (.invokevirtual 153, 3) := by decide +kernel
theorem dX2_beliedEntry_32 : decode cX2_beliedEntry 32 = .ok (.istore_n 3, 1) := by decide +kernel
theorem dX2_beliedEntry_33 : decode cX2_beliedEntry 33 = .ok (.iload_n 3, 1) := by decide +kernel
theorem dX2_beliedEntry_34 : decode cX2_beliedEntry 34 = .ok (.iconst (-1), 1) := by decide +kernel
theorem dX2_beliedEntry_35 : decode cX2_beliedEntry 35 = .ok (.if_icmp .eq 5, 3) := by decide +kernel
theorem dX2_beliedEntry_38 : decode cX2_beliedEntry 38 = .ok (.iload_n 3, 1) := by decide +kernel
theorem dX2_beliedEntry_39 : decode cX2_beliedEntry 39 = .ok (.ireturn, 1) := by decide +kernel
theorem dX2_beliedEntry_40 : decode cX2_beliedEntry 40 = .ok (.iinc 2 1, 3) := by decide +kernel
theorem dX2_beliedEntry_43 : decode cX2_beliedEntry 43 = .ok (.goto (-41), 3) := by decide +kernel
theorem dX2_beliedEntry_46 : decode cX2_beliedEntry 46 = .ok (.iconst (-1), 1) := by decide +kernel
theorem dX2_beliedEntry_47 : decode cX2_beliedEntry 47 = .ok (.ireturn, 1) := by decide +kernel
theorem dX2_addEvidence_0 : decode cX2_addEvidence 0 = .ok (.aload_n 0, 1) := by decide +kernel
theorem dX2_addEvidence_1 : decode cX2_addEvidence 1 = .ok (.getfield 29, 3) := by decide +kernel
theorem dX2_addEvidence_4 : decode cX2_addEvidence 4 = .ok (.invokevirtual 88, 3) := by decide +kernel
theorem dX2_addEvidence_7 : decode cX2_addEvidence 7 = .ok (.istore 5, 2) := by decide +kernel
theorem dX2_addEvidence_9 : decode cX2_addEvidence 9 = .ok (.aload_n 0, 1) := by decide +kernel
theorem dX2_addEvidence_10 : decode cX2_addEvidence 10 = .ok (.getfield 29, 3) := by decide +kernel
theorem dX2_addEvidence_13 : decode cX2_addEvidence 13 = .ok (.iload 5, 2) := by decide +kernel
theorem dX2_addEvidence_15 : decode cX2_addEvidence 15 = .ok (.iconst 0, 1) := by decide +kernel
theorem dX2_addEvidence_16 : decode cX2_addEvidence 16 = .ok (.iload_n 1, 1) := by decide +kernel
theorem dX2_addEvidence_17 : decode cX2_addEvidence 17 = .ok (.invokevirtual 92, 3) := by decide +kernel
theorem dX2_addEvidence_20 : decode cX2_addEvidence 20 = .ok (.aload_n 0, 1) := by decide +kernel
theorem dX2_addEvidence_21 : decode cX2_addEvidence 21 = .ok (.getfield 29, 3) := by decide +kernel
theorem dX2_addEvidence_24 : decode cX2_addEvidence 24 = .ok (.iload 5, 2) := by decide +kernel
theorem dX2_addEvidence_26 : decode cX2_addEvidence 26 = .ok (.iconst 1, 1) := by decide +kernel
theorem dX2_addEvidence_27 : decode cX2_addEvidence 27 = .ok (.iload_n 2, 1) := by decide +kernel
theorem dX2_addEvidence_28 : decode cX2_addEvidence 28 = .ok (.invokevirtual 92, 3) := by decide +kernel
theorem dX2_addEvidence_31 : decode cX2_addEvidence 31 = .ok (.aload_n 0, 1) := by decide +kernel
theorem dX2_addEvidence_32 : decode cX2_addEvidence 32 = .ok (.getfield 29, 3) := by decide +kernel
theorem dX2_addEvidence_35 : decode cX2_addEvidence 35 = .ok (.iload 5, 2) := by decide +kernel
theorem dX2_addEvidence_37 : decode cX2_addEvidence 37 = .ok (.iconst 2, 1) := by decide +kernel
theorem dX2_addEvidence_38 : decode cX2_addEvidence 38 = .ok (.iload_n 3, 1) := by decide +kernel
theorem dX2_addEvidence_39 : decode cX2_addEvidence 39 = .ok (.invokevirtual 92, 3) := by decide +kernel
theorem dX2_addEvidence_42 : decode cX2_addEvidence 42 = .ok (.aload_n 0, 1) := by decide +kernel
theorem dX2_addEvidence_43 : decode cX2_addEvidence 43 = .ok (.getfield 29, 3) := by decide +kernel
theorem dX2_addEvidence_46 : decode cX2_addEvidence 46 = .ok (.iload 5, 2) := by decide +kernel
theorem dX2_addEvidence_48 : decode cX2_addEvidence 48 = .ok (.iconst 3, 1) := by decide +kernel
theorem dX2_addEvidence_49 : decode cX2_addEvidence 49 = .ok (.iload 4, 2) := by decide +kernel
theorem dX2_addEvidence_51 : decode cX2_addEvidence 51 = .ok (.invokevirtual 92, 3) := by decide +kernel
theorem dX2_addEvidence_54 : decode cX2_addEvidence 54 = .ok (.return_, 1) := by decide +kernel
theorem dX2_someWitnessSays_0 : decode cX2_someWitnessSays 0 = .ok (.iconst 0, 1) := by decide +kernel
theorem dX2_someWitnessSays_1 : decode cX2_someWitnessSays 1 = .ok (.istore_n 3, 1) := by decide +kernel
theorem dX2_someWitnessSays_2 : decode cX2_someWitnessSays 2 = .ok (.iload_n 3, 1) := by decide +kernel
theorem dX2_someWitnessSays_3 : decode cX2_someWitnessSays 3 = .ok (.aload_n 0, 1) := by decide +kernel
theorem dX2_someWitnessSays_4 : decode cX2_someWitnessSays 4 = .ok (.getfield 32, 3) := by decide +kernel
theorem dX2_someWitnessSays_7 : decode cX2_someWitnessSays 7 = .ok (.if_icmp .ge 29, 3) := by decide +kernel
theorem dX2_someWitnessSays_10 : decode cX2_someWitnessSays 10 = .ok (.aload_n 1, 1) := by decide +kernel
theorem dX2_someWitnessSays_11 : decode cX2_someWitnessSays 11 = .ok (.iload_n 3, 1) := by decide +kernel
theorem dX2_someWitnessSays_12 : decode cX2_someWitnessSays 12 = .ok (.invokevirtual 131, 3) := by decide +kernel
theorem dX2_someWitnessSays_15 : decode cX2_someWitnessSays 15 = .ok (.ifCond .eq 15, 3) := by decide +kernel
theorem dX2_someWitnessSays_18 : decode cX2_someWitnessSays 18 = .ok (.aload_n 1, 1) := by decide +kernel
theorem dX2_someWitnessSays_19 : decode cX2_someWitnessSays 19 = .ok (.getfield 134, 3) := by decide +kernel
theorem dX2_someWitnessSays_22 : decode cX2_someWitnessSays 22 = .ok (.iload_n 3, 1) := by decide +kernel
theorem dX2_someWitnessSays_23 : decode cX2_someWitnessSays 23 = .ok (.iaload, 1) := by decide +kernel
theorem dX2_someWitnessSays_24 : decode cX2_someWitnessSays 24 = .ok (.iload_n 2, 1) := by decide +kernel
theorem dX2_someWitnessSays_25 : decode cX2_someWitnessSays 25 = .ok (.if_icmp .ne 5, 3) := by decide +kernel
theorem dX2_someWitnessSays_28 : decode cX2_someWitnessSays 28 = .ok (.iconst 1, 1) := by decide +kernel
theorem dX2_someWitnessSays_29 : decode cX2_someWitnessSays 29 = .ok (.ireturn, 1) := by decide +kernel
theorem dX2_someWitnessSays_30 : decode cX2_someWitnessSays 30 = .ok (.iinc 3 1, 3) := by decide +kernel
theorem dX2_someWitnessSays_33 : decode cX2_someWitnessSays 33 = .ok (.goto (-31), 3) := by decide +kernel
theorem dX2_someWitnessSays_36 : decode cX2_someWitnessSays 36 = .ok (.iconst 0, 1) := by decide +kernel
theorem dX2_someWitnessSays_37 : decode cX2_someWitnessSays 37 = .ok (.ireturn, 1) := by decide +kernel
