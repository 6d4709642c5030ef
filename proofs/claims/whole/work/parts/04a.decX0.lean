theorem dX0_init_0 : decode cX0_init 0 = .ok (.aload_n 0, 1) := by decide +kernel
theorem dX0_init_1 : decode cX0_init 1 = .ok (.invokespecial 3, 3) := by decide +kernel
theorem dX0_init_4 : decode cX0_init 4 = .ok (.aload_n 0, 1) := by decide +kernel
theorem dX0_init_5 : decode cX0_init 5 = .ok (.iload_n 1, 1) := by decide +kernel
theorem dX0_init_6 : decode cX0_init 6 = .ok (.putfield 9, 3) := by decide +kernel
theorem dX0_init_9 : decode cX0_init 9 = .ok (.aload_n 0, 1) := by decide +kernel
theorem dX0_init_10 : decode cX0_init 10 = .ok (.bipush 6, 2) := by decide +kernel
theorem dX0_init_12 : decode cX0_init 12 = .ok (.newarray .int, 2) := by decide +kernel
theorem dX0_init_14 : decode cX0_init 14 = .ok (.putfield 15, 3) := by decide +kernel
theorem dX0_init_17 : decode cX0_init 17 = .ok (.aload_n 0, 1) := by decide +kernel
theorem dX0_init_18 : decode cX0_init 18 = .ok (.new 19, 3) := by decide +kernel
theorem dX0_init_21 : decode cX0_init 21 = .ok (.dup, 1) := by decide +kernel
theorem dX0_init_22 : decode cX0_init 22 = .ok (.iconst 4, 1) := by decide +kernel
theorem dX0_init_23 : decode cX0_init 23 = .ok (.bipush 40, 2) := by decide +kernel
theorem dX0_init_25 : decode cX0_init 25 = .ok (.invokespecial 21, 3) := by decide +kernel
theorem dX0_init_28 : decode cX0_init 28 = .ok (.putfield 24, 3) := by decide +kernel
theorem dX0_init_31 : decode cX0_init 31 = .ok (.aload_n 0, 1) := by decide +kernel
theorem dX0_init_32 : decode cX0_init 32 = .ok (.new 19, 3) := by decide +kernel
theorem dX0_init_35 : decode cX0_init 35 = .ok (.dup, 1) := by decide +kernel
theorem dX0_init_36 : decode cX0_init 36 = .ok (.iconst 3, 1) := by decide +kernel
theorem dX0_init_37 : decode cX0_init 37 = .ok (.bipush 60, 2) := by decide +kernel
theorem dX0_init_39 : decode cX0_init 39 = .ok (.invokespecial 21, 3) := by decide +kernel
theorem dX0_init_42 : decode cX0_init 42 = .ok (.putfield 28, 3) := by decide +kernel
theorem dX0_init_45 : decode cX0_init 45 = .ok (.aload_n 0, 1) := by decide +kernel
theorem dX0_init_46 : decode cX0_init 46 = .ok (.new 19, 3) := by decide +kernel
theorem dX0_init_49 : decode cX0_init 49 = .ok (.dup, 1) := by decide +kernel
theorem dX0_init_50 : decode cX0_init 50 = .ok (.iconst 5, 1) := by decide +kernel
theorem dX0_init_51 : decode cX0_init 51 = .ok (.bipush 40, 2) := by decide +kernel
theorem dX0_init_53 : decode cX0_init 53 = .ok (.invokespecial 21, 3) := by decide +kernel
theorem dX0_init_56 : decode cX0_init 56 = .ok (.putfield 31, 3) := by decide +kernel
theorem dX0_init_59 : decode cX0_init 59 = .ok (.return_, 1) := by decide +kernel
theorem dX0_start_0 : decode cX0_start 0 = .ok (.aload_n 0, 1) := by decide +kernel
theorem dX0_start_1 : decode cX0_start 1 = .ok (.aload_n 0, 1) := by decide +kernel
theorem dX0_start_2 : decode cX0_start 2 = .ok (.getfield 9, 3) := by decide +kernel
theorem dX0_start_5 : decode cX0_start 5 = .ok (.putfield 34, 3) := by decide +kernel
theorem dX0_start_8 : decode cX0_start 8 = .ok (.aload_n 0, 1) := by decide +kernel
theorem dX0_start_9 : decode cX0_start 9 = .ok (.iconst 0, 1) := by decide +kernel
theorem dX0_start_10 : decode cX0_start 10 = .ok (.putfield 37, 3) := by decide +kernel
theorem dX0_start_13 : decode cX0_start 13 = .ok (.aload_n 0, 1) := by decide +kernel
theorem dX0_start_14 : decode cX0_start 14 = .ok (.iconst 0, 1) := by decide +kernel
theorem dX0_start_15 : decode cX0_start 15 = .ok (.putfield 41, 3) := by decide +kernel
theorem dX0_start_18 : decode cX0_start 18 = .ok (.aload_n 0, 1) := by decide +kernel
theorem dX0_start_19 : decode cX0_start 19 = .ok (.aload_n 0, 1) := by decide +kernel
theorem dX0_start_20 : decode cX0_start 20 = .ok (.getfield 9, 3) := by decide +kernel
theorem dX0_start_23 : decode cX0_start 23 = .ok (.iload_n 1, 1) := by decide +kernel
theorem dX0_start_24 : decode cX0_start 24 = .ok (.invokestatic 44, 3) := by decide +kernel
theorem dX0_start_27 : decode cX0_start 27 = .ok (.putfield 48, 3) := by decide +kernel
theorem dX0_start_30 : decode cX0_start 30 = .ok (.iconst 0, 1) := by decide +kernel
theorem dX0_start_31 : decode cX0_start 31 = .ok (.istore_n 2, 1) := by decide +kernel
theorem dX0_start_32 : decode cX0_start 32 = .ok (.iload_n 2, 1) := by decide +kernel
theorem dX0_start_33 : decode cX0_start 33 = .ok (.bipush 6, 2) := by decide +kernel
theorem dX0_start_35 : decode cX0_start 35 = .ok (.if_icmp .ge 16, 3) := by decide +kernel
theorem dX0_start_38 : decode cX0_start 38 = .ok (.aload_n 0, 1) := by decide +kernel
theorem dX0_start_39 : decode cX0_start 39 = .ok (.getfield 15, 3) := by decide +kernel
theorem dX0_start_42 : decode cX0_start 42 = .ok (.iload_n 2, 1) := by decide +kernel
theorem dX0_start_43 : decode cX0_start 43 = .ok (.iconst 0, 1) := by decide +kernel
theorem dX0_start_44 : decode cX0_start 44 = .ok (.iastore, 1) := by decide +kernel
theorem dX0_start_45 : decode cX0_start 45 = .ok (.iinc 2 1, 3) := by decide +kernel
theorem dX0_start_48 : decode cX0_start 48 = .ok (.goto (-16), 3) := by decide +kernel
theorem dX0_start_51 : decode cX0_start 51 = .ok (.aload_n 0, 1) := by decide +kernel
theorem dX0_start_52 : decode cX0_start 52 = .ok (.getfield 24, 3) := by decide +kernel
theorem dX0_start_55 : decode cX0_start 55 = .ok (.iconst 0, 1) := by decide +kernel
theorem dX0_start_56 : decode cX0_start 56 = .ok (.invokevirtual 51, 3) := by decide +kernel
theorem dX0_start_59 : decode cX0_start 59 = .ok (.aload_n 0, 1) := by decide +kernel
theorem dX0_start_60 : decode cX0_start 60 = .ok (.getfield 28, 3) := by decide +kernel
theorem dX0_start_63 : decode cX0_start 63 = .ok (.iconst 0, 1) := by decide +kernel
theorem dX0_start_64 : decode cX0_start 64 = .ok (.invokevirtual 51, 3) := by decide +kernel
theorem dX0_start_67 : decode cX0_start 67 = .ok (.aload_n 0, 1) := by decide +kernel
theorem dX0_start_68 : decode cX0_start 68 = .ok (.getfield 31, 3) := by decide +kernel
theorem dX0_start_71 : decode cX0_start 71 = .ok (.iconst 0, 1) := by decide +kernel
theorem dX0_start_72 : decode cX0_start 72 = .ok (.invokevirtual 51, 3) := by decide +kernel
theorem dX0_start_75 : decode cX0_start 75 = .ok (.return_, 1) := by decide +kernel
theorem dX0_copyMachine_0 : decode cX0_copyMachine 0 = .ok (.aload_n 0, 1) := by decide +kernel
theorem dX0_copyMachine_1 : decode cX0_copyMachine 1 = .ok (.aload_n 1, 1) := by decide +kernel
theorem dX0_copyMachine_2 : decode cX0_copyMachine 2 = .ok (.getfield 34, 3) := by decide +kernel
theorem dX0_copyMachine_5 : decode cX0_copyMachine 5 = .ok (.putfield 34, 3) := by decide +kernel
theorem dX0_copyMachine_8 : decode cX0_copyMachine 8 = .ok (.aload_n 0, 1) := by decide +kernel
theorem dX0_copyMachine_9 : decode cX0_copyMachine 9 = .ok (.aload_n 1, 1) := by decide +kernel
theorem dX0_copyMachine_10 : decode cX0_copyMachine 10 = .ok (.getfield 37, 3) := by decide +kernel
theorem dX0_copyMachine_13 : decode cX0_copyMachine 13 = .ok (.putfield 37, 3) := by decide +kernel
theorem dX0_copyMachine_16 : decode cX0_copyMachine 16 = .ok (.aload_n 0, 1) := by decide +kernel
theorem dX0_copyMachine_17 : decode cX0_copyMachine 17 = .ok (.aload_n 1, 1) := by decide +kernel
theorem dX0_copyMachine_18 : decode cX0_copyMachine 18 = .ok (.getfield 41, 3) := by decide +kernel
theorem dX0_copyMachine_21 : decode cX0_copyMachine 21 = .ok (.putfield 41, 3) := by decide +kernel
theorem dX0_copyMachine_24 : decode cX0_copyMachine 24 = .ok (.aload_n 0, 1) := by decide +kernel
theorem dX0_copyMachine_25 : decode cX0_copyMachine 25 = .ok (.aload_n 1, 1) := by decide +kernel
theorem dX0_copyMachine_26 : decode cX0_copyMachine 26 = .ok (.getfield 48, 3) := by decide +kernel
theorem dX0_copyMachine_29 : decode cX0_copyMachine 29 = .ok (.putfield 48, 3) := by decide +kernel
theorem dX0_copyMachine_32 : decode cX0_copyMachine 32 = .ok (.aload_n 1, 1) := by decide +kernel
theorem dX0_copyMachine_33 : decode cX0_copyMachine 33 = .ok (.getfield 15, 3) := by decide +kernel
theorem dX0_copyMachine_36 : decode cX0_copyMachine 36 = .ok (.iconst 0, 1) := by decide +kernel
theorem dX0_copyMachine_37 : decode cX0_copyMachine 37 = .ok (.aload_n 0, 1) := by decide +kernel
theorem dX0_copyMachine_38 : decode cX0_copyMachine 38 = .ok (.getfield 15, 3) := by decide +kernel
theorem dX0_copyMachine_41 : decode cX0_copyMachine 41 = .ok (.iconst 0, 1) := by decide +kernel
theorem dX0_copyMachine_42 : decode cX0_copyMachine 42 = .ok (.bipush 6, 2) := by decide +kernel
theorem dX0_copyMachine_44 : decode cX0_copyMachine 44 = .ok (.invokestatic 55, 3) := by decide +kernel
theorem dX0_copyMachine_47 : decode cX0_copyMachine 47 = .ok (.aload_n 0, 1) := by decide +kernel
theorem dX0_copyMachine_48 : decode cX0_copyMachine 48 = .ok (.getfield 24, 3) := by decide +kernel
theorem dX0_copyMachine_51 : decode cX0_copyMachine 51 = .ok (.aload_n 1, 1) := by decide +kernel
theorem dX0_copyMachine_52 : decode cX0_copyMachine 52 = .ok (.getfield 24, 3) := by decide +kernel
theorem dX0_copyMachine_55 : decode cX0_copyMachine 55 = .ok (.invokevirtual 61, 3) := by decide +kernel
theorem dX0_copyMachine_58 : decode cX0_copyMachine 58 = .ok (.aload_n 0, 1) := by decide +kernel
theorem dX0_copyMachine_59 : decode cX0_copyMachine 59 = .ok (.getfield 28, 3) := by decide +kernel
theorem dX0_copyMachine_62 : decode cX0_copyMachine 62 = .ok (.aload_n 1, 1) := by decide +kernel
theorem dX0_copyMachine_63 : decode cX0_copyMachine 63 = .ok (.getfield 28, 3) := by decide +kernel
theorem dX0_copyMachine_66 : decode cX0_copyMachine 66 = .ok (.invokevirtual 61, 3) := by decide +kernel
theorem dX0_copyMachine_69 : decode cX0_copyMachine 69 = .ok (.aload_n 0, 1) := by decide +kernel
theorem dX0_copyMachine_70 : decode cX0_copyMachine 70 = .ok (.getfield 31, 3) := by decide +kernel
theorem dX0_copyMachine_73 : decode cX0_copyMachine 73 = .ok (.aload_n 1, 1) := by decide +kernel
theorem dX0_copyMachine_74 : decode cX0_copyMachine 74 = .ok (.getfield 31, 3) := by decide +kernel
theorem dX0_copyMachine_77 : decode cX0_copyMachine 77 = .ok (.invokevirtual 61, 3) := by decide +kernel
theorem dX0_copyMachine_80 : decode cX0_copyMachine 80 = .ok (.return_, 1) := by decide +kernel
theorem dX0_hasRoom_0 : decode cX0_hasRoom 0 = .ok (.aload_n 0, 1) := by decide +kernel
theorem dX0_hasRoom_1 : decode cX0_hasRoom 1 = .ok (.getfield 24, 3) := by decide +kernel
theorem dX0_hasRoom_4 : decode cX0_hasRoom 4 = .ok (.getfield 65, 3) := by decide +kernel
theorem dX0_hasRoom_7 : decode cX0_hasRoom 7 = .ok (.bipush 38, 2) := by decide +kernel
theorem dX0_hasRoom_9 : decode cX0_hasRoom 9 = .ok (.if_icmp .gt 13, 3) := by decide +kernel
theorem dX0_hasRoom_12 : decode cX0_hasRoom 12 = .ok (.iload_n 1, 1) := by decide +kernel
theorem dX0_hasRoom_13 : decode cX0_hasRoom 13 = .ok (.bipush 39, 2) := by decide +kernel
theorem dX0_hasRoom_15 : decode cX0_hasRoom 15 = .ok (.if_icmp .gt 7, 3) := by decide +kernel
theorem dX0_hasRoom_18 : decode cX0_hasRoom 18 = .ok (.iconst 1, 1) := by decide +kernel
theorem dX0_hasRoom_19 : decode cX0_hasRoom 19 = .ok (.goto 4, 3) := by decide +kernel
theorem dX0_hasRoom_22 : decode cX0_hasRoom 22 = .ok (.iconst 0, 1) := by decide +kernel
theorem dX0_hasRoom_23 : decode cX0_hasRoom 23 = .ok (.ireturn, 1) := by decide +kernel
theorem dX0_hasWitness_0 : decode cX0_hasWitness 0 = .ok (.aload_n 0, 1) := by decide +kernel
theorem dX0_hasWitness_1 : decode cX0_hasWitness 1 = .ok (.getfield 48, 3) := by decide +kernel
theorem dX0_hasWitness_4 : decode cX0_hasWitness 4 = .ok (.iconst 1, 1) := by decide +kernel
theorem dX0_hasWitness_5 : decode cX0_hasWitness 5 = .ok (.iload_n 1, 1) := by decide +kernel
theorem dX0_hasWitness_6 : decode cX0_hasWitness 6 = .ok (.ishl, 1) := by decide +kernel
theorem dX0_hasWitness_7 : decode cX0_hasWitness 7 = .ok (.iand, 1) := by decide +kernel
theorem dX0_hasWitness_8 : decode cX0_hasWitness 8 = .ok (.ifCond .eq 7, 3) := by decide +kernel
theorem dX0_hasWitness_11 : decode cX0_hasWitness 11 = .ok (.iconst 1, 1) := by decide +kernel
theorem dX0_hasWitness_12 : decode cX0_hasWitness 12 = .ok (.goto 4, 3) := by decide +kernel
theorem dX0_hasWitness_15 : decode cX0_hasWitness 15 = .ok (.iconst 0, 1) := by decide +kernel
theorem dX0_hasWitness_16 : decode cX0_hasWitness 16 = .ok (.ireturn, 1) := by decide +kernel
theorem dX0_chainAt_0 : decode cX0_chainAt 0 = .ok (.iload_n 1, 1) := by decide +kernel
theorem dX0_chainAt_1 : decode cX0_chainAt 1 = .ok (.ifCond .ne 7, 3) := by decide +kernel
theorem dX0_chainAt_4 : decode cX0_chainAt 4 = .ok (.iconst 1, 1) := by decide +kernel
theorem dX0_chainAt_5 : decode cX0_chainAt 5 = .ok (.goto 14, 3) := by decide +kernel
theorem dX0_chainAt_8 : decode cX0_chainAt 8 = .ok (.aload_n 0, 1) := by decide +kernel
theorem dX0_chainAt_9 : decode cX0_chainAt 9 = .ok (.getfield 24, 3) := by decide +kernel
theorem dX0_chainAt_12 : decode cX0_chainAt 12 = .ok (.iload_n 1, 1) := by decide +kernel
theorem dX0_chainAt_13 : decode cX0_chainAt 13 = .ok (.iconst 1, 1) := by decide +kernel
theorem dX0_chainAt_14 : decode cX0_chainAt 14 = .ok (.isub, 1) := by decide +kernel
theorem dX0_chainAt_15 : decode cX0_chainAt 15 = .ok (.iconst 3, 1) := by decide +kernel
theorem dX0_chainAt_16 : decode cX0_chainAt 16 = .ok (.invokevirtual 68, 3) := by decide +kernel
theorem dX0_chainAt_19 : decode cX0_chainAt 19 = .ok (.ireturn, 1) := by decide +kernel
theorem dX0_packedEntry_0 : decode cX0_packedEntry 0 = .ok (.ldc 71, 2) := by decide +kernel
theorem dX0_packedEntry_2 : decode cX0_packedEntry 2 = .ok (.aload_n 0, 1) := by decide +kernel
theorem dX0_packedEntry_3 : decode cX0_packedEntry 3 = .ok (.getfield 24, 3) := by decide +kernel
theorem dX0_packedEntry_6 : decode cX0_packedEntry 6 = .ok (.iload_n 1, 1) := by decide +kernel
theorem dX0_packedEntry_7 : decode cX0_packedEntry 7 = .ok (.iconst 0, 1) := by decide +kernel
theorem dX0_packedEntry_8 : decode cX0_packedEntry 8 = .ok (.invokevirtual 68, 3) := by decide +kernel
theorem dX0_packedEntry_11 : decode cX0_packedEntry 11 = .ok (.imul, 1) := by decide +kernel
theorem dX0_packedEntry_12 : decode cX0_packedEntry 12 = .ok (.sipush 10000, 3) := by decide +kernel
theorem dX0_packedEntry_15 : decode cX0_packedEntry 15 = .ok (.aload_n 0, 1) := by decide +kernel
theorem dX0_packedEntry_16 : decode cX0_packedEntry 16 = .ok (.getfield 24, 3) := by decide +kernel
theorem dX0_packedEntry_19 : decode cX0_packedEntry 19 = .ok (.iload_n 1, 1) := by decide +kernel
theorem dX0_packedEntry_20 : decode cX0_packedEntry 20 = .ok (.iconst 1, 1) := by decide +kernel
theorem dX0_packedEntry_21 : decode cX0_packedEntry 21 = .ok (.invokevirtual 68, 3) := by decide +kernel
theorem dX0_packedEntry_24 : decode cX0_packedEntry 24 = .ok (.iconst 1, 1) := by decide +kernel
theorem dX0_packedEntry_25 : decode cX0_packedEntry 25 = .ok (.iadd, 1) := by decide +kernel
theorem dX0_packedEntry_26 : decode cX0_packedEntry 26 = .ok (.imul, 1) := by decide +kernel
theorem dX0_packedEntry_27 : decode cX0_packedEntry 27 = .ok (.iadd, 1) := by decide +kernel
theorem dX0_packedEntry_28 : decode cX0_packedEntry 28 = .ok (.aload_n 0, 1) := by decide +kernel
theorem dX0_packedEntry_29 : decode cX0_packedEntry 29 = .ok (.getfield 24, 3) := by decide +kernel
theorem dX0_packedEntry_32 : decode cX0_packedEntry 32 = .ok (.iload_n 1, 1) := by decide +kernel
theorem dX0_packedEntry_33 : decode cX0_packedEntry 33 = .ok (.iconst 2, 1) := by decide +kernel
theorem dX0_packedEntry_34 : decode cX0_packedEntry 34 = .ok (.invokevirtual 68, 3) := by decide +kernel
theorem dX0_packedEntry_37 : decode cX0_packedEntry 37 = .ok (.iadd, 1) := by decide +kernel
theorem dX0_packedEntry_38 : decode cX0_packedEntry 38 = .ok (.ireturn, 1) := by decide +kernel
theorem dX0_append_0 : decode cX0_append 0 = .ok (.aload_n 0, 1) := by decide +kernel
theorem dX0_append_1 : decode cX0_append 1 = .ok (.getfield 24, 3) := by decide +kernel
theorem dX0_append_4 : decode cX0_append 4 = .ok (.invokevirtual 72, 3) := by decide +kernel
theorem dX0_append_7 : decode cX0_append 7 = .ok (.istore 4, 2) := by decide +kernel
theorem dX0_append_9 : decode cX0_append 9 = .ok (.aload_n 0, 1) := by decide +kernel
theorem dX0_append_10 : decode cX0_append 10 = .ok (.getfield 24, 3) := by decide +kernel
theorem dX0_append_13 : decode cX0_append 13 = .ok (.iload 4, 2) := by decide +kernel
theorem dX0_append_15 : decode cX0_append 15 = .ok (.iconst 0, 1) := by decide +kernel
theorem dX0_append_16 : decode cX0_append 16 = .ok (.iload_n 1, 1) := by decide +kernel
theorem dX0_append_17 : decode cX0_append 17 = .ok (.invokevirtual 76, 3) := by decide +kernel
theorem dX0_append_20 : decode cX0_append 20 = .ok (.aload_n 0, 1) := by decide +kernel
theorem dX0_append_21 : decode cX0_append 21 = .ok (.getfield 24, 3) := by decide +kernel
theorem dX0_append_24 : decode cX0_append 24 = .ok (.iload 4, 2) := by decide +kernel
theorem dX0_append_26 : decode cX0_append 26 = .ok (.iconst 1, 1) := by decide +kernel
theorem dX0_append_27 : decode cX0_append 27 = .ok (.iload_n 2, 1) := by decide +kernel
theorem dX0_append_28 : decode cX0_append 28 = .ok (.invokevirtual 76, 3) := by decide +kernel
theorem dX0_append_31 : decode cX0_append 31 = .ok (.aload_n 0, 1) := by decide +kernel
theorem dX0_append_32 : decode cX0_append 32 = .ok (.getfield 24, 3) := by decide +kernel
theorem dX0_append_35 : decode cX0_append 35 = .ok (.iload 4, 2) := by decide +kernel
theorem dX0_append_37 : decode cX0_append 37 = .ok (.iconst 2, 1) := by decide +kernel
theorem dX0_append_38 : decode cX0_append 38 = .ok (.iload_n 3, 1) := by decide +kernel
theorem dX0_append_39 : decode cX0_append 39 = .ok (.invokevirtual 76, 3) := by decide +kernel
theorem dX0_append_42 : decode cX0_append 42 = .ok (.aload_n 0, 1) := by decide +kernel
theorem dX0_append_43 : decode cX0_append 43 = .ok (.getfield 24, 3) := by decide +kernel
theorem dX0_append_46 : decode cX0_append 46 = .ok (.iload 4, 2) := by decide +kernel
theorem dX0_append_48 : decode cX0_append 48 = .ok (.iconst 3, 1) := by decide +kernel
theorem dX0_append_49 : decode cX0_append 49 = .ok (.aload_n 0, 1) := by decide +kernel
theorem dX0_append_50 : decode cX0_append 50 = .ok (.iload 4, 2) := by decide +kernel
theorem dX0_append_52 : decode cX0_append 52 = .ok (.invokevirtual 80, 3) := by decide +kernel
theorem dX0_append_55 : decode cX0_append 55 = .ok (.iload_n 1, 1) := by decide +kernel
theorem dX0_append_56 : decode cX0_append 56 = .ok (.iload_n 2, 1) := by decide +kernel
theorem dX0_append_57 : decode cX0_append 57 = .ok (.iload_n 3, 1) := by decide +kernel
theorem dX0_append_58 : decode cX0_append 58 = .ok (.invokestatic 84, 3) := by decide +kernel
theorem dX0_append_61 : decode cX0_append 61 = .ok (.invokevirtual 76, 3) := by decide +kernel
theorem dX0_append_64 : decode cX0_append 64 = .ok (.return_, 1) := by decide +kernel
theorem dX0_rechain_0 : decode cX0_rechain 0 = .ok (.iload_n 1, 1) := by decide +kernel
theorem dX0_rechain_1 : decode cX0_rechain 1 = .ok (.istore_n 2, 1) := by decide +kernel
theorem dX0_rechain_2 : decode cX0_rechain 2 = .ok (.iload_n 2, 1) := by decide +kernel
theorem dX0_rechain_3 : decode cX0_rechain 3 = .ok (.aload_n 0, 1) := by decide +kernel
theorem dX0_rechain_4 : decode cX0_rechain 4 = .ok (.getfield 24, 3) := by decide +kernel
theorem dX0_rechain_7 : decode cX0_rechain 7 = .ok (.getfield 65, 3) := by decide +kernel
theorem dX0_rechain_10 : decode cX0_rechain 10 = .ok (.if_icmp .ge 55, 3) := by decide +kernel
theorem dX0_rechain_13 : decode cX0_rechain 13 = .ok (.aload_n 0, 1) := by decide +kernel
theorem dX0_rechain_14 : decode cX0_rechain 14 = .ok (.iload_n 2, 1) := by decide +kernel
theorem dX0_rechain_15 : decode cX0_rechain 15 = .ok (.invokevirtual 80, 3) := by decide +kernel
theorem dX0_rechain_18 : decode cX0_rechain 18 = .ok (.aload_n 0, 1) := by decide +kernel
theorem dX0_rechain_19 : decode cX0_rechain 19 = .ok (.getfield 24, 3) := by decide +kernel
theorem dX0_rechain_22 : decode cX0_rechain 22 = .ok (.iload_n 2, 1) := by decide +kernel
theorem dX0_rechain_23 : decode cX0_rechain 23 = .ok (.iconst 0, 1) := by decide +kernel
theorem dX0_rechain_24 : decode cX0_rechain 24 = .ok (.invokevirtual 68, 3) := by decide +kernel
theorem dX0_rechain_27 : decode cX0_rechain 27 = .ok (.aload_n 0, 1) := by decide +kernel
theorem dX0_rechain_28 : decode cX0_rechain 28 = .ok (.getfield 24, 3) := by decide +kernel
theorem dX0_rechain_31 : decode cX0_rechain 31 = .ok (.iload_n 2, 1) := by decide +kernel
theorem dX0_rechain_32 : decode cX0_rechain 32 = .ok (.iconst 1, 1) := by decide +kernel
theorem dX0_rechain_33 : decode cX0_rechain 33 = .ok (.invokevirtual 68, 3) := by decide +kernel
theorem dX0_rechain_36 : decode cX0_rechain 36 = .ok (.aload_n 0, 1) := by decide +kernel
theorem dX0_rechain_37 : decode cX0_rechain 37 = .ok (.getfield 24, 3) := by decide +kernel
theorem dX0_rechain_40 : decode cX0_rechain 40 = .ok (.iload_n 2, 1) := by decide +kernel
theorem dX0_rechain_41 : decode cX0_rechain 41 = .ok (.iconst 2, 1) := by decide +kernel
theorem dX0_rechain_42 : decode cX0_rechain 42 = .ok (.invokevirtual 68, 3) := by decide +kernel
theorem dX0_rechain_45 : decode cX0_rechain 45 = .ok (.invokestatic 84, 3) := by decide +kernel
theorem dX0_rechain_48 : decode cX0_rechain 48 = .ok (.istore_n 3, 1) := by decide +kernel
theorem dX0_rechain_49 : decode cX0_rechain 49 = .ok (.aload_n 0, 1) := by decide +kernel
theorem dX0_rechain_50 : decode cX0_rechain 50 = .ok (.getfield 24, 3) := by decide +kernel
theorem dX0_rechain_53 : decode cX0_rechain 53 = .ok (.iload_n 2, 1) := by decide +kernel
theorem dX0_rechain_54 : decode cX0_rechain 54 = .ok (.iconst 3, 1) := by decide +kernel
theorem dX0_rechain_55 : decode cX0_rechain 55 = .ok (.iload_n 3, 1) := by decide +kernel
theorem dX0_rechain_56 : decode cX0_rechain 56 = .ok (.invokevirtual 76, 3) := by decide +kernel
theorem dX0_rechain_59 : decode cX0_rechain 59 = .ok (.iinc 2 1, 3) := by decide +kernel
theorem dX0_rechain_62 : decode cX0_rechain 62 = .ok (.goto (-60), 3) := by decide +kernel
theorem dX0_rechain_65 : decode cX0_rechain 65 = .ok (.return_, 1) := by decide +kernel
theorem dX0_hold_0 : decode cX0_hold 0 = .ok (.aload_n 0, 1) := by decide +kernel
theorem dX0_hold_1 : decode cX0_hold 1 = .ok (.getfield 28, 3) := by decide +kernel
theorem dX0_hold_4 : decode cX0_hold 4 = .ok (.getfield 65, 3) := by decide +kernel
theorem dX0_hold_7 : decode cX0_hold 7 = .ok (.bipush 60, 2) := by decide +kernel
theorem dX0_hold_9 : decode cX0_hold 9 = .ok (.if_icmp .lt 10, 3) := by decide +kernel
theorem dX0_hold_12 : decode cX0_hold 12 = .ok (.aload_n 0, 1) := by decide +kernel
theorem dX0_hold_13 : decode cX0_hold 13 = .ok (.getfield 28, 3) := by decide +kernel
theorem dX0_hold_16 : decode cX0_hold 16 = .ok (.invokevirtual 88, 3) := by decide +kernel
theorem dX0_hold_19 : decode cX0_hold 19 = .ok (.aload_n 0, 1) := by decide +kernel
theorem dX0_hold_20 : decode cX0_hold 20 = .ok (.getfield 28, 3) := by decide +kernel
theorem dX0_hold_23 : decode cX0_hold 23 = .ok (.invokevirtual 72, 3) := by decide +kernel
theorem dX0_hold_26 : decode cX0_hold 26 = .ok (.istore 4, 2) := by decide +kernel
theorem dX0_hold_28 : decode cX0_hold 28 = .ok (.aload_n 0, 1) := by decide +kernel
theorem dX0_hold_29 : decode cX0_hold 29 = .ok (.getfield 28, 3) := by decide +kernel
theorem dX0_hold_32 : decode cX0_hold 32 = .ok (.iload 4, 2) := by decide +kernel
theorem dX0_hold_34 : decode cX0_hold 34 = .ok (.iconst 0, 1) := by decide +kernel
theorem dX0_hold_35 : decode cX0_hold 35 = .ok (.iload_n 1, 1) := by decide +kernel
theorem dX0_hold_36 : decode cX0_hold 36 = .ok (.invokevirtual 76, 3) := by decide +kernel
theorem dX0_hold_39 : decode cX0_hold 39 = .ok (.aload_n 0, 1) := by decide +kernel
theorem dX0_hold_40 : decode cX0_hold 40 = .ok (.getfield 28, 3) := by decide +kernel
theorem dX0_hold_43 : decode cX0_hold 43 = .ok (.iload 4, 2) := by decide +kernel
theorem dX0_hold_45 : decode cX0_hold 45 = .ok (.iconst 1, 1) := by decide +kernel
theorem dX0_hold_46 : decode cX0_hold 46 = .ok (.iload_n 2, 1) := by decide +kernel
theorem dX0_hold_47 : decode cX0_hold 47 = .ok (.invokevirtual 76, 3) := by decide +kernel
theorem dX0_hold_50 : decode cX0_hold 50 = .ok (.aload_n 0, 1) := by decide +kernel
theorem dX0_hold_51 : decode cX0_hold 51 = .ok (.getfield 28, 3) := by decide +kernel
theorem dX0_hold_54 : decode cX0_hold 54 = .ok (.iload 4, 2) := by decide +kernel
theorem dX0_hold_56 : decode cX0_hold 56 = .ok (.iconst 2, 1) := by decide +kernel
theorem dX0_hold_57 : decode cX0_hold 57 = .ok (.iload_n 3, 1) := by decide +kernel
theorem dX0_hold_58 : decode cX0_hold 58 = .ok (.invokevirtual 76, 3) := by decide +kernel
theorem dX0_hold_61 : decode cX0_hold 61 = .ok (.return_, 1) := by decide +kernel
theorem dX0_beliedEntryOf_0 : decode cX0_beliedEntryOf 0 = .ok (.iconst 0, 1) := by decide +kernel
theorem dX0_beliedEntryOf_1 : decode cX0_beliedEntryOf 1 = .ok (.istore_n 2, 1) := by decide +kernel
theorem dX0_beliedEntryOf_2 : decode cX0_beliedEntryOf 2 = .ok (.iload_n 2, 1) := by decide +kernel
theorem dX0_beliedEntryOf_3 : decode cX0_beliedEntryOf 3 = .ok (.aload_n 0, 1) := by decide +kernel
theorem dX0_beliedEntryOf_4 : decode cX0_beliedEntryOf 4 = .ok (.getfield 28, 3) := by decide +kernel
theorem dX0_beliedEntryOf_7 : decode cX0_beliedEntryOf 7 = .ok (.getfield 65, 3) := by decide +kernel
theorem dX0_beliedEntryOf_10 : decode cX0_beliedEntryOf 10 = .ok (.if_icmp .ge 67, 3) := by decide +kernel
theorem dX0_beliedEntryOf_13 : decode cX0_beliedEntryOf 13 = .ok (.aload_n 0, 1) := by decide +kernel
theorem dX0_beliedEntryOf_14 : decode cX0_beliedEntryOf 14 = .ok (.getfield 28, 3) := by decide +kernel
theorem dX0_beliedEntryOf_17 : decode cX0_beliedEntryOf 17 = .ok (.iload_n 2, 1) := by decide +kernel
theorem dX0_beliedEntryOf_18 : decode cX0_beliedEntryOf 18 = .ok (.iconst 0, 1) := by decide +kernel
theorem dX0_beliedEntryOf_19 : decode cX0_beliedEntryOf 19 = .ok (.invokevirtual 68, 3) := by decide +kernel
theorem dX0_beliedEntryOf_22 : decode cX0_beliedEntryOf 22 = .ok (.aload_n 1, 1) := by decide +kernel
theorem dX0_beliedEntryOf_23 : decode cX0_beliedEntryOf 23 = .ok (.getfield 9, 3) := by decide +kernel
theorem dX0_beliedEntryOf_26 : decode cX0_beliedEntryOf 26 = .ok (.if_icmp .ne 45, 3) := by decide +kernel
theorem dX0_beliedEntryOf_29 : decode cX0_beliedEntryOf 29 = .ok (.aload_n 0, 1) := by decide +kernel
theorem dX0_beliedEntryOf_30 : decode cX0_beliedEntryOf 30 = .ok (.getfield 28, 3) := by decide +kernel
theorem dX0_beliedEntryOf_33 : decode cX0_beliedEntryOf 33 = .ok (.iload_n 2, 1) := by decide +kernel
theorem dX0_beliedEntryOf_34 : decode cX0_beliedEntryOf 34 = .ok (.iconst 1, 1) := by decide +kernel
theorem dX0_beliedEntryOf_35 : decode cX0_beliedEntryOf 35 = .ok (.invokevirtual 68, 3) := by decide +kernel
theorem dX0_beliedEntryOf_38 : decode cX0_beliedEntryOf 38 = .ok (.istore_n 3, 1) := by decide +kernel
theorem dX0_beliedEntryOf_39 : decode cX0_beliedEntryOf 39 = .ok (.iload_n 3, 1) := by decide +kernel
theorem dX0_beliedEntryOf_40 : decode cX0_beliedEntryOf 40 = .ok (.aload_n 1, 1) := by decide +kernel
theorem dX0_beliedEntryOf_41 : decode cX0_beliedEntryOf 41 = .ok (.getfield 24, 3) := by decide +kernel
theorem dX0_beliedEntryOf_44 : decode cX0_beliedEntryOf 44 = .ok (.getfield 65, 3) := by decide +kernel
theorem dX0_beliedEntryOf_47 : decode cX0_beliedEntryOf 47 = .ok (.if_icmp .ge 22, 3) := by decide +kernel
theorem dX0_beliedEntryOf_50 : decode cX0_beliedEntryOf 50 = .ok (.aload_n 1, 1) := by decide +kernel
theorem dX0_beliedEntryOf_51 : decode cX0_beliedEntryOf 51 = .ok (.iload_n 3, 1) := by decide +kernel
theorem dX0_beliedEntryOf_52 : decode cX0_beliedEntryOf 52 = .ok (.iconst 1, 1) := by decide +kernel
theorem dX0_beliedEntryOf_53 : decode cX0_beliedEntryOf 53 = .ok (.iadd, 1) := by decide +kernel
theorem dX0_beliedEntryOf_54 : decode cX0_beliedEntryOf 54 = .ok (.invokevirtual 80, 3) := by decide +kernel
theorem dX0_beliedEntryOf_57 : decode cX0_beliedEntryOf 57 = .ok (.aload_n 0, 1) := by decide +kernel
theorem dX0_beliedEntryOf_58 : decode cX0_beliedEntryOf 58 = .ok (.getfield 28, 3) := by decide +kernel
theorem dX0_beliedEntryOf_61 : decode cX0_beliedEntryOf 61 = .ok (.iload_n 2, 1) := by decide +kernel
theorem dX0_beliedEntryOf_62 : decode cX0_beliedEntryOf 62 = .ok (.iconst 2, 1) := by decide +kernel
theorem dX0_beliedEntryOf_63 : decode cX0_beliedEntryOf 63 = .ok (.invokevirtual 68, 3) := by decide +kernel
theorem dX0_beliedEntryOf_66 : decode cX0_beliedEntryOf 66 = .ok (.if_icmp .eq 5, 3) := by decide +kernel
theorem dX0_beliedEntryOf_69 : decode cX0_beliedEntryOf 69 = .ok (.iload_n 3, 1) := by decide +kernel
theorem dX0_beliedEntryOf_70 : decode cX0_beliedEntryOf 70 = .ok (.ireturn, 1) := by decide +kernel
theorem dX0_beliedEntryOf_71 : decode cX0_beliedEntryOf 71 = .ok (.iinc 2 1, 3) := by decide +kernel
theorem dX0_beliedEntryOf_74 : decode cX0_beliedEntryOf 74 = .ok (.goto (-72), 3) := by decide +kernel
theorem dX0_beliedEntryOf_77 : decode cX0_beliedEntryOf 77 = .ok (.iconst (-1), 1) := by decide +kernel
theorem dX0_beliedEntryOf_78 : decode cX0_beliedEntryOf 78 = .ok (.ireturn, 1) := by decide +kernel
theorem dX0_replayFault_0 : decode cX0_replayFault 0 = .ok (.aload_n 0, 1) := by decide +kernel
theorem dX0_replayFault_1 : decode cX0_replayFault 1 = .ok (.getfield 9, 3) := by decide +kernel
theorem dX0_replayFault_4 : decode cX0_replayFault 4 = .ok (.istore_n 2, 1) := by decide +kernel
theorem dX0_replayFault_5 : decode cX0_replayFault 5 = .ok (.iconst 0, 1) := by decide +kernel
theorem dX0_replayFault_6 : decode cX0_replayFault 6 = .ok (.istore_n 3, 1) := by decide +kernel
theorem dX0_replayFault_7 : decode cX0_replayFault 7 = .ok (.iload_n 3, 1) := by decide +kernel
theorem dX0_replayFault_8 : decode cX0_replayFault 8 = .ok (.aload_n 0, 1) := by decide +kernel
theorem dX0_replayFault_9 : decode cX0_replayFault 9 = .ok (.getfield 24, 3) := by decide +kernel
theorem dX0_replayFault_12 : decode cX0_replayFault 12 = .ok (.getfield 65, 3) := by decide +kernel
theorem dX0_replayFault_15 : decode cX0_replayFault 15 = .ok (.if_icmp .ge 80, 3) := by decide +kernel
theorem dX0_replayFault_18 : decode cX0_replayFault 18 = .ok (.aload_n 0, 1) := by decide +kernel
theorem dX0_replayFault_19 : decode cX0_replayFault 19 = .ok (.getfield 24, 3) := by decide +kernel
theorem dX0_replayFault_22 : decode cX0_replayFault 22 = .ok (.iload_n 3, 1) := by decide +kernel
theorem dX0_replayFault_23 : decode cX0_replayFault 23 = .ok (.iconst 0, 1) := by decide +kernel
theorem dX0_replayFault_24 : decode cX0_replayFault 24 = .ok (.invokevirtual 68, 3) := by decide +kernel
theorem dX0_replayFault_27 : decode cX0_replayFault 27 = .ok (.iconst 2, 1) := by decide +kernel
theorem dX0_replayFault_28 : decode cX0_replayFault 28 = .ok (.if_icmp .ne 5, 3) := by decide +kernel
theorem dX0_replayFault_31 : decode cX0_replayFault 31 = .ok (.iload_n 3, 1) := by decide +kernel
theorem dX0_replayFault_32 : decode cX0_replayFault 32 = .ok (.ireturn, 1) := by decide +kernel
theorem dX0_replayFault_33 : decode cX0_replayFault 33 = .ok (.iload_n 2, 1) := by decide +kernel
theorem dX0_replayFault_34 : decode cX0_replayFault 34 = .ok (.aload_n 0, 1) := by decide +kernel
theorem dX0_replayFault_35 : decode cX0_replayFault 35 = .ok (.getfield 24, 3) := by decide +kernel
theorem dX0_replayFault_38 : decode cX0_replayFault 38 = .ok (.iload_n 3, 1) := by decide +kernel
theorem dX0_replayFault_39 : decode cX0_replayFault 39 = .ok (.iconst 1, 1) := by decide +kernel
theorem dX0_replayFault_40 : decode cX0_replayFault 40 = .ok (.invokevirtual 68, 3) := by decide +kernel
theorem dX0_replayFault_43 : decode cX0_replayFault 43 = .ok (.aload_n 0, 1) := by decide +kernel
theorem dX0_replayFault_44 : decode cX0_replayFault 44 = .ok (.getfield 24, 3) := by decide +kernel
theorem dX0_replayFault_47 : decode cX0_replayFault 47 = .ok (.iload_n 3, 1) := by decide +kernel
theorem dX0_replayFault_48 : decode cX0_replayFault 48 = .ok (.iconst 2, 1) := by decide +kernel
theorem dX0_replayFault_49 : decode cX0_replayFault 49 = .ok (.invokevirtual 68, 3) := by decide +kernel
theorem dX0_replayFault_52 : decode cX0_replayFault 52 = .ok (.invokestatic 91, 3) := by decide +kernel
theorem dX0_replayFault_55 : decode cX0_replayFault 55 = .ok (.istore_n 2, 1) := by decide +kernel
theorem dX0_replayFault_56 : decode cX0_replayFault 56 = .ok (.iinc 3 1, 3) := by decide +kernel
theorem dX0_replayFault_59 : decode cX0_replayFault 59 = .ok (.iload_n 2, 1) := by decide +kernel
theorem dX0_replayFault_60 : decode cX0_replayFault 60 = .ok (.invokestatic 95, 3) := by decide +kernel
theorem dX0_replayFault_63 : decode cX0_replayFault 63 = .ok (.ifCond .eq (-56), 3) := by decide +kernel
theorem dX0_replayFault_66 : decode cX0_replayFault 66 = .ok (.aload_n 0, 1) := by decide +kernel
theorem dX0_replayFault_67 : decode cX0_replayFault 67 = .ok (.iload_n 3, 1) := by decide +kernel
theorem dX0_replayFault_68 : decode cX0_replayFault 68 = .ok (.aload_n 0, 1) := by decide +kernel
theorem dX0_replayFault_69 : decode cX0_replayFault 69 = .ok (.getfield 9, 3) := by decide +kernel
theorem dX0_replayFault_72 : decode cX0_replayFault 72 = .ok (.iload_n 2, 1) := by decide +kernel
theorem dX0_replayFault_73 : decode cX0_replayFault 73 = .ok (.iload_n 1, 1) := by decide +kernel
theorem dX0_replayFault_74 : decode cX0_replayFault 74 = .ok (.invokestatic 99, 3) := by decide +kernel
theorem dX0_replayFault_77 : decode cX0_replayFault 77 = .ok (.iload_n 2, 1) := by decide +kernel
theorem dX0_replayFault_78 : decode cX0_replayFault 78 = .ok (.invokestatic 102, 3) := by decide +kernel
theorem dX0_replayFault_81 : decode cX0_replayFault 81 = .ok (.invokevirtual 105, 3) := by decide +kernel
theorem dX0_replayFault_84 : decode cX0_replayFault 84 = .ok (.ifCond .ne 5, 3) := by decide +kernel
theorem dX0_replayFault_87 : decode cX0_replayFault 87 = .ok (.iload_n 3, 1) := by decide +kernel
theorem dX0_replayFault_88 : decode cX0_replayFault 88 = .ok (.ireturn, 1) := by decide +kernel
theorem dX0_replayFault_89 : decode cX0_replayFault 89 = .ok (.iinc 3 1, 3) := by decide +kernel
theorem dX0_replayFault_92 : decode cX0_replayFault 92 = .ok (.goto (-85), 3) := by decide +kernel
theorem dX0_replayFault_95 : decode cX0_replayFault 95 = .ok (.iconst (-1), 1) := by decide +kernel
theorem dX0_replayFault_96 : decode cX0_replayFault 96 = .ok (.ireturn, 1) := by decide +kernel
theorem dX0_isSend_0 : decode cX0_isSend 0 = .ok (.iload_n 1, 1) := by decide +kernel
theorem dX0_isSend_1 : decode cX0_isSend 1 = .ok (.aload_n 0, 1) := by decide +kernel
theorem dX0_isSend_2 : decode cX0_isSend 2 = .ok (.getfield 24, 3) := by decide +kernel
theorem dX0_isSend_5 : decode cX0_isSend 5 = .ok (.getfield 65, 3) := by decide +kernel
theorem dX0_isSend_8 : decode cX0_isSend 8 = .ok (.if_icmp .ge 46, 3) := by decide +kernel
theorem dX0_isSend_11 : decode cX0_isSend 11 = .ok (.aload_n 0, 1) := by decide +kernel
theorem dX0_isSend_12 : decode cX0_isSend 12 = .ok (.getfield 24, 3) := by decide +kernel
theorem dX0_isSend_15 : decode cX0_isSend 15 = .ok (.iload_n 1, 1) := by decide +kernel
theorem dX0_isSend_16 : decode cX0_isSend 16 = .ok (.iconst 0, 1) := by decide +kernel
theorem dX0_isSend_17 : decode cX0_isSend 17 = .ok (.invokevirtual 68, 3) := by decide +kernel
theorem dX0_isSend_20 : decode cX0_isSend 20 = .ok (.iconst 2, 1) := by decide +kernel
theorem dX0_isSend_21 : decode cX0_isSend 21 = .ok (.if_icmp .ne 33, 3) := by decide +kernel
theorem dX0_isSend_24 : decode cX0_isSend 24 = .ok (.aload_n 0, 1) := by decide +kernel
theorem dX0_isSend_25 : decode cX0_isSend 25 = .ok (.getfield 24, 3) := by decide +kernel
theorem dX0_isSend_28 : decode cX0_isSend 28 = .ok (.iload_n 1, 1) := by decide +kernel
theorem dX0_isSend_29 : decode cX0_isSend 29 = .ok (.iconst 1, 1) := by decide +kernel
theorem dX0_isSend_30 : decode cX0_isSend 30 = .ok (.invokevirtual 68, 3) := by decide +kernel
theorem dX0_isSend_33 : decode cX0_isSend 33 = .ok (.iload_n 2, 1) := by decide +kernel
theorem dX0_isSend_34 : decode cX0_isSend 34 = .ok (.if_icmp .ne 20, 3) := by decide +kernel
theorem dX0_isSend_37 : decode cX0_isSend 37 = .ok (.aload_n 0, 1) := by decide +kernel
theorem dX0_isSend_38 : decode cX0_isSend 38 = .ok (.getfield 24, 3) := by decide +kernel
theorem dX0_isSend_41 : decode cX0_isSend 41 = .ok (.iload_n 1, 1) := by decide +kernel
theorem dX0_isSend_42 : decode cX0_isSend 42 = .ok (.iconst 2, 1) := by decide +kernel
theorem dX0_isSend_43 : decode cX0_isSend 43 = .ok (.invokevirtual 68, 3) := by decide +kernel
theorem dX0_isSend_46 : decode cX0_isSend 46 = .ok (.iload_n 3, 1) := by decide +kernel
theorem dX0_isSend_47 : decode cX0_isSend 47 = .ok (.if_icmp .ne 7, 3) := by decide +kernel
theorem dX0_isSend_50 : decode cX0_isSend 50 = .ok (.iconst 1, 1) := by decide +kernel
theorem dX0_isSend_51 : decode cX0_isSend 51 = .ok (.goto 4, 3) := by decide +kernel
theorem dX0_isSend_54 : decode cX0_isSend 54 = .ok (.iconst 0, 1) := by decide +kernel
theorem dX0_isSend_55 : decode cX0_isSend 55 = .ok (.ireturn, 1) := by decide +kernel
