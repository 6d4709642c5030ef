theorem dX3_init_0 : decode cX3_init 0 = .ok (.aload_n 0, 1) := by decide +kernel
theorem dX3_init_1 : decode cX3_init 1 = .ok (.invokespecial 3, 3) := by decide +kernel
theorem dX3_init_4 : decode cX3_init 4 = .ok (.aload_n 0, 1) := by decide +kernel
theorem dX3_init_5 : decode cX3_init 5 = .ok (.new 9, 3) := by decide +kernel
theorem dX3_init_8 : decode cX3_init 8 = .ok (.dup, 1) := by decide +kernel
theorem dX3_init_9 : decode cX3_init 9 = .ok (.invokespecial 11, 3) := by decide +kernel
theorem dX3_init_12 : decode cX3_init 12 = .ok (.putfield 12, 3) := by decide +kernel
theorem dX3_init_15 : decode cX3_init 15 = .ok (.aload_n 0, 1) := by decide +kernel
theorem dX3_init_16 : decode cX3_init 16 = .ok (.getfield 12, 3) := by decide +kernel
theorem dX3_init_19 : decode cX3_init 19 = .ok (.iconst 3, 1) := by decide +kernel
theorem dX3_init_20 : decode cX3_init 20 = .ok (.invokevirtual 16, 3) := by decide +kernel
theorem dX3_init_23 : decode cX3_init 23 = .ok (.aload_n 0, 1) := by decide +kernel
theorem dX3_init_24 : decode cX3_init 24 = .ok (.iconst 4, 1) := by decide +kernel
theorem dX3_init_25 : decode cX3_init 25 = .ok (.anewarray 9, 3) := by decide +kernel
theorem dX3_init_28 : decode cX3_init 28 = .ok (.putfield 20, 3) := by decide +kernel
theorem dX3_init_31 : decode cX3_init 31 = .ok (.iconst 0, 1) := by decide +kernel
theorem dX3_init_32 : decode cX3_init 32 = .ok (.istore_n 1, 1) := by decide +kernel
theorem dX3_init_33 : decode cX3_init 33 = .ok (.iload_n 1, 1) := by decide +kernel
theorem dX3_init_34 : decode cX3_init 34 = .ok (.iconst 4, 1) := by decide +kernel
theorem dX3_init_35 : decode cX3_init 35 = .ok (.if_icmp .ge 22, 3) := by decide +kernel
theorem dX3_init_38 : decode cX3_init 38 = .ok (.aload_n 0, 1) := by decide +kernel
theorem dX3_init_39 : decode cX3_init 39 = .ok (.getfield 20, 3) := by decide +kernel
theorem dX3_init_42 : decode cX3_init 42 = .ok (.iload_n 1, 1) := by decide +kernel
theorem dX3_init_43 : decode cX3_init 43 = .ok (.new 9, 3) := by decide +kernel
theorem dX3_init_46 : decode cX3_init 46 = .ok (.dup, 1) := by decide +kernel
theorem dX3_init_47 : decode cX3_init 47 = .ok (.invokespecial 11, 3) := by decide +kernel
theorem dX3_init_50 : decode cX3_init 50 = .ok (.aastore, 1) := by decide +kernel
theorem dX3_init_51 : decode cX3_init 51 = .ok (.iinc 1 1, 3) := by decide +kernel
theorem dX3_init_54 : decode cX3_init 54 = .ok (.goto (-21), 3) := by decide +kernel
theorem dX3_init_57 : decode cX3_init 57 = .ok (.return_, 1) := by decide +kernel
theorem dX3_reset_0 : decode cX3_reset 0 = .ok (.iload_n 1, 1) := by decide +kernel
theorem dX3_reset_1 : decode cX3_reset 1 = .ok (.iconst 2, 1) := by decide +kernel
theorem dX3_reset_2 : decode cX3_reset 2 = .ok (.if_icmp .lt 9, 3) := by decide +kernel
theorem dX3_reset_5 : decode cX3_reset 5 = .ok (.iload_n 1, 1) := by decide +kernel
theorem dX3_reset_6 : decode cX3_reset 6 = .ok (.bipush 6, 2) := by decide +kernel
theorem dX3_reset_8 : decode cX3_reset 8 = .ok (.if_icmp .le 13, 3) := by decide +kernel
theorem dX3_reset_11 : decode cX3_reset 11 = .ok (.new 24, 3) := by decide +kernel
theorem dX3_reset_14 : decode cX3_reset 14 = .ok (.dup, 1) := by decide +kernel
theorem dX3_reset_15 : decode cX3_reset 15 = .ok (.ldc 26, 2) := by decide +kernel
theorem dX3_reset_17 : decode cX3_reset 17 = .ok (.invokespecial 28, 3) := by decide +kernel
theorem dX3_reset_20 : decode cX3_reset 20 = .ok (.athrow, 1) := by decide +kernel
theorem dX3_reset_21 : decode cX3_reset 21 = .ok (.aload_n 0, 1) := by decide +kernel
theorem dX3_reset_22 : decode cX3_reset 22 = .ok (.invokevirtual 31, 3) := by decide +kernel
theorem dX3_reset_25 : decode cX3_reset 25 = .ok (.aload_n 0, 1) := by decide +kernel
theorem dX3_reset_26 : decode cX3_reset 26 = .ok (.getfield 12, 3) := by decide +kernel
theorem dX3_reset_29 : decode cX3_reset 29 = .ok (.getfield 34, 3) := by decide +kernel
theorem dX3_reset_32 : decode cX3_reset 32 = .ok (.istore_n 2, 1) := by decide +kernel
theorem dX3_reset_33 : decode cX3_reset 33 = .ok (.aload_n 0, 1) := by decide +kernel
theorem dX3_reset_34 : decode cX3_reset 34 = .ok (.getfield 12, 3) := by decide +kernel
theorem dX3_reset_37 : decode cX3_reset 37 = .ok (.iload_n 1, 1) := by decide +kernel
theorem dX3_reset_38 : decode cX3_reset 38 = .ok (.invokevirtual 16, 3) := by decide +kernel
theorem dX3_reset_41 : decode cX3_reset 41 = .ok (.iload_n 2, 1) := by decide +kernel
theorem dX3_reset_42 : decode cX3_reset 42 = .ok (.ireturn, 1) := by decide +kernel
theorem dX3_input_0 : decode cX3_input 0 = .ok (.aload_n 0, 1) := by decide +kernel
theorem dX3_input_1 : decode cX3_input 1 = .ok (.iload_n 1, 1) := by decide +kernel
theorem dX3_input_2 : decode cX3_input 2 = .ok (.invokevirtual 38, 3) := by decide +kernel
theorem dX3_input_5 : decode cX3_input 5 = .ok (.iload_n 2, 1) := by decide +kernel
theorem dX3_input_6 : decode cX3_input 6 = .ok (.invokestatic 41, 3) := by decide +kernel
theorem dX3_input_9 : decode cX3_input 9 = .ok (.aload_n 0, 1) := by decide +kernel
theorem dX3_input_10 : decode cX3_input 10 = .ok (.getfield 12, 3) := by decide +kernel
theorem dX3_input_13 : decode cX3_input 13 = .ok (.getfield 44, 3) := by decide +kernel
theorem dX3_input_16 : decode cX3_input 16 = .ok (.iload_n 1, 1) := by decide +kernel
theorem dX3_input_17 : decode cX3_input 17 = .ok (.aaload, 1) := by decide +kernel
theorem dX3_input_18 : decode cX3_input 18 = .ok (.astore_n 3, 1) := by decide +kernel
theorem dX3_input_19 : decode cX3_input 19 = .ok (.aload_n 3, 1) := by decide +kernel
theorem dX3_input_20 : decode cX3_input 20 = .ok (.aload_n 0, 1) := by decide +kernel
theorem dX3_input_21 : decode cX3_input 21 = .ok (.getfield 12, 3) := by decide +kernel
theorem dX3_input_24 : decode cX3_input 24 = .ok (.getfield 48, 3) := by decide +kernel
theorem dX3_input_27 : decode cX3_input 27 = .ok (.getfield 52, 3) := by decide +kernel
theorem dX3_input_30 : decode cX3_input 30 = .ok (.invokevirtual 57, 3) := by decide +kernel
theorem dX3_input_33 : decode cX3_input 33 = .ok (.ifCond .ne 13, 3) := by decide +kernel
theorem dX3_input_36 : decode cX3_input 36 = .ok (.new 63, 3) := by decide +kernel
theorem dX3_input_39 : decode cX3_input 39 = .ok (.dup, 1) := by decide +kernel
theorem dX3_input_40 : decode cX3_input 40 = .ok (.ldc 65, 2) := by decide +kernel
theorem dX3_input_42 : decode cX3_input 42 = .ok (.invokespecial 67, 3) := by decide +kernel
theorem dX3_input_45 : decode cX3_input 45 = .ok (.athrow, 1) := by decide +kernel
theorem dX3_input_46 : decode cX3_input 46 = .ok (.aload_n 0, 1) := by decide +kernel
theorem dX3_input_47 : decode cX3_input 47 = .ok (.invokevirtual 31, 3) := by decide +kernel
theorem dX3_input_50 : decode cX3_input 50 = .ok (.aload_n 0, 1) := by decide +kernel
theorem dX3_input_51 : decode cX3_input 51 = .ok (.getfield 12, 3) := by decide +kernel
theorem dX3_input_54 : decode cX3_input 54 = .ok (.aload_n 3, 1) := by decide +kernel
theorem dX3_input_55 : decode cX3_input 55 = .ok (.iconst 0, 1) := by decide +kernel
theorem dX3_input_56 : decode cX3_input 56 = .ok (.iconst (-1), 1) := by decide +kernel
theorem dX3_input_57 : decode cX3_input 57 = .ok (.iload_n 2, 1) := by decide +kernel
theorem dX3_input_58 : decode cX3_input 58 = .ok (.invokevirtual 68, 3) := by decide +kernel
theorem dX3_input_61 : decode cX3_input 61 = .ok (.aload_n 3, 1) := by decide +kernel
theorem dX3_input_62 : decode cX3_input 62 = .ok (.getfield 72, 3) := by decide +kernel
theorem dX3_input_65 : decode cX3_input 65 = .ok (.ireturn, 1) := by decide +kernel
theorem dX3_deliver_0 : decode cX3_deliver 0 = .ok (.aload_n 0, 1) := by decide +kernel
theorem dX3_deliver_1 : decode cX3_deliver 1 = .ok (.getfield 12, 3) := by decide +kernel
theorem dX3_deliver_4 : decode cX3_deliver 4 = .ok (.invokevirtual 75, 3) := by decide +kernel
theorem dX3_deliver_7 : decode cX3_deliver 7 = .ok (.istore_n 1, 1) := by decide +kernel
theorem dX3_deliver_8 : decode cX3_deliver 8 = .ok (.iload_n 1, 1) := by decide +kernel
theorem dX3_deliver_9 : decode cX3_deliver 9 = .ok (.iconst (-1), 1) := by decide +kernel
theorem dX3_deliver_10 : decode cX3_deliver 10 = .ok (.if_icmp .ne 5, 3) := by decide +kernel
theorem dX3_deliver_13 : decode cX3_deliver 13 = .ok (.iconst (-1), 1) := by decide +kernel
theorem dX3_deliver_14 : decode cX3_deliver 14 = .ok (.ireturn, 1) := by decide +kernel
theorem dX3_deliver_15 : decode cX3_deliver 15 = .ok (.aload_n 0, 1) := by decide +kernel
theorem dX3_deliver_16 : decode cX3_deliver 16 = .ok (.getfield 12, 3) := by decide +kernel
theorem dX3_deliver_19 : decode cX3_deliver 19 = .ok (.invokevirtual 79, 3) := by decide +kernel
theorem dX3_deliver_22 : decode cX3_deliver 22 = .ok (.ifCond .ne 13, 3) := by decide +kernel
theorem dX3_deliver_25 : decode cX3_deliver 25 = .ok (.new 63, 3) := by decide +kernel
theorem dX3_deliver_28 : decode cX3_deliver 28 = .ok (.dup, 1) := by decide +kernel
theorem dX3_deliver_29 : decode cX3_deliver 29 = .ok (.ldc 83, 2) := by decide +kernel
theorem dX3_deliver_31 : decode cX3_deliver 31 = .ok (.invokespecial 67, 3) := by decide +kernel
theorem dX3_deliver_34 : decode cX3_deliver 34 = .ok (.athrow, 1) := by decide +kernel
theorem dX3_deliver_35 : decode cX3_deliver 35 = .ok (.aload_n 0, 1) := by decide +kernel
theorem dX3_deliver_36 : decode cX3_deliver 36 = .ok (.invokevirtual 31, 3) := by decide +kernel
theorem dX3_deliver_39 : decode cX3_deliver 39 = .ok (.aload_n 0, 1) := by decide +kernel
theorem dX3_deliver_40 : decode cX3_deliver 40 = .ok (.getfield 12, 3) := by decide +kernel
theorem dX3_deliver_43 : decode cX3_deliver 43 = .ok (.invokevirtual 85, 3) := by decide +kernel
theorem dX3_deliver_46 : decode cX3_deliver 46 = .ok (.iload_n 1, 1) := by decide +kernel
theorem dX3_deliver_47 : decode cX3_deliver 47 = .ok (.ireturn, 1) := by decide +kernel
theorem dX3_run_0 : decode cX3_run 0 = .ok (.iload_n 1, 1) := by decide +kernel
theorem dX3_run_1 : decode cX3_run 1 = .ok (.iconst 1, 1) := by decide +kernel
theorem dX3_run_2 : decode cX3_run 2 = .ok (.if_icmp .lt 9, 3) := by decide +kernel
theorem dX3_run_5 : decode cX3_run 5 = .ok (.iload_n 1, 1) := by decide +kernel
theorem dX3_run_6 : decode cX3_run 6 = .ok (.bipush 100, 2) := by decide +kernel
theorem dX3_run_8 : decode cX3_run 8 = .ok (.if_icmp .le 13, 3) := by decide +kernel
theorem dX3_run_11 : decode cX3_run 11 = .ok (.new 24, 3) := by decide +kernel
theorem dX3_run_14 : decode cX3_run 14 = .ok (.dup, 1) := by decide +kernel
theorem dX3_run_15 : decode cX3_run 15 = .ok (.ldc 88, 2) := by decide +kernel
theorem dX3_run_17 : decode cX3_run 17 = .ok (.invokespecial 28, 3) := by decide +kernel
theorem dX3_run_20 : decode cX3_run 20 = .ok (.athrow, 1) := by decide +kernel
theorem dX3_run_21 : decode cX3_run 21 = .ok (.aload_n 0, 1) := by decide +kernel
theorem dX3_run_22 : decode cX3_run 22 = .ok (.invokevirtual 31, 3) := by decide +kernel
theorem dX3_run_25 : decode cX3_run 25 = .ok (.iconst 0, 1) := by decide +kernel
theorem dX3_run_26 : decode cX3_run 26 = .ok (.istore_n 2, 1) := by decide +kernel
theorem dX3_run_27 : decode cX3_run 27 = .ok (.iload_n 2, 1) := by decide +kernel
theorem dX3_run_28 : decode cX3_run 28 = .ok (.iload_n 1, 1) := by decide +kernel
theorem dX3_run_29 : decode cX3_run 29 = .ok (.if_icmp .ge 26, 3) := by decide +kernel
theorem dX3_run_32 : decode cX3_run 32 = .ok (.aload_n 0, 1) := by decide +kernel
theorem dX3_run_33 : decode cX3_run 33 = .ok (.getfield 12, 3) := by decide +kernel
theorem dX3_run_36 : decode cX3_run 36 = .ok (.invokevirtual 79, 3) := by decide +kernel
theorem dX3_run_39 : decode cX3_run 39 = .ok (.ifCond .eq 16, 3) := by decide +kernel
theorem dX3_run_42 : decode cX3_run 42 = .ok (.aload_n 0, 1) := by decide +kernel
theorem dX3_run_43 : decode cX3_run 43 = .ok (.getfield 12, 3) := by decide +kernel
theorem dX3_run_46 : decode cX3_run 46 = .ok (.invokevirtual 85, 3) := by decide +kernel
theorem dX3_run_49 : decode cX3_run 49 = .ok (.iinc 2 1, 3) := by decide +kernel
theorem dX3_run_52 : decode cX3_run 52 = .ok (.goto (-25), 3) := by decide +kernel
theorem dX3_run_55 : decode cX3_run 55 = .ok (.iload_n 2, 1) := by decide +kernel
theorem dX3_run_56 : decode cX3_run 56 = .ok (.ireturn, 1) := by decide +kernel
theorem dX3_queued_0 : decode cX3_queued 0 = .ok (.aload_n 0, 1) := by decide +kernel
theorem dX3_queued_1 : decode cX3_queued 1 = .ok (.getfield 12, 3) := by decide +kernel
theorem dX3_queued_4 : decode cX3_queued 4 = .ok (.getfield 48, 3) := by decide +kernel
theorem dX3_queued_7 : decode cX3_queued 7 = .ok (.getfield 52, 3) := by decide +kernel
theorem dX3_queued_10 : decode cX3_queued 10 = .ok (.ireturn, 1) := by decide +kernel
theorem dX3_state_0 : decode cX3_state 0 = .ok (.aload_n 0, 1) := by decide +kernel
theorem dX3_state_1 : decode cX3_state 1 = .ok (.iload_n 1, 1) := by decide +kernel
theorem dX3_state_2 : decode cX3_state 2 = .ok (.invokevirtual 38, 3) := by decide +kernel
theorem dX3_state_5 : decode cX3_state 5 = .ok (.aload_n 0, 1) := by decide +kernel
theorem dX3_state_6 : decode cX3_state 6 = .ok (.getfield 12, 3) := by decide +kernel
theorem dX3_state_9 : decode cX3_state 9 = .ok (.getfield 44, 3) := by decide +kernel
theorem dX3_state_12 : decode cX3_state 12 = .ok (.iload_n 1, 1) := by decide +kernel
theorem dX3_state_13 : decode cX3_state 13 = .ok (.aaload, 1) := by decide +kernel
theorem dX3_state_14 : decode cX3_state 14 = .ok (.getfield 72, 3) := by decide +kernel
theorem dX3_state_17 : decode cX3_state 17 = .ok (.ireturn, 1) := by decide +kernel
theorem dX3_setSilent_0 : decode cX3_setSilent 0 = .ok (.aload_n 0, 1) := by decide +kernel
theorem dX3_setSilent_1 : decode cX3_setSilent 1 = .ok (.iload_n 1, 1) := by decide +kernel
theorem dX3_setSilent_2 : decode cX3_setSilent 2 = .ok (.invokevirtual 38, 3) := by decide +kernel
theorem dX3_setSilent_5 : decode cX3_setSilent 5 = .ok (.aload_n 0, 1) := by decide +kernel
theorem dX3_setSilent_6 : decode cX3_setSilent 6 = .ok (.invokevirtual 31, 3) := by decide +kernel
theorem dX3_setSilent_9 : decode cX3_setSilent 9 = .ok (.aload_n 0, 1) := by decide +kernel
theorem dX3_setSilent_10 : decode cX3_setSilent 10 = .ok (.getfield 12, 3) := by decide +kernel
theorem dX3_setSilent_13 : decode cX3_setSilent 13 = .ok (.getfield 44, 3) := by decide +kernel
theorem dX3_setSilent_16 : decode cX3_setSilent 16 = .ok (.iload_n 1, 1) := by decide +kernel
theorem dX3_setSilent_17 : decode cX3_setSilent 17 = .ok (.aaload, 1) := by decide +kernel
theorem dX3_setSilent_18 : decode cX3_setSilent 18 = .ok (.astore_n 3, 1) := by decide +kernel
theorem dX3_setSilent_19 : decode cX3_setSilent 19 = .ok (.aload_n 3, 1) := by decide +kernel
theorem dX3_setSilent_20 : decode cX3_setSilent 20 = .ok (.iload_n 2, 1) := by decide +kernel
theorem dX3_setSilent_21 : decode cX3_setSilent 21 = .ok (.putfield 90, 3) := by decide +kernel
theorem dX3_setSilent_24 : decode cX3_setSilent 24 = .ok (.aload_n 3, 1) := by decide +kernel
theorem dX3_setSilent_25 : decode cX3_setSilent 25 = .ok (.getfield 94, 3) := by decide +kernel
theorem dX3_setSilent_28 : decode cX3_setSilent 28 = .ok (.getfield 52, 3) := by decide +kernel
theorem dX3_setSilent_31 : decode cX3_setSilent 31 = .ok (.ireturn, 1) := by decide +kernel
theorem dX3_pending_0 : decode cX3_pending 0 = .ok (.aload_n 0, 1) := by decide +kernel
theorem dX3_pending_1 : decode cX3_pending 1 = .ok (.iload_n 1, 1) := by decide +kernel
theorem dX3_pending_2 : decode cX3_pending 2 = .ok (.invokevirtual 38, 3) := by decide +kernel
theorem dX3_pending_5 : decode cX3_pending 5 = .ok (.aload_n 0, 1) := by decide +kernel
theorem dX3_pending_6 : decode cX3_pending 6 = .ok (.getfield 12, 3) := by decide +kernel
theorem dX3_pending_9 : decode cX3_pending 9 = .ok (.getfield 44, 3) := by decide +kernel
theorem dX3_pending_12 : decode cX3_pending 12 = .ok (.iload_n 1, 1) := by decide +kernel
theorem dX3_pending_13 : decode cX3_pending 13 = .ok (.aaload, 1) := by decide +kernel
theorem dX3_pending_14 : decode cX3_pending 14 = .ok (.getfield 94, 3) := by decide +kernel
theorem dX3_pending_17 : decode cX3_pending 17 = .ok (.getfield 52, 3) := by decide +kernel
theorem dX3_pending_20 : decode cX3_pending 20 = .ok (.ireturn, 1) := by decide +kernel
theorem dX3_resend_0 : decode cX3_resend 0 = .ok (.aload_n 0, 1) := by decide +kernel
theorem dX3_resend_1 : decode cX3_resend 1 = .ok (.iload_n 1, 1) := by decide +kernel
theorem dX3_resend_2 : decode cX3_resend 2 = .ok (.invokevirtual 38, 3) := by decide +kernel
theorem dX3_resend_5 : decode cX3_resend 5 = .ok (.aload_n 0, 1) := by decide +kernel
theorem dX3_resend_6 : decode cX3_resend 6 = .ok (.getfield 12, 3) := by decide +kernel
theorem dX3_resend_9 : decode cX3_resend 9 = .ok (.getfield 44, 3) := by decide +kernel
theorem dX3_resend_12 : decode cX3_resend 12 = .ok (.iload_n 1, 1) := by decide +kernel
theorem dX3_resend_13 : decode cX3_resend 13 = .ok (.aaload, 1) := by decide +kernel
theorem dX3_resend_14 : decode cX3_resend 14 = .ok (.getfield 94, 3) := by decide +kernel
theorem dX3_resend_17 : decode cX3_resend 17 = .ok (.astore_n 2, 1) := by decide +kernel
theorem dX3_resend_18 : decode cX3_resend 18 = .ok (.aload_n 2, 1) := by decide +kernel
theorem dX3_resend_19 : decode cX3_resend 19 = .ok (.getfield 52, 3) := by decide +kernel
theorem dX3_resend_22 : decode cX3_resend 22 = .ok (.istore_n 3, 1) := by decide +kernel
theorem dX3_resend_23 : decode cX3_resend 23 = .ok (.aload_n 0, 1) := by decide +kernel
theorem dX3_resend_24 : decode cX3_resend 24 = .ok (.getfield 12, 3) := by decide +kernel
theorem dX3_resend_27 : decode cX3_resend 27 = .ok (.getfield 48, 3) := by decide +kernel
theorem dX3_resend_30 : decode cX3_resend 30 = .ok (.getfield 52, 3) := by decide +kernel
theorem dX3_resend_33 : decode cX3_resend 33 = .ok (.iload_n 3, 1) := by decide +kernel
theorem dX3_resend_34 : decode cX3_resend 34 = .ok (.iadd, 1) := by decide +kernel
theorem dX3_resend_35 : decode cX3_resend 35 = .ok (.bipush 40, 2) := by decide +kernel
theorem dX3_resend_37 : decode cX3_resend 37 = .ok (.if_icmp .le 13, 3) := by decide +kernel
theorem dX3_resend_40 : decode cX3_resend 40 = .ok (.new 63, 3) := by decide +kernel
theorem dX3_resend_43 : decode cX3_resend 43 = .ok (.dup, 1) := by decide +kernel
theorem dX3_resend_44 : decode cX3_resend 44 = .ok (.ldc 97, 2) := by decide +kernel
theorem dX3_resend_46 : decode cX3_resend 46 = .ok (.invokespecial 67, 3) := by decide +kernel
theorem dX3_resend_49 : decode cX3_resend 49 = .ok (.athrow, 1) := by decide +kernel
theorem dX3_resend_50 : decode cX3_resend 50 = .ok (.aload_n 0, 1) := by decide +kernel
theorem dX3_resend_51 : decode cX3_resend 51 = .ok (.invokevirtual 31, 3) := by decide +kernel
theorem dX3_resend_54 : decode cX3_resend 54 = .ok (.iconst 0, 1) := by decide +kernel
theorem dX3_resend_55 : decode cX3_resend 55 = .ok (.istore 4, 2) := by decide +kernel
theorem dX3_resend_57 : decode cX3_resend 57 = .ok (.iload 4, 2) := by decide +kernel
theorem dX3_resend_59 : decode cX3_resend 59 = .ok (.iload_n 3, 1) := by decide +kernel
theorem dX3_resend_60 : decode cX3_resend 60 = .ok (.if_icmp .ge 22, 3) := by decide +kernel
theorem dX3_resend_63 : decode cX3_resend 63 = .ok (.aload_n 0, 1) := by decide +kernel
theorem dX3_resend_64 : decode cX3_resend 64 = .ok (.getfield 12, 3) := by decide +kernel
theorem dX3_resend_67 : decode cX3_resend 67 = .ok (.getfield 48, 3) := by decide +kernel
theorem dX3_resend_70 : decode cX3_resend 70 = .ok (.aload_n 2, 1) := by decide +kernel
theorem dX3_resend_71 : decode cX3_resend 71 = .ok (.iload 4, 2) := by decide +kernel
theorem dX3_resend_73 : decode cX3_resend 73 = .ok (.invokevirtual 99, 3) := by decide +kernel
theorem dX3_resend_76 : decode cX3_resend 76 = .ok (.iinc 4 1, 3) := by decide +kernel
theorem dX3_resend_79 : decode cX3_resend 79 = .ok (.goto (-22), 3) := by decide +kernel
theorem dX3_resend_82 : decode cX3_resend 82 = .ok (.aload_n 2, 1) := by decide +kernel
theorem dX3_resend_83 : decode cX3_resend 83 = .ok (.iconst 0, 1) := by decide +kernel
theorem dX3_resend_84 : decode cX3_resend 84 = .ok (.invokevirtual 103, 3) := by decide +kernel
theorem dX3_resend_87 : decode cX3_resend 87 = .ok (.iload_n 3, 1) := by decide +kernel
theorem dX3_resend_88 : decode cX3_resend 88 = .ok (.ireturn, 1) := by decide +kernel
theorem dX3_lie_0 : decode cX3_lie 0 = .ok (.aload_n 0, 1) := by decide +kernel
theorem dX3_lie_1 : decode cX3_lie 1 = .ok (.iload_n 1, 1) := by decide +kernel
theorem dX3_lie_2 : decode cX3_lie 2 = .ok (.invokevirtual 38, 3) := by decide +kernel
theorem dX3_lie_5 : decode cX3_lie 5 = .ok (.aload_n 0, 1) := by decide +kernel
theorem dX3_lie_6 : decode cX3_lie 6 = .ok (.invokevirtual 31, 3) := by decide +kernel
theorem dX3_lie_9 : decode cX3_lie 9 = .ok (.aload_n 0, 1) := by decide +kernel
theorem dX3_lie_10 : decode cX3_lie 10 = .ok (.getfield 12, 3) := by decide +kernel
theorem dX3_lie_13 : decode cX3_lie 13 = .ok (.getfield 44, 3) := by decide +kernel
theorem dX3_lie_16 : decode cX3_lie 16 = .ok (.iload_n 1, 1) := by decide +kernel
theorem dX3_lie_17 : decode cX3_lie 17 = .ok (.aaload, 1) := by decide +kernel
theorem dX3_lie_18 : decode cX3_lie 18 = .ok (.astore_n 2, 1) := by decide +kernel
theorem dX3_lie_19 : decode cX3_lie 19 = .ok (.aload_n 2, 1) := by decide +kernel
theorem dX3_lie_20 : decode cX3_lie 20 = .ok (.getfield 106, 3) := by decide +kernel
theorem dX3_lie_23 : decode cX3_lie 23 = .ok (.istore_n 3, 1) := by decide +kernel
theorem dX3_lie_24 : decode cX3_lie 24 = .ok (.aload_n 2, 1) := by decide +kernel
theorem dX3_lie_25 : decode cX3_lie 25 = .ok (.iconst 1, 1) := by decide +kernel
theorem dX3_lie_26 : decode cX3_lie 26 = .ok (.putfield 106, 3) := by decide +kernel
theorem dX3_lie_29 : decode cX3_lie 29 = .ok (.iload_n 3, 1) := by decide +kernel
theorem dX3_lie_30 : decode cX3_lie 30 = .ok (.ireturn, 1) := by decide +kernel
theorem dX3_tamper_0 : decode cX3_tamper 0 = .ok (.aload_n 0, 1) := by decide +kernel
theorem dX3_tamper_1 : decode cX3_tamper 1 = .ok (.iload_n 1, 1) := by decide +kernel
theorem dX3_tamper_2 : decode cX3_tamper 2 = .ok (.iload_n 2, 1) := by decide +kernel
theorem dX3_tamper_3 : decode cX3_tamper 3 = .ok (.invokevirtual 109, 3) := by decide +kernel
theorem dX3_tamper_6 : decode cX3_tamper 6 = .ok (.iload_n 3, 1) := by decide +kernel
theorem dX3_tamper_7 : decode cX3_tamper 7 = .ok (.invokestatic 41, 3) := by decide +kernel
theorem dX3_tamper_10 : decode cX3_tamper 10 = .ok (.aload_n 0, 1) := by decide +kernel
theorem dX3_tamper_11 : decode cX3_tamper 11 = .ok (.invokevirtual 31, 3) := by decide +kernel
theorem dX3_tamper_14 : decode cX3_tamper 14 = .ok (.aload_n 0, 1) := by decide +kernel
theorem dX3_tamper_15 : decode cX3_tamper 15 = .ok (.getfield 12, 3) := by decide +kernel
theorem dX3_tamper_18 : decode cX3_tamper 18 = .ok (.getfield 44, 3) := by decide +kernel
theorem dX3_tamper_21 : decode cX3_tamper 21 = .ok (.iload_n 1, 1) := by decide +kernel
theorem dX3_tamper_22 : decode cX3_tamper 22 = .ok (.aaload, 1) := by decide +kernel
theorem dX3_tamper_23 : decode cX3_tamper 23 = .ok (.astore 4, 2) := by decide +kernel
theorem dX3_tamper_25 : decode cX3_tamper 25 = .ok (.aload 4, 2) := by decide +kernel
theorem dX3_tamper_27 : decode cX3_tamper 27 = .ok (.getfield 113, 3) := by decide +kernel
theorem dX3_tamper_30 : decode cX3_tamper 30 = .ok (.iload_n 2, 1) := by decide +kernel
theorem dX3_tamper_31 : decode cX3_tamper 31 = .ok (.iconst 2, 1) := by decide +kernel
theorem dX3_tamper_32 : decode cX3_tamper 32 = .ok (.invokevirtual 116, 3) := by decide +kernel
theorem dX3_tamper_35 : decode cX3_tamper 35 = .ok (.istore 5, 2) := by decide +kernel
theorem dX3_tamper_37 : decode cX3_tamper 37 = .ok (.aload 4, 2) := by decide +kernel
theorem dX3_tamper_39 : decode cX3_tamper 39 = .ok (.getfield 113, 3) := by decide +kernel
theorem dX3_tamper_42 : decode cX3_tamper 42 = .ok (.iload_n 2, 1) := by decide +kernel
theorem dX3_tamper_43 : decode cX3_tamper 43 = .ok (.iconst 2, 1) := by decide +kernel
theorem dX3_tamper_44 : decode cX3_tamper 44 = .ok (.iload_n 3, 1) := by decide +kernel
theorem dX3_tamper_45 : decode cX3_tamper 45 = .ok (.invokevirtual 120, 3) := by decide +kernel
theorem dX3_tamper_48 : decode cX3_tamper 48 = .ok (.aload 4, 2) := by decide +kernel
theorem dX3_tamper_50 : decode cX3_tamper 50 = .ok (.iload_n 2, 1) := by decide +kernel
theorem dX3_tamper_51 : decode cX3_tamper 51 = .ok (.invokevirtual 124, 3) := by decide +kernel
theorem dX3_tamper_54 : decode cX3_tamper 54 = .ok (.iload 5, 2) := by decide +kernel
theorem dX3_tamper_56 : decode cX3_tamper 56 = .ok (.ireturn, 1) := by decide +kernel
theorem dX3_cut_0 : decode cX3_cut 0 = .ok (.aload_n 0, 1) := by decide +kernel
theorem dX3_cut_1 : decode cX3_cut 1 = .ok (.iload_n 1, 1) := by decide +kernel
theorem dX3_cut_2 : decode cX3_cut 2 = .ok (.invokevirtual 38, 3) := by decide +kernel
theorem dX3_cut_5 : decode cX3_cut 5 = .ok (.aload_n 0, 1) := by decide +kernel
theorem dX3_cut_6 : decode cX3_cut 6 = .ok (.getfield 12, 3) := by decide +kernel
theorem dX3_cut_9 : decode cX3_cut 9 = .ok (.getfield 44, 3) := by decide +kernel
theorem dX3_cut_12 : decode cX3_cut 12 = .ok (.iload_n 1, 1) := by decide +kernel
theorem dX3_cut_13 : decode cX3_cut 13 = .ok (.aaload, 1) := by decide +kernel
theorem dX3_cut_14 : decode cX3_cut 14 = .ok (.getfield 113, 3) := by decide +kernel
theorem dX3_cut_17 : decode cX3_cut 17 = .ok (.astore_n 3, 1) := by decide +kernel
theorem dX3_cut_18 : decode cX3_cut 18 = .ok (.iload_n 2, 1) := by decide +kernel
theorem dX3_cut_19 : decode cX3_cut 19 = .ok (.iconst 1, 1) := by decide +kernel
theorem dX3_cut_20 : decode cX3_cut 20 = .ok (.if_icmp .lt 11, 3) := by decide +kernel
theorem dX3_cut_23 : decode cX3_cut 23 = .ok (.iload_n 2, 1) := by decide +kernel
theorem dX3_cut_24 : decode cX3_cut 24 = .ok (.aload_n 3, 1) := by decide +kernel
theorem dX3_cut_25 : decode cX3_cut 25 = .ok (.getfield 52, 3) := by decide +kernel
theorem dX3_cut_28 : decode cX3_cut 28 = .ok (.if_icmp .le 13, 3) := by decide +kernel
theorem dX3_cut_31 : decode cX3_cut 31 = .ok (.new 24, 3) := by decide +kernel
theorem dX3_cut_34 : decode cX3_cut 34 = .ok (.dup, 1) := by decide +kernel
theorem dX3_cut_35 : decode cX3_cut 35 = .ok (.ldc 127, 2) := by decide +kernel
theorem dX3_cut_37 : decode cX3_cut 37 = .ok (.invokespecial 28, 3) := by decide +kernel
theorem dX3_cut_40 : decode cX3_cut 40 = .ok (.athrow, 1) := by decide +kernel
theorem dX3_cut_41 : decode cX3_cut 41 = .ok (.aload_n 0, 1) := by decide +kernel
theorem dX3_cut_42 : decode cX3_cut 42 = .ok (.invokevirtual 31, 3) := by decide +kernel
theorem dX3_cut_45 : decode cX3_cut 45 = .ok (.aload_n 3, 1) := by decide +kernel
theorem dX3_cut_46 : decode cX3_cut 46 = .ok (.aload_n 3, 1) := by decide +kernel
theorem dX3_cut_47 : decode cX3_cut 47 = .ok (.getfield 52, 3) := by decide +kernel
theorem dX3_cut_50 : decode cX3_cut 50 = .ok (.iload_n 2, 1) := by decide +kernel
theorem dX3_cut_51 : decode cX3_cut 51 = .ok (.isub, 1) := by decide +kernel
theorem dX3_cut_52 : decode cX3_cut 52 = .ok (.invokevirtual 103, 3) := by decide +kernel
theorem dX3_cut_55 : decode cX3_cut 55 = .ok (.aload_n 3, 1) := by decide +kernel
theorem dX3_cut_56 : decode cX3_cut 56 = .ok (.getfield 52, 3) := by decide +kernel
theorem dX3_cut_59 : decode cX3_cut 59 = .ok (.ireturn, 1) := by decide +kernel
theorem dX3_logLength_0 : decode cX3_logLength 0 = .ok (.aload_n 0, 1) := by decide +kernel
theorem dX3_logLength_1 : decode cX3_logLength 1 = .ok (.iload_n 1, 1) := by decide +kernel
theorem dX3_logLength_2 : decode cX3_logLength 2 = .ok (.invokevirtual 38, 3) := by decide +kernel
theorem dX3_logLength_5 : decode cX3_logLength 5 = .ok (.aload_n 0, 1) := by decide +kernel
theorem dX3_logLength_6 : decode cX3_logLength 6 = .ok (.getfield 12, 3) := by decide +kernel
theorem dX3_logLength_9 : decode cX3_logLength 9 = .ok (.getfield 44, 3) := by decide +kernel
theorem dX3_logLength_12 : decode cX3_logLength 12 = .ok (.iload_n 1, 1) := by decide +kernel
theorem dX3_logLength_13 : decode cX3_logLength 13 = .ok (.aaload, 1) := by decide +kernel
theorem dX3_logLength_14 : decode cX3_logLength 14 = .ok (.getfield 113, 3) := by decide +kernel
theorem dX3_logLength_17 : decode cX3_logLength 17 = .ok (.getfield 52, 3) := by decide +kernel
theorem dX3_logLength_20 : decode cX3_logLength 20 = .ok (.ireturn, 1) := by decide +kernel
theorem dX3_entry_0 : decode cX3_entry 0 = .ok (.aload_n 0, 1) := by decide +kernel
theorem dX3_entry_1 : decode cX3_entry 1 = .ok (.iload_n 1, 1) := by decide +kernel
theorem dX3_entry_2 : decode cX3_entry 2 = .ok (.iload_n 2, 1) := by decide +kernel
theorem dX3_entry_3 : decode cX3_entry 3 = .ok (.invokevirtual 109, 3) := by decide +kernel
theorem dX3_entry_6 : decode cX3_entry 6 = .ok (.aload_n 0, 1) := by decide +kernel
theorem dX3_entry_7 : decode cX3_entry 7 = .ok (.getfield 12, 3) := by decide +kernel
theorem dX3_entry_10 : decode cX3_entry 10 = .ok (.getfield 44, 3) := by decide +kernel
theorem dX3_entry_13 : decode cX3_entry 13 = .ok (.iload_n 1, 1) := by decide +kernel
theorem dX3_entry_14 : decode cX3_entry 14 = .ok (.aaload, 1) := by decide +kernel
theorem dX3_entry_15 : decode cX3_entry 15 = .ok (.iload_n 2, 1) := by decide +kernel
theorem dX3_entry_16 : decode cX3_entry 16 = .ok (.invokevirtual 129, 3) := by decide +kernel
theorem dX3_entry_19 : decode cX3_entry 19 = .ok (.ireturn, 1) := by decide +kernel
theorem dX3_chain_0 : decode cX3_chain 0 = .ok (.aload_n 0, 1) := by decide +kernel
theorem dX3_chain_1 : decode cX3_chain 1 = .ok (.iload_n 1, 1) := by decide +kernel
theorem dX3_chain_2 : decode cX3_chain 2 = .ok (.invokevirtual 38, 3) := by decide +kernel
theorem dX3_chain_5 : decode cX3_chain 5 = .ok (.aload_n 0, 1) := by decide +kernel
theorem dX3_chain_6 : decode cX3_chain 6 = .ok (.getfield 12, 3) := by decide +kernel
theorem dX3_chain_9 : decode cX3_chain 9 = .ok (.getfield 44, 3) := by decide +kernel
theorem dX3_chain_12 : decode cX3_chain 12 = .ok (.iload_n 1, 1) := by decide +kernel
theorem dX3_chain_13 : decode cX3_chain 13 = .ok (.aaload, 1) := by decide +kernel
theorem dX3_chain_14 : decode cX3_chain 14 = .ok (.astore_n 3, 1) := by decide +kernel
theorem dX3_chain_15 : decode cX3_chain 15 = .ok (.iload_n 2, 1) := by decide +kernel
theorem dX3_chain_16 : decode cX3_chain 16 = .ok (.ifCond .lt 14, 3) := by decide +kernel
theorem dX3_chain_19 : decode cX3_chain 19 = .ok (.iload_n 2, 1) := by decide +kernel
theorem dX3_chain_20 : decode cX3_chain 20 = .ok (.aload_n 3, 1) := by decide +kernel
theorem dX3_chain_21 : decode cX3_chain 21 = .ok (.getfield 113, 3) := by decide +kernel
theorem dX3_chain_24 : decode cX3_chain 24 = .ok (.getfield 52, 3) := by decide +kernel
theorem dX3_chain_27 : decode cX3_chain 27 = .ok (.if_icmp .le 13, 3) := by decide +kernel
theorem dX3_chain_30 : decode cX3_chain 30 = .ok (.new 133, 3) := by decide +kernel
theorem dX3_chain_33 : decode cX3_chain 33 = .ok (.dup, 1) := by decide +kernel
theorem dX3_chain_34 : decode cX3_chain 34 = .ok (.ldc 135, 2) := by decide +kernel
theorem dX3_chain_36 : decode cX3_chain 36 = .ok (.invokespecial 137, 3) := by decide +kernel
theorem dX3_chain_39 : decode cX3_chain 39 = .ok (.athrow, 1) := by decide +kernel
theorem dX3_chain_40 : decode cX3_chain 40 = .ok (.aload_n 3, 1) := by decide +kernel
theorem dX3_chain_41 : decode cX3_chain 41 = .ok (.iload_n 2, 1) := by decide +kernel
theorem dX3_chain_42 : decode cX3_chain 42 = .ok (.invokevirtual 138, 3) := by decide +kernel
theorem dX3_chain_45 : decode cX3_chain 45 = .ok (.ireturn, 1) := by decide +kernel
theorem dX3_held_0 : decode cX3_held 0 = .ok (.aload_n 0, 1) := by decide +kernel
theorem dX3_held_1 : decode cX3_held 1 = .ok (.iload_n 1, 1) := by decide +kernel
theorem dX3_held_2 : decode cX3_held 2 = .ok (.invokevirtual 38, 3) := by decide +kernel
theorem dX3_held_5 : decode cX3_held 5 = .ok (.aload_n 0, 1) := by decide +kernel
theorem dX3_held_6 : decode cX3_held 6 = .ok (.getfield 12, 3) := by decide +kernel
theorem dX3_held_9 : decode cX3_held 9 = .ok (.getfield 44, 3) := by decide +kernel
theorem dX3_held_12 : decode cX3_held 12 = .ok (.iload_n 1, 1) := by decide +kernel
theorem dX3_held_13 : decode cX3_held 13 = .ok (.aaload, 1) := by decide +kernel
theorem dX3_held_14 : decode cX3_held 14 = .ok (.getfield 141, 3) := by decide +kernel
theorem dX3_held_17 : decode cX3_held 17 = .ok (.getfield 52, 3) := by decide +kernel
theorem dX3_held_20 : decode cX3_held 20 = .ok (.ireturn, 1) := by decide +kernel
theorem dX3_authenticator_0 : decode cX3_authenticator 0 = .ok (.aload_n 0, 1) := by decide +kernel
theorem dX3_authenticator_1 : decode cX3_authenticator 1 = .ok (.iload_n 1, 1) := by decide +kernel
theorem dX3_authenticator_2 : decode cX3_authenticator 2 = .ok (.invokevirtual 38, 3) := by decide +kernel
theorem dX3_authenticator_5 : decode cX3_authenticator 5 = .ok (.aload_n 0, 1) := by decide +kernel
theorem dX3_authenticator_6 : decode cX3_authenticator 6 = .ok (.getfield 12, 3) := by decide +kernel
theorem dX3_authenticator_9 : decode cX3_authenticator 9 = .ok (.getfield 44, 3) := by decide +kernel
theorem dX3_authenticator_12 : decode cX3_authenticator 12 = .ok (.iload_n 1, 1) := by decide +kernel
theorem dX3_authenticator_13 : decode cX3_authenticator 13 = .ok (.aaload, 1) := by decide +kernel
theorem dX3_authenticator_14 : decode cX3_authenticator 14 = .ok (.getfield 141, 3) := by decide +kernel
theorem dX3_authenticator_17 : decode cX3_authenticator 17 = .ok (.astore 4, 2) := by decide +kernel
theorem dX3_authenticator_19 : decode cX3_authenticator 19 = .ok (.iload_n 2, 1) := by decide +kernel
theorem dX3_authenticator_20 : decode cX3_authenticator 20 = .ok (.ifCond .lt 12, 3) := by decide +kernel
theorem dX3_authenticator_23 : decode cX3_authenticator 23 = .ok (.iload_n 2, 1) := by decide +kernel
theorem dX3_authenticator_24 : decode cX3_authenticator 24 = .ok (.aload 4, 2) := by decide +kernel
theorem dX3_authenticator_26 : decode cX3_authenticator 26 = .ok (.getfield 52, 3) := by decide +kernel
theorem dX3_authenticator_29 : decode cX3_authenticator 29 = .ok (.if_icmp .lt 13, 3) := by decide +kernel
theorem dX3_authenticator_32 : decode cX3_authenticator 32 = .ok (.new 133, 3) := by decide +kernel
theorem dX3_authenticator_35 : decode cX3_authenticator 35 = .ok (.dup, 1) := by decide +kernel
theorem dX3_authenticator_36 : decode cX3_authenticator 36 = .ok (.ldc 144, 2) := by decide +kernel
theorem dX3_authenticator_38 : decode cX3_authenticator 38 = .ok (.invokespecial 137, 3) := by decide +kernel
theorem dX3_authenticator_41 : decode cX3_authenticator 41 = .ok (.athrow, 1) := by decide +kernel
theorem dX3_authenticator_42 : decode cX3_authenticator 42 = .ok (.iload_n 3, 1) := by decide +kernel
theorem dX3_authenticator_43 : decode cX3_authenticator 43 = .ok (.ifCond .lt 8, 3) := by decide +kernel
theorem dX3_authenticator_46 : decode cX3_authenticator 46 = .ok (.iload_n 3, 1) := by decide +kernel
theorem dX3_authenticator_47 : decode cX3_authenticator 47 = .ok (.iconst 3, 1) := by decide +kernel
theorem dX3_authenticator_48 : decode cX3_authenticator 48 = .ok (.if_icmp .lt 13, 3) := by decide +kernel
theorem dX3_authenticator_51 : decode cX3_authenticator 51 = .ok (.new 24, 3) := by decide +kernel
theorem dX3_authenticator_54 : decode cX3_authenticator 54 = .ok (.dup, 1) := by decide +kernel
theorem dX3_authenticator_55 : decode cX3_authenticator 55 = .ok (.ldc 146, 2) := by decide +kernel
theorem dX3_authenticator_57 : decode cX3_authenticator 57 = .ok (.invokespecial 28, 3) := by decide +kernel
theorem dX3_authenticator_60 : decode cX3_authenticator 60 = .ok (.athrow, 1) := by decide +kernel
theorem dX3_authenticator_61 : decode cX3_authenticator 61 = .ok (.aload 4, 2) := by decide +kernel
theorem dX3_authenticator_63 : decode cX3_authenticator 63 = .ok (.iload_n 2, 1) := by decide +kernel
theorem dX3_authenticator_64 : decode cX3_authenticator 64 = .ok (.iload_n 3, 1) := by decide +kernel
theorem dX3_authenticator_65 : decode cX3_authenticator 65 = .ok (.invokevirtual 116, 3) := by decide +kernel
theorem dX3_authenticator_68 : decode cX3_authenticator 68 = .ok (.ireturn, 1) := by decide +kernel
theorem dX3_setWitnesses_0 : decode cX3_setWitnesses 0 = .ok (.aload_n 0, 1) := by decide +kernel
theorem dX3_setWitnesses_1 : decode cX3_setWitnesses 1 = .ok (.iload_n 1, 1) := by decide +kernel
theorem dX3_setWitnesses_2 : decode cX3_setWitnesses 2 = .ok (.invokevirtual 38, 3) := by decide +kernel
theorem dX3_setWitnesses_5 : decode cX3_setWitnesses 5 = .ok (.iload_n 2, 1) := by decide +kernel
theorem dX3_setWitnesses_6 : decode cX3_setWitnesses 6 = .ok (.iload_n 1, 1) := by decide +kernel
theorem dX3_setWitnesses_7 : decode cX3_setWitnesses 7 = .ok (.aload_n 0, 1) := by decide +kernel
theorem dX3_setWitnesses_8 : decode cX3_setWitnesses 8 = .ok (.getfield 12, 3) := by decide +kernel
theorem dX3_setWitnesses_11 : decode cX3_setWitnesses 11 = .ok (.getfield 34, 3) := by decide +kernel
theorem dX3_setWitnesses_14 : decode cX3_setWitnesses 14 = .ok (.invokestatic 148, 3) := by decide +kernel
theorem dX3_setWitnesses_17 : decode cX3_setWitnesses 17 = .ok (.iconst (-1), 1) := by decide +kernel
theorem dX3_setWitnesses_18 : decode cX3_setWitnesses 18 = .ok (.ixor, 1) := by decide +kernel
theorem dX3_setWitnesses_19 : decode cX3_setWitnesses 19 = .ok (.iand, 1) := by decide +kernel
theorem dX3_setWitnesses_20 : decode cX3_setWitnesses 20 = .ok (.ifCond .eq 13, 3) := by decide +kernel
theorem dX3_setWitnesses_23 : decode cX3_setWitnesses 23 = .ok (.new 24, 3) := by decide +kernel
theorem dX3_setWitnesses_26 : decode cX3_setWitnesses 26 = .ok (.dup, 1) := by decide +kernel
theorem dX3_setWitnesses_27 : decode cX3_setWitnesses 27 = .ok (.ldc 151, 2) := by decide +kernel
theorem dX3_setWitnesses_29 : decode cX3_setWitnesses 29 = .ok (.invokespecial 28, 3) := by decide +kernel
theorem dX3_setWitnesses_32 : decode cX3_setWitnesses 32 = .ok (.athrow, 1) := by decide +kernel
theorem dX3_setWitnesses_33 : decode cX3_setWitnesses 33 = .ok (.aload_n 0, 1) := by decide +kernel
theorem dX3_setWitnesses_34 : decode cX3_setWitnesses 34 = .ok (.invokevirtual 31, 3) := by decide +kernel
theorem dX3_setWitnesses_37 : decode cX3_setWitnesses 37 = .ok (.aload_n 0, 1) := by decide +kernel
theorem dX3_setWitnesses_38 : decode cX3_setWitnesses 38 = .ok (.getfield 12, 3) := by decide +kernel
theorem dX3_setWitnesses_41 : decode cX3_setWitnesses 41 = .ok (.getfield 44, 3) := by decide +kernel
theorem dX3_setWitnesses_44 : decode cX3_setWitnesses 44 = .ok (.iload_n 1, 1) := by decide +kernel
theorem dX3_setWitnesses_45 : decode cX3_setWitnesses 45 = .ok (.aaload, 1) := by decide +kernel
theorem dX3_setWitnesses_46 : decode cX3_setWitnesses 46 = .ok (.astore_n 3, 1) := by decide +kernel
theorem dX3_setWitnesses_47 : decode cX3_setWitnesses 47 = .ok (.aload_n 3, 1) := by decide +kernel
theorem dX3_setWitnesses_48 : decode cX3_setWitnesses 48 = .ok (.getfield 153, 3) := by decide +kernel
theorem dX3_setWitnesses_51 : decode cX3_setWitnesses 51 = .ok (.istore 4, 2) := by decide +kernel
theorem dX3_setWitnesses_53 : decode cX3_setWitnesses 53 = .ok (.aload_n 3, 1) := by decide +kernel
theorem dX3_setWitnesses_54 : decode cX3_setWitnesses 54 = .ok (.iload_n 2, 1) := by decide +kernel
theorem dX3_setWitnesses_55 : decode cX3_setWitnesses 55 = .ok (.putfield 153, 3) := by decide +kernel
theorem dX3_setWitnesses_58 : decode cX3_setWitnesses 58 = .ok (.iload 4, 2) := by decide +kernel
theorem dX3_setWitnesses_60 : decode cX3_setWitnesses 60 = .ok (.ireturn, 1) := by decide +kernel
theorem dX3_audit_0 : decode cX3_audit 0 = .ok (.aload_n 0, 1) := by decide +kernel
theorem dX3_audit_1 : decode cX3_audit 1 = .ok (.iload_n 1, 1) := by decide +kernel
theorem dX3_audit_2 : decode cX3_audit 2 = .ok (.invokevirtual 38, 3) := by decide +kernel
theorem dX3_audit_5 : decode cX3_audit 5 = .ok (.aload_n 0, 1) := by decide +kernel
theorem dX3_audit_6 : decode cX3_audit 6 = .ok (.iload_n 2, 1) := by decide +kernel
theorem dX3_audit_7 : decode cX3_audit 7 = .ok (.invokevirtual 38, 3) := by decide +kernel
theorem dX3_audit_10 : decode cX3_audit 10 = .ok (.aload_n 0, 1) := by decide +kernel
theorem dX3_audit_11 : decode cX3_audit 11 = .ok (.getfield 12, 3) := by decide +kernel
theorem dX3_audit_14 : decode cX3_audit 14 = .ok (.getfield 44, 3) := by decide +kernel
theorem dX3_audit_17 : decode cX3_audit 17 = .ok (.iload_n 2, 1) := by decide +kernel
theorem dX3_audit_18 : decode cX3_audit 18 = .ok (.aaload, 1) := by decide +kernel
theorem dX3_audit_19 : decode cX3_audit 19 = .ok (.astore_n 3, 1) := by decide +kernel
theorem dX3_audit_20 : decode cX3_audit 20 = .ok (.aload_n 3, 1) := by decide +kernel
theorem dX3_audit_21 : decode cX3_audit 21 = .ok (.iload_n 1, 1) := by decide +kernel
theorem dX3_audit_22 : decode cX3_audit 22 = .ok (.invokevirtual 156, 3) := by decide +kernel
theorem dX3_audit_25 : decode cX3_audit 25 = .ok (.ifCond .ne 13, 3) := by decide +kernel
theorem dX3_audit_28 : decode cX3_audit 28 = .ok (.new 63, 3) := by decide +kernel
theorem dX3_audit_31 : decode cX3_audit 31 = .ok (.dup, 1) := by decide +kernel
theorem dX3_audit_32 : decode cX3_audit 32 = .ok (.ldc 159, 2) := by decide +kernel
theorem dX3_audit_34 : decode cX3_audit 34 = .ok (.invokespecial 67, 3) := by decide +kernel
theorem dX3_audit_37 : decode cX3_audit 37 = .ok (.athrow, 1) := by decide +kernel
theorem dX3_audit_38 : decode cX3_audit 38 = .ok (.aload_n 0, 1) := by decide +kernel
theorem dX3_audit_39 : decode cX3_audit 39 = .ok (.invokevirtual 31, 3) := by decide +kernel
theorem dX3_audit_42 : decode cX3_audit 42 = .ok (.aload_n 3, 1) := by decide +kernel
theorem dX3_audit_43 : decode cX3_audit 43 = .ok (.getfield 161, 3) := by decide +kernel
theorem dX3_audit_46 : decode cX3_audit 46 = .ok (.iload_n 1, 1) := by decide +kernel
theorem dX3_audit_47 : decode cX3_audit 47 = .ok (.aload_n 0, 1) := by decide +kernel
theorem dX3_audit_48 : decode cX3_audit 48 = .ok (.getfield 12, 3) := by decide +kernel
theorem dX3_audit_51 : decode cX3_audit 51 = .ok (.iload_n 1, 1) := by decide +kernel
theorem dX3_audit_52 : decode cX3_audit 52 = .ok (.aload_n 3, 1) := by decide +kernel
theorem dX3_audit_53 : decode cX3_audit 53 = .ok (.invokevirtual 165, 3) := by decide +kernel
theorem dX3_audit_56 : decode cX3_audit 56 = .ok (.iastore, 1) := by decide +kernel
theorem dX3_audit_57 : decode cX3_audit 57 = .ok (.aload_n 3, 1) := by decide +kernel
theorem dX3_audit_58 : decode cX3_audit 58 = .ok (.getfield 161, 3) := by decide +kernel
theorem dX3_audit_61 : decode cX3_audit 61 = .ok (.iload_n 1, 1) := by decide +kernel
theorem dX3_audit_62 : decode cX3_audit 62 = .ok (.iaload, 1) := by decide +kernel
theorem dX3_audit_63 : decode cX3_audit 63 = .ok (.ireturn, 1) := by decide +kernel
theorem dX3_auditAll_0 : decode cX3_auditAll 0 = .ok (.aload_n 0, 1) := by decide +kernel
theorem dX3_auditAll_1 : decode cX3_auditAll 1 = .ok (.invokevirtual 31, 3) := by decide +kernel
theorem dX3_auditAll_4 : decode cX3_auditAll 4 = .ok (.iconst 0, 1) := by decide +kernel
theorem dX3_auditAll_5 : decode cX3_auditAll 5 = .ok (.istore_n 1, 1) := by decide +kernel
theorem dX3_auditAll_6 : decode cX3_auditAll 6 = .ok (.iconst 0, 1) := by decide +kernel
theorem dX3_auditAll_7 : decode cX3_auditAll 7 = .ok (.istore_n 2, 1) := by decide +kernel
theorem dX3_auditAll_8 : decode cX3_auditAll 8 = .ok (.iload_n 2, 1) := by decide +kernel
theorem dX3_auditAll_9 : decode cX3_auditAll 9 = .ok (.aload_n 0, 1) := by decide +kernel
theorem dX3_auditAll_10 : decode cX3_auditAll 10 = .ok (.getfield 12, 3) := by decide +kernel
theorem dX3_auditAll_13 : decode cX3_auditAll 13 = .ok (.getfield 34, 3) := by decide +kernel
theorem dX3_auditAll_16 : decode cX3_auditAll 16 = .ok (.if_icmp .ge 28, 3) := by decide +kernel
theorem dX3_auditAll_19 : decode cX3_auditAll 19 = .ok (.iload_n 1, 1) := by decide +kernel
theorem dX3_auditAll_20 : decode cX3_auditAll 20 = .ok (.aload_n 0, 1) := by decide +kernel
theorem dX3_auditAll_21 : decode cX3_auditAll 21 = .ok (.getfield 12, 3) := by decide +kernel
theorem dX3_auditAll_24 : decode cX3_auditAll 24 = .ok (.aload_n 0, 1) := by decide +kernel
theorem dX3_auditAll_25 : decode cX3_auditAll 25 = .ok (.getfield 12, 3) := by decide +kernel
theorem dX3_auditAll_28 : decode cX3_auditAll 28 = .ok (.getfield 44, 3) := by decide +kernel
theorem dX3_auditAll_31 : decode cX3_auditAll 31 = .ok (.iload_n 2, 1) := by decide +kernel
theorem dX3_auditAll_32 : decode cX3_auditAll 32 = .ok (.aaload, 1) := by decide +kernel
theorem dX3_auditAll_33 : decode cX3_auditAll 33 = .ok (.invokevirtual 169, 3) := by decide +kernel
theorem dX3_auditAll_36 : decode cX3_auditAll 36 = .ok (.iadd, 1) := by decide +kernel
theorem dX3_auditAll_37 : decode cX3_auditAll 37 = .ok (.istore_n 1, 1) := by decide +kernel
theorem dX3_auditAll_38 : decode cX3_auditAll 38 = .ok (.iinc 2 1, 3) := by decide +kernel
theorem dX3_auditAll_41 : decode cX3_auditAll 41 = .ok (.goto (-33), 3) := by decide +kernel
theorem dX3_auditAll_44 : decode cX3_auditAll 44 = .ok (.iload_n 1, 1) := by decide +kernel
theorem dX3_auditAll_45 : decode cX3_auditAll 45 = .ok (.ireturn, 1) := by decide +kernel
theorem dX3_verdict_0 : decode cX3_verdict 0 = .ok (.aload_n 0, 1) := by decide +kernel
theorem dX3_verdict_1 : decode cX3_verdict 1 = .ok (.iload_n 1, 1) := by decide +kernel
theorem dX3_verdict_2 : decode cX3_verdict 2 = .ok (.invokevirtual 38, 3) := by decide +kernel
theorem dX3_verdict_5 : decode cX3_verdict 5 = .ok (.aload_n 0, 1) := by decide +kernel
theorem dX3_verdict_6 : decode cX3_verdict 6 = .ok (.iload_n 2, 1) := by decide +kernel
theorem dX3_verdict_7 : decode cX3_verdict 7 = .ok (.invokevirtual 38, 3) := by decide +kernel
theorem dX3_verdict_10 : decode cX3_verdict 10 = .ok (.aload_n 0, 1) := by decide +kernel
theorem dX3_verdict_11 : decode cX3_verdict 11 = .ok (.getfield 12, 3) := by decide +kernel
theorem dX3_verdict_14 : decode cX3_verdict 14 = .ok (.getfield 44, 3) := by decide +kernel
theorem dX3_verdict_17 : decode cX3_verdict 17 = .ok (.iload_n 2, 1) := by decide +kernel
theorem dX3_verdict_18 : decode cX3_verdict 18 = .ok (.aaload, 1) := by decide +kernel
theorem dX3_verdict_19 : decode cX3_verdict 19 = .ok (.getfield 161, 3) := by decide +kernel
theorem dX3_verdict_22 : decode cX3_verdict 22 = .ok (.iload_n 1, 1) := by decide +kernel
theorem dX3_verdict_23 : decode cX3_verdict 23 = .ok (.iaload, 1) := by decide +kernel
theorem dX3_verdict_24 : decode cX3_verdict 24 = .ok (.ireturn, 1) := by decide +kernel
theorem dX3_verdictMask_0 : decode cX3_verdictMask 0 = .ok (.iload_n 1, 1) := by decide +kernel
theorem dX3_verdictMask_1 : decode cX3_verdictMask 1 = .ok (.ifCond .lt 8, 3) := by decide +kernel
theorem dX3_verdictMask_4 : decode cX3_verdictMask 4 = .ok (.iload_n 1, 1) := by decide +kernel
theorem dX3_verdictMask_5 : decode cX3_verdictMask 5 = .ok (.iconst 2, 1) := by decide +kernel
theorem dX3_verdictMask_6 : decode cX3_verdictMask 6 = .ok (.if_icmp .le 13, 3) := by decide +kernel
theorem dX3_verdictMask_9 : decode cX3_verdictMask 9 = .ok (.new 24, 3) := by decide +kernel
theorem dX3_verdictMask_12 : decode cX3_verdictMask 12 = .ok (.dup, 1) := by decide +kernel
theorem dX3_verdictMask_13 : decode cX3_verdictMask 13 = .ok (.ldc 173, 2) := by decide +kernel
theorem dX3_verdictMask_15 : decode cX3_verdictMask 15 = .ok (.invokespecial 28, 3) := by decide +kernel
theorem dX3_verdictMask_18 : decode cX3_verdictMask 18 = .ok (.athrow, 1) := by decide +kernel
theorem dX3_verdictMask_19 : decode cX3_verdictMask 19 = .ok (.iconst 0, 1) := by decide +kernel
theorem dX3_verdictMask_20 : decode cX3_verdictMask 20 = .ok (.istore_n 2, 1) := by decide +kernel
theorem dX3_verdictMask_21 : decode cX3_verdictMask 21 = .ok (.iconst 0, 1) := by decide +kernel
theorem dX3_verdictMask_22 : decode cX3_verdictMask 22 = .ok (.istore_n 3, 1) := by decide +kernel
theorem dX3_verdictMask_23 : decode cX3_verdictMask 23 = .ok (.iload_n 3, 1) := by decide +kernel
theorem dX3_verdictMask_24 : decode cX3_verdictMask 24 = .ok (.aload_n 0, 1) := by decide +kernel
theorem dX3_verdictMask_25 : decode cX3_verdictMask 25 = .ok (.getfield 12, 3) := by decide +kernel
theorem dX3_verdictMask_28 : decode cX3_verdictMask 28 = .ok (.getfield 34, 3) := by decide +kernel
theorem dX3_verdictMask_31 : decode cX3_verdictMask 31 = .ok (.if_icmp .ge 35, 3) := by decide +kernel
theorem dX3_verdictMask_34 : decode cX3_verdictMask 34 = .ok (.aload_n 0, 1) := by decide +kernel
theorem dX3_verdictMask_35 : decode cX3_verdictMask 35 = .ok (.getfield 12, 3) := by decide +kernel
theorem dX3_verdictMask_38 : decode cX3_verdictMask 38 = .ok (.aload_n 0, 1) := by decide +kernel
theorem dX3_verdictMask_39 : decode cX3_verdictMask 39 = .ok (.getfield 12, 3) := by decide +kernel
theorem dX3_verdictMask_42 : decode cX3_verdictMask 42 = .ok (.getfield 44, 3) := by decide +kernel
theorem dX3_verdictMask_45 : decode cX3_verdictMask 45 = .ok (.iload_n 3, 1) := by decide +kernel
theorem dX3_verdictMask_46 : decode cX3_verdictMask 46 = .ok (.aaload, 1) := by decide +kernel
theorem dX3_verdictMask_47 : decode cX3_verdictMask 47 = .ok (.iload_n 1, 1) := by decide +kernel
theorem dX3_verdictMask_48 : decode cX3_verdictMask 48 = .ok (.invokevirtual 175, 3) := by decide +kernel
theorem dX3_verdictMask_51 : decode cX3_verdictMask 51 = .ok (.ifCond .eq 9, 3) := by decide +kernel
theorem dX3_verdictMask_54 : decode cX3_verdictMask 54 = .ok (.iload_n 2, 1) := by decide +kernel
theorem dX3_verdictMask_55 : decode cX3_verdictMask 55 = .ok (.iconst 1, 1) := by decide +kernel
theorem dX3_verdictMask_56 : decode cX3_verdictMask 56 = .ok (.iload_n 3, 1) := by decide +kernel
theorem dX3_verdictMask_57 : decode cX3_verdictMask 57 = .ok (.ishl, 1) := by decide +kernel
theorem dX3_verdictMask_58 : decode cX3_verdictMask 58 = .ok (.ior, 1) := by decide +kernel
theorem dX3_verdictMask_59 : decode cX3_verdictMask 59 = .ok (.istore_n 2, 1) := by decide +kernel
theorem dX3_verdictMask_60 : decode cX3_verdictMask 60 = .ok (.iinc 3 1, 3) := by decide +kernel
theorem dX3_verdictMask_63 : decode cX3_verdictMask 63 = .ok (.goto (-40), 3) := by decide +kernel
theorem dX3_verdictMask_66 : decode cX3_verdictMask 66 = .ok (.iload_n 2, 1) := by decide +kernel
theorem dX3_verdictMask_67 : decode cX3_verdictMask 67 = .ok (.ireturn, 1) := by decide +kernel
theorem dX3_evidenceCount_0 : decode cX3_evidenceCount 0 = .ok (.aload_n 0, 1) := by decide +kernel
theorem dX3_evidenceCount_1 : decode cX3_evidenceCount 1 = .ok (.getfield 12, 3) := by decide +kernel
theorem dX3_evidenceCount_4 : decode cX3_evidenceCount 4 = .ok (.getfield 179, 3) := by decide +kernel
theorem dX3_evidenceCount_7 : decode cX3_evidenceCount 7 = .ok (.getfield 52, 3) := by decide +kernel
theorem dX3_evidenceCount_10 : decode cX3_evidenceCount 10 = .ok (.ireturn, 1) := by decide +kernel
theorem dX3_evidence_0 : decode cX3_evidence 0 = .ok (.iload_n 1, 1) := by decide +kernel
theorem dX3_evidence_1 : decode cX3_evidence 1 = .ok (.ifCond .lt 17, 3) := by decide +kernel
theorem dX3_evidence_4 : decode cX3_evidence 4 = .ok (.iload_n 1, 1) := by decide +kernel
theorem dX3_evidence_5 : decode cX3_evidence 5 = .ok (.aload_n 0, 1) := by decide +kernel
theorem dX3_evidence_6 : decode cX3_evidence 6 = .ok (.getfield 12, 3) := by decide +kernel
theorem dX3_evidence_9 : decode cX3_evidence 9 = .ok (.getfield 179, 3) := by decide +kernel
theorem dX3_evidence_12 : decode cX3_evidence 12 = .ok (.getfield 52, 3) := by decide +kernel
theorem dX3_evidence_15 : decode cX3_evidence 15 = .ok (.if_icmp .lt 13, 3) := by decide +kernel
theorem dX3_evidence_18 : decode cX3_evidence 18 = .ok (.new 133, 3) := by decide +kernel
theorem dX3_evidence_21 : decode cX3_evidence 21 = .ok (.dup, 1) := by decide +kernel
theorem dX3_evidence_22 : decode cX3_evidence 22 = .ok (.ldc 182, 2) := by decide +kernel
theorem dX3_evidence_24 : decode cX3_evidence 24 = .ok (.invokespecial 137, 3) := by decide +kernel
theorem dX3_evidence_27 : decode cX3_evidence 27 = .ok (.athrow, 1) := by decide +kernel
theorem dX3_evidence_28 : decode cX3_evidence 28 = .ok (.iload_n 2, 1) := by decide +kernel
theorem dX3_evidence_29 : decode cX3_evidence 29 = .ok (.ifCond .lt 8, 3) := by decide +kernel
theorem dX3_evidence_32 : decode cX3_evidence 32 = .ok (.iload_n 2, 1) := by decide +kernel
theorem dX3_evidence_33 : decode cX3_evidence 33 = .ok (.iconst 4, 1) := by decide +kernel
theorem dX3_evidence_34 : decode cX3_evidence 34 = .ok (.if_icmp .lt 13, 3) := by decide +kernel
theorem dX3_evidence_37 : decode cX3_evidence 37 = .ok (.new 24, 3) := by decide +kernel
theorem dX3_evidence_40 : decode cX3_evidence 40 = .ok (.dup, 1) := by decide +kernel
theorem dX3_evidence_41 : decode cX3_evidence 41 = .ok (.ldc 146, 2) := by decide +kernel
theorem dX3_evidence_43 : decode cX3_evidence 43 = .ok (.invokespecial 28, 3) := by decide +kernel
theorem dX3_evidence_46 : decode cX3_evidence 46 = .ok (.athrow, 1) := by decide +kernel
theorem dX3_evidence_47 : decode cX3_evidence 47 = .ok (.aload_n 0, 1) := by decide +kernel
theorem dX3_evidence_48 : decode cX3_evidence 48 = .ok (.getfield 12, 3) := by decide +kernel
theorem dX3_evidence_51 : decode cX3_evidence 51 = .ok (.getfield 179, 3) := by decide +kernel
theorem dX3_evidence_54 : decode cX3_evidence 54 = .ok (.iload_n 1, 1) := by decide +kernel
theorem dX3_evidence_55 : decode cX3_evidence 55 = .ok (.iload_n 2, 1) := by decide +kernel
theorem dX3_evidence_56 : decode cX3_evidence 56 = .ok (.invokevirtual 116, 3) := by decide +kernel
theorem dX3_evidence_59 : decode cX3_evidence 59 = .ok (.ireturn, 1) := by decide +kernel
theorem dX3_undo_0 : decode cX3_undo 0 = .ok (.aload_n 0, 1) := by decide +kernel
theorem dX3_undo_1 : decode cX3_undo 1 = .ok (.getfield 184, 3) := by decide +kernel
theorem dX3_undo_4 : decode cX3_undo 4 = .ok (.ifCond .ne 13, 3) := by decide +kernel
theorem dX3_undo_7 : decode cX3_undo 7 = .ok (.new 63, 3) := by decide +kernel
theorem dX3_undo_10 : decode cX3_undo 10 = .ok (.dup, 1) := by decide +kernel
theorem dX3_undo_11 : decode cX3_undo 11 = .ok (.ldc 187, 2) := by decide +kernel
theorem dX3_undo_13 : decode cX3_undo 13 = .ok (.invokespecial 67, 3) := by decide +kernel
theorem dX3_undo_16 : decode cX3_undo 16 = .ok (.athrow, 1) := by decide +kernel
theorem dX3_undo_17 : decode cX3_undo 17 = .ok (.aload_n 0, 1) := by decide +kernel
theorem dX3_undo_18 : decode cX3_undo 18 = .ok (.aload_n 0, 1) := by decide +kernel
theorem dX3_undo_19 : decode cX3_undo 19 = .ok (.getfield 189, 3) := by decide +kernel
theorem dX3_undo_22 : decode cX3_undo 22 = .ok (.iconst 4, 1) := by decide +kernel
theorem dX3_undo_23 : decode cX3_undo 23 = .ok (.iadd, 1) := by decide +kernel
theorem dX3_undo_24 : decode cX3_undo 24 = .ok (.iconst 1, 1) := by decide +kernel
theorem dX3_undo_25 : decode cX3_undo 25 = .ok (.isub, 1) := by decide +kernel
theorem dX3_undo_26 : decode cX3_undo 26 = .ok (.iconst 4, 1) := by decide +kernel
theorem dX3_undo_27 : decode cX3_undo 27 = .ok (.irem, 1) := by decide +kernel
theorem dX3_undo_28 : decode cX3_undo 28 = .ok (.putfield 189, 3) := by decide +kernel
theorem dX3_undo_31 : decode cX3_undo 31 = .ok (.aload_n 0, 1) := by decide +kernel
theorem dX3_undo_32 : decode cX3_undo 32 = .ok (.getfield 12, 3) := by decide +kernel
theorem dX3_undo_35 : decode cX3_undo 35 = .ok (.aload_n 0, 1) := by decide +kernel
theorem dX3_undo_36 : decode cX3_undo 36 = .ok (.getfield 20, 3) := by decide +kernel
theorem dX3_undo_39 : decode cX3_undo 39 = .ok (.aload_n 0, 1) := by decide +kernel
theorem dX3_undo_40 : decode cX3_undo 40 = .ok (.getfield 189, 3) := by decide +kernel
theorem dX3_undo_43 : decode cX3_undo 43 = .ok (.aaload, 1) := by decide +kernel
theorem dX3_undo_44 : decode cX3_undo 44 = .ok (.invokevirtual 192, 3) := by decide +kernel
theorem dX3_undo_47 : decode cX3_undo 47 = .ok (.aload_n 0, 1) := by decide +kernel
theorem dX3_undo_48 : decode cX3_undo 48 = .ok (.dup, 1) := by decide +kernel
theorem dX3_undo_49 : decode cX3_undo 49 = .ok (.getfield 184, 3) := by decide +kernel
theorem dX3_undo_52 : decode cX3_undo 52 = .ok (.iconst 1, 1) := by decide +kernel
theorem dX3_undo_53 : decode cX3_undo 53 = .ok (.isub, 1) := by decide +kernel
theorem dX3_undo_54 : decode cX3_undo 54 = .ok (.putfield 184, 3) := by decide +kernel
theorem dX3_undo_57 : decode cX3_undo 57 = .ok (.aload_n 0, 1) := by decide +kernel
theorem dX3_undo_58 : decode cX3_undo 58 = .ok (.getfield 184, 3) := by decide +kernel
theorem dX3_undo_61 : decode cX3_undo 61 = .ok (.ireturn, 1) := by decide +kernel
theorem dX3_digest_0 : decode cX3_digest 0 = .ok (.ldc2_w 196, 3) := by decide +kernel
theorem dX3_digest_3 : decode cX3_digest 3 = .ok (.aload_n 0, 1) := by decide +kernel
theorem dX3_digest_4 : decode cX3_digest 4 = .ok (.getfield 184, 3) := by decide +kernel
theorem dX3_digest_7 : decode cX3_digest 7 = .ok (.i2l, 1) := by decide +kernel
theorem dX3_digest_8 : decode cX3_digest 8 = .ok (.invokestatic 198, 3) := by decide +kernel
theorem dX3_digest_11 : decode cX3_digest 11 = .ok (.lstore_n 1, 1) := by decide +kernel
theorem dX3_digest_12 : decode cX3_digest 12 = .ok (.lload_n 1, 1) := by decide +kernel
theorem dX3_digest_13 : decode cX3_digest 13 = .ok (.aload_n 0, 1) := by decide +kernel
theorem dX3_digest_14 : decode cX3_digest 14 = .ok (.getfield 12, 3) := by decide +kernel
theorem dX3_digest_17 : decode cX3_digest 17 = .ok (.getfield 34, 3) := by decide +kernel
theorem dX3_digest_20 : decode cX3_digest 20 = .ok (.i2l, 1) := by decide +kernel
theorem dX3_digest_21 : decode cX3_digest 21 = .ok (.invokestatic 198, 3) := by decide +kernel
theorem dX3_digest_24 : decode cX3_digest 24 = .ok (.lstore_n 1, 1) := by decide +kernel
theorem dX3_digest_25 : decode cX3_digest 25 = .ok (.iconst 0, 1) := by decide +kernel
theorem dX3_digest_26 : decode cX3_digest 26 = .ok (.istore_n 3, 1) := by decide +kernel
theorem dX3_digest_27 : decode cX3_digest 27 = .ok (.iload_n 3, 1) := by decide +kernel
theorem dX3_digest_28 : decode cX3_digest 28 = .ok (.aload_n 0, 1) := by decide +kernel
theorem dX3_digest_29 : decode cX3_digest 29 = .ok (.getfield 12, 3) := by decide +kernel
theorem dX3_digest_32 : decode cX3_digest 32 = .ok (.getfield 34, 3) := by decide +kernel
theorem dX3_digest_35 : decode cX3_digest 35 = .ok (.if_icmp .ge 30, 3) := by decide +kernel
theorem dX3_digest_38 : decode cX3_digest 38 = .ok (.lload_n 1, 1) := by decide +kernel
theorem dX3_digest_39 : decode cX3_digest 39 = .ok (.aload_n 0, 1) := by decide +kernel
theorem dX3_digest_40 : decode cX3_digest 40 = .ok (.getfield 12, 3) := by decide +kernel
theorem dX3_digest_43 : decode cX3_digest 43 = .ok (.getfield 44, 3) := by decide +kernel
theorem dX3_digest_46 : decode cX3_digest 46 = .ok (.iload_n 3, 1) := by decide +kernel
theorem dX3_digest_47 : decode cX3_digest 47 = .ok (.aaload, 1) := by decide +kernel
theorem dX3_digest_48 : decode cX3_digest 48 = .ok (.aload_n 0, 1) := by decide +kernel
theorem dX3_digest_49 : decode cX3_digest 49 = .ok (.getfield 12, 3) := by decide +kernel
theorem dX3_digest_52 : decode cX3_digest 52 = .ok (.getfield 34, 3) := by decide +kernel
theorem dX3_digest_55 : decode cX3_digest 55 = .ok (.invokestatic 202, 3) := by decide +kernel
theorem dX3_digest_58 : decode cX3_digest 58 = .ok (.lstore_n 1, 1) := by decide +kernel
theorem dX3_digest_59 : decode cX3_digest 59 = .ok (.iinc 3 1, 3) := by decide +kernel
theorem dX3_digest_62 : decode cX3_digest 62 = .ok (.goto (-35), 3) := by decide +kernel
theorem dX3_digest_65 : decode cX3_digest 65 = .ok (.lload_n 1, 1) := by decide +kernel
theorem dX3_digest_66 : decode cX3_digest 66 = .ok (.aload_n 0, 1) := by decide +kernel
theorem dX3_digest_67 : decode cX3_digest 67 = .ok (.getfield 12, 3) := by decide +kernel
theorem dX3_digest_70 : decode cX3_digest 70 = .ok (.getfield 48, 3) := by decide +kernel
theorem dX3_digest_73 : decode cX3_digest 73 = .ok (.invokestatic 206, 3) := by decide +kernel
theorem dX3_digest_76 : decode cX3_digest 76 = .ok (.lstore_n 1, 1) := by decide +kernel
theorem dX3_digest_77 : decode cX3_digest 77 = .ok (.lload_n 1, 1) := by decide +kernel
theorem dX3_digest_78 : decode cX3_digest 78 = .ok (.aload_n 0, 1) := by decide +kernel
theorem dX3_digest_79 : decode cX3_digest 79 = .ok (.getfield 12, 3) := by decide +kernel
theorem dX3_digest_82 : decode cX3_digest 82 = .ok (.getfield 179, 3) := by decide +kernel
theorem dX3_digest_85 : decode cX3_digest 85 = .ok (.invokestatic 210, 3) := by decide +kernel
theorem dX3_digest_88 : decode cX3_digest 88 = .ok (.lreturn, 1) := by decide +kernel
theorem dX3_requireMachine_0 : decode cX3_requireMachine 0 = .ok (.aload_n 0, 1) := by decide +kernel
theorem dX3_requireMachine_1 : decode cX3_requireMachine 1 = .ok (.getfield 12, 3) := by decide +kernel
theorem dX3_requireMachine_4 : decode cX3_requireMachine 4 = .ok (.iload_n 1, 1) := by decide +kernel
theorem dX3_requireMachine_5 : decode cX3_requireMachine 5 = .ok (.invokevirtual 213, 3) := by decide +kernel
theorem dX3_requireMachine_8 : decode cX3_requireMachine 8 = .ok (.ifCond .ne 13, 3) := by decide +kernel
theorem dX3_requireMachine_11 : decode cX3_requireMachine 11 = .ok (.new 133, 3) := by decide +kernel
theorem dX3_requireMachine_14 : decode cX3_requireMachine 14 = .ok (.dup, 1) := by decide +kernel
theorem dX3_requireMachine_15 : decode cX3_requireMachine 15 = .ok (.ldc 216, 2) := by decide +kernel
theorem dX3_requireMachine_17 : decode cX3_requireMachine 17 = .ok (.invokespecial 137, 3) := by decide +kernel
theorem dX3_requireMachine_20 : decode cX3_requireMachine 20 = .ok (.athrow, 1) := by decide +kernel
theorem dX3_requireMachine_21 : decode cX3_requireMachine 21 = .ok (.return_, 1) := by decide +kernel
theorem dX3_requireEntry_0 : decode cX3_requireEntry 0 = .ok (.aload_n 0, 1) := by decide +kernel
theorem dX3_requireEntry_1 : decode cX3_requireEntry 1 = .ok (.iload_n 1, 1) := by decide +kernel
theorem dX3_requireEntry_2 : decode cX3_requireEntry 2 = .ok (.invokevirtual 38, 3) := by decide +kernel
theorem dX3_requireEntry_5 : decode cX3_requireEntry 5 = .ok (.iload_n 2, 1) := by decide +kernel
theorem dX3_requireEntry_6 : decode cX3_requireEntry 6 = .ok (.ifCond .lt 22, 3) := by decide +kernel
theorem dX3_requireEntry_9 : decode cX3_requireEntry 9 = .ok (.iload_n 2, 1) := by decide +kernel
theorem dX3_requireEntry_10 : decode cX3_requireEntry 10 = .ok (.aload_n 0, 1) := by decide +kernel
theorem dX3_requireEntry_11 : decode cX3_requireEntry 11 = .ok (.getfield 12, 3) := by decide +kernel
theorem dX3_requireEntry_14 : decode cX3_requireEntry 14 = .ok (.getfield 44, 3) := by decide +kernel
theorem dX3_requireEntry_17 : decode cX3_requireEntry 17 = .ok (.iload_n 1, 1) := by decide +kernel
theorem dX3_requireEntry_18 : decode cX3_requireEntry 18 = .ok (.aaload, 1) := by decide +kernel
theorem dX3_requireEntry_19 : decode cX3_requireEntry 19 = .ok (.getfield 113, 3) := by decide +kernel
theorem dX3_requireEntry_22 : decode cX3_requireEntry 22 = .ok (.getfield 52, 3) := by decide +kernel
theorem dX3_requireEntry_25 : decode cX3_requireEntry 25 = .ok (.if_icmp .lt 13, 3) := by decide +kernel
theorem dX3_requireEntry_28 : decode cX3_requireEntry 28 = .ok (.new 133, 3) := by decide +kernel
theorem dX3_requireEntry_31 : decode cX3_requireEntry 31 = .ok (.dup, 1) := by decide +kernel
theorem dX3_requireEntry_32 : decode cX3_requireEntry 32 = .ok (.ldc 218, 2) := by decide +kernel
theorem dX3_requireEntry_34 : decode cX3_requireEntry 34 = .ok (.invokespecial 137, 3) := by decide +kernel
theorem dX3_requireEntry_37 : decode cX3_requireEntry 37 = .ok (.athrow, 1) := by decide +kernel
theorem dX3_requireEntry_38 : decode cX3_requireEntry 38 = .ok (.return_, 1) := by decide +kernel
theorem dX3_requireValue_0 : decode cX3_requireValue 0 = .ok (.iload_n 0, 1) := by decide +kernel
theorem dX3_requireValue_1 : decode cX3_requireValue 1 = .ok (.ifCond .lt 10, 3) := by decide +kernel
theorem dX3_requireValue_4 : decode cX3_requireValue 4 = .ok (.iload_n 0, 1) := by decide +kernel
theorem dX3_requireValue_5 : decode cX3_requireValue 5 = .ok (.sipush 1000, 3) := by decide +kernel
theorem dX3_requireValue_8 : decode cX3_requireValue 8 = .ok (.if_icmp .lt 13, 3) := by decide +kernel
theorem dX3_requireValue_11 : decode cX3_requireValue 11 = .ok (.new 24, 3) := by decide +kernel
theorem dX3_requireValue_14 : decode cX3_requireValue 14 = .ok (.dup, 1) := by decide +kernel
theorem dX3_requireValue_15 : decode cX3_requireValue 15 = .ok (.ldc 220, 2) := by decide +kernel
theorem dX3_requireValue_17 : decode cX3_requireValue 17 = .ok (.invokespecial 28, 3) := by decide +kernel
theorem dX3_requireValue_20 : decode cX3_requireValue 20 = .ok (.athrow, 1) := by decide +kernel
theorem dX3_requireValue_21 : decode cX3_requireValue 21 = .ok (.return_, 1) := by decide +kernel
theorem dX3_save_0 : decode cX3_save 0 = .ok (.aload_n 0, 1) := by decide +kernel
theorem dX3_save_1 : decode cX3_save 1 = .ok (.getfield 20, 3) := by decide +kernel
theorem dX3_save_4 : decode cX3_save 4 = .ok (.aload_n 0, 1) := by decide +kernel
theorem dX3_save_5 : decode cX3_save 5 = .ok (.getfield 189, 3) := by decide +kernel
theorem dX3_save_8 : decode cX3_save 8 = .ok (.aaload, 1) := by decide +kernel
theorem dX3_save_9 : decode cX3_save 9 = .ok (.aload_n 0, 1) := by decide +kernel
theorem dX3_save_10 : decode cX3_save 10 = .ok (.getfield 12, 3) := by decide +kernel
theorem dX3_save_13 : decode cX3_save 13 = .ok (.invokevirtual 192, 3) := by decide +kernel
theorem dX3_save_16 : decode cX3_save 16 = .ok (.aload_n 0, 1) := by decide +kernel
theorem dX3_save_17 : decode cX3_save 17 = .ok (.aload_n 0, 1) := by decide +kernel
theorem dX3_save_18 : decode cX3_save 18 = .ok (.getfield 189, 3) := by decide +kernel
theorem dX3_save_21 : decode cX3_save 21 = .ok (.iconst 1, 1) := by decide +kernel
theorem dX3_save_22 : decode cX3_save 22 = .ok (.iadd, 1) := by decide +kernel
theorem dX3_save_23 : decode cX3_save 23 = .ok (.iconst 4, 1) := by decide +kernel
theorem dX3_save_24 : decode cX3_save 24 = .ok (.irem, 1) := by decide +kernel
theorem dX3_save_25 : decode cX3_save 25 = .ok (.putfield 189, 3) := by decide +kernel
theorem dX3_save_28 : decode cX3_save 28 = .ok (.aload_n 0, 1) := by decide +kernel
theorem dX3_save_29 : decode cX3_save 29 = .ok (.getfield 184, 3) := by decide +kernel
theorem dX3_save_32 : decode cX3_save 32 = .ok (.iconst 4, 1) := by decide +kernel
theorem dX3_save_33 : decode cX3_save 33 = .ok (.if_icmp .ge 13, 3) := by decide +kernel
theorem dX3_save_36 : decode cX3_save 36 = .ok (.aload_n 0, 1) := by decide +kernel
theorem dX3_save_37 : decode cX3_save 37 = .ok (.dup, 1) := by decide +kernel
theorem dX3_save_38 : decode cX3_save 38 = .ok (.getfield 184, 3) := by decide +kernel
theorem dX3_save_41 : decode cX3_save 41 = .ok (.iconst 1, 1) := by decide +kernel
theorem dX3_save_42 : decode cX3_save 42 = .ok (.iadd, 1) := by decide +kernel
theorem dX3_save_43 : decode cX3_save 43 = .ok (.putfield 184, 3) := by decide +kernel
theorem dX3_save_46 : decode cX3_save 46 = .ok (.return_, 1) := by decide +kernel
theorem dX3_mix_0 : decode cX3_mix 0 = .ok (.ldc2_w 222, 3) := by decide +kernel
theorem dX3_mix_3 : decode cX3_mix 3 = .ok (.lload_n 0, 1) := by decide +kernel
theorem dX3_mix_4 : decode cX3_mix 4 = .ok (.lmul, 1) := by decide +kernel
theorem dX3_mix_5 : decode cX3_mix 5 = .ok (.lload_n 2, 1) := by decide +kernel
theorem dX3_mix_6 : decode cX3_mix 6 = .ok (.ladd, 1) := by decide +kernel
theorem dX3_mix_7 : decode cX3_mix 7 = .ok (.lreturn, 1) := by decide +kernel
theorem dX3_mixMachine_0 : decode cX3_mixMachine 0 = .ok (.lload_n 0, 1) := by decide +kernel
theorem dX3_mixMachine_1 : decode cX3_mixMachine 1 = .ok (.aload_n 2, 1) := by decide +kernel
theorem dX3_mixMachine_2 : decode cX3_mixMachine 2 = .ok (.getfield 72, 3) := by decide +kernel
theorem dX3_mixMachine_5 : decode cX3_mixMachine 5 = .ok (.i2l, 1) := by decide +kernel
theorem dX3_mixMachine_6 : decode cX3_mixMachine 6 = .ok (.invokestatic 198, 3) := by decide +kernel
theorem dX3_mixMachine_9 : decode cX3_mixMachine 9 = .ok (.lstore 4, 2) := by decide +kernel
theorem dX3_mixMachine_11 : decode cX3_mixMachine 11 = .ok (.lload 4, 2) := by decide +kernel
theorem dX3_mixMachine_13 : decode cX3_mixMachine 13 = .ok (.aload_n 2, 1) := by decide +kernel
theorem dX3_mixMachine_14 : decode cX3_mixMachine 14 = .ok (.getfield 90, 3) := by decide +kernel
theorem dX3_mixMachine_17 : decode cX3_mixMachine 17 = .ok (.ifCond .eq 7, 3) := by decide +kernel
theorem dX3_mixMachine_20 : decode cX3_mixMachine 20 = .ok (.lconst 1, 1) := by decide +kernel
theorem dX3_mixMachine_21 : decode cX3_mixMachine 21 = .ok (.goto 4, 3) := by decide +kernel
theorem dX3_mixMachine_24 : decode cX3_mixMachine 24 = .ok (.lconst 0, 1) := by decide +kernel
theorem dX3_mixMachine_25 : decode cX3_mixMachine 25 = .ok (.invokestatic 198, 3) := by decide +kernel
theorem dX3_mixMachine_28 : decode cX3_mixMachine 28 = .ok (.lstore 4, 2) := by decide +kernel
theorem dX3_mixMachine_30 : decode cX3_mixMachine 30 = .ok (.lload 4, 2) := by decide +kernel
theorem dX3_mixMachine_32 : decode cX3_mixMachine 32 = .ok (.aload_n 2, 1) := by decide +kernel
theorem dX3_mixMachine_33 : decode cX3_mixMachine 33 = .ok (.getfield 106, 3) := by decide +kernel
theorem dX3_mixMachine_36 : decode cX3_mixMachine 36 = .ok (.ifCond .eq 7, 3) := by decide +kernel
theorem dX3_mixMachine_39 : decode cX3_mixMachine 39 = .ok (.lconst 1, 1) := by decide +kernel
theorem dX3_mixMachine_40 : decode cX3_mixMachine 40 = .ok (.goto 4, 3) := by decide +kernel
theorem dX3_mixMachine_43 : decode cX3_mixMachine 43 = .ok (.lconst 0, 1) := by decide +kernel
theorem dX3_mixMachine_44 : decode cX3_mixMachine 44 = .ok (.invokestatic 198, 3) := by decide +kernel
theorem dX3_mixMachine_47 : decode cX3_mixMachine 47 = .ok (.lstore 4, 2) := by decide +kernel
theorem dX3_mixMachine_49 : decode cX3_mixMachine 49 = .ok (.lload 4, 2) := by decide +kernel
theorem dX3_mixMachine_51 : decode cX3_mixMachine 51 = .ok (.aload_n 2, 1) := by decide +kernel
theorem dX3_mixMachine_52 : decode cX3_mixMachine 52 = .ok (.getfield 153, 3) := by decide +kernel
theorem dX3_mixMachine_55 : decode cX3_mixMachine 55 = .ok (.i2l, 1) := by decide +kernel
theorem dX3_mixMachine_56 : decode cX3_mixMachine 56 = .ok (.invokestatic 198, 3) := by decide +kernel
theorem dX3_mixMachine_59 : decode cX3_mixMachine 59 = .ok (.lstore 4, 2) := by decide +kernel
theorem dX3_mixMachine_61 : decode cX3_mixMachine 61 = .ok (.aload_n 2, 1) := by decide +kernel
theorem dX3_mixMachine_62 : decode cX3_mixMachine 62 = .ok (.getfield 113, 3) := by decide +kernel
theorem dX3_mixMachine_65 : decode cX3_mixMachine 65 = .ok (.getfield 52, 3) := by decide +kernel
theorem dX3_mixMachine_68 : decode cX3_mixMachine 68 = .ok (.istore 6, 2) := by decide +kernel
theorem dX3_mixMachine_70 : decode cX3_mixMachine 70 = .ok (.lload 4, 2) := by decide +kernel
theorem dX3_mixMachine_72 : decode cX3_mixMachine 72 = .ok (.iload 6, 2) := by decide +kernel
theorem dX3_mixMachine_74 : decode cX3_mixMachine 74 = .ok (.i2l, 1) := by decide +kernel
theorem dX3_mixMachine_75 : decode cX3_mixMachine 75 = .ok (.invokestatic 198, 3) := by decide +kernel
theorem dX3_mixMachine_78 : decode cX3_mixMachine 78 = .ok (.lstore 4, 2) := by decide +kernel
theorem dX3_mixMachine_80 : decode cX3_mixMachine 80 = .ok (.iconst 0, 1) := by decide +kernel
theorem dX3_mixMachine_81 : decode cX3_mixMachine 81 = .ok (.istore 7, 2) := by decide +kernel
theorem dX3_mixMachine_83 : decode cX3_mixMachine 83 = .ok (.iload 7, 2) := by decide +kernel
theorem dX3_mixMachine_85 : decode cX3_mixMachine 85 = .ok (.iload 6, 2) := by decide +kernel
theorem dX3_mixMachine_87 : decode cX3_mixMachine 87 = .ok (.if_icmp .ge 23, 3) := by decide +kernel
theorem dX3_mixMachine_90 : decode cX3_mixMachine 90 = .ok (.lload 4, 2) := by decide +kernel
theorem dX3_mixMachine_92 : decode cX3_mixMachine 92 = .ok (.aload_n 2, 1) := by decide +kernel
theorem dX3_mixMachine_93 : decode cX3_mixMachine 93 = .ok (.iload 7, 2) := by decide +kernel
theorem dX3_mixMachine_95 : decode cX3_mixMachine 95 = .ok (.invokevirtual 129, 3) := by decide +kernel
theorem dX3_mixMachine_98 : decode cX3_mixMachine 98 = .ok (.i2l, 1) := by decide +kernel
theorem dX3_mixMachine_99 : decode cX3_mixMachine 99 = .ok (.invokestatic 198, 3) := by decide +kernel
theorem dX3_mixMachine_102 : decode cX3_mixMachine 102 = .ok (.lstore 4, 2) := by decide +kernel
theorem dX3_mixMachine_104 : decode cX3_mixMachine 104 = .ok (.iinc 7 1, 3) := by decide +kernel
theorem dX3_mixMachine_107 : decode cX3_mixMachine 107 = .ok (.goto (-24), 3) := by decide +kernel
theorem dX3_mixMachine_110 : decode cX3_mixMachine 110 = .ok (.lload 4, 2) := by decide +kernel
theorem dX3_mixMachine_112 : decode cX3_mixMachine 112 = .ok (.aload_n 2, 1) := by decide +kernel
theorem dX3_mixMachine_113 : decode cX3_mixMachine 113 = .ok (.iload 6, 2) := by decide +kernel
theorem dX3_mixMachine_115 : decode cX3_mixMachine 115 = .ok (.invokevirtual 138, 3) := by decide +kernel
theorem dX3_mixMachine_118 : decode cX3_mixMachine 118 = .ok (.i2l, 1) := by decide +kernel
theorem dX3_mixMachine_119 : decode cX3_mixMachine 119 = .ok (.invokestatic 198, 3) := by decide +kernel
theorem dX3_mixMachine_122 : decode cX3_mixMachine 122 = .ok (.lstore 4, 2) := by decide +kernel
theorem dX3_mixMachine_124 : decode cX3_mixMachine 124 = .ok (.lload 4, 2) := by decide +kernel
theorem dX3_mixMachine_126 : decode cX3_mixMachine 126 = .ok (.aload_n 2, 1) := by decide +kernel
theorem dX3_mixMachine_127 : decode cX3_mixMachine 127 = .ok (.getfield 141, 3) := by decide +kernel
theorem dX3_mixMachine_130 : decode cX3_mixMachine 130 = .ok (.getfield 52, 3) := by decide +kernel
theorem dX3_mixMachine_133 : decode cX3_mixMachine 133 = .ok (.i2l, 1) := by decide +kernel
theorem dX3_mixMachine_134 : decode cX3_mixMachine 134 = .ok (.invokestatic 198, 3) := by decide +kernel
theorem dX3_mixMachine_137 : decode cX3_mixMachine 137 = .ok (.lstore 4, 2) := by decide +kernel
theorem dX3_mixMachine_139 : decode cX3_mixMachine 139 = .ok (.lload 4, 2) := by decide +kernel
theorem dX3_mixMachine_141 : decode cX3_mixMachine 141 = .ok (.aload_n 2, 1) := by decide +kernel
theorem dX3_mixMachine_142 : decode cX3_mixMachine 142 = .ok (.getfield 94, 3) := by decide +kernel
theorem dX3_mixMachine_145 : decode cX3_mixMachine 145 = .ok (.getfield 52, 3) := by decide +kernel
theorem dX3_mixMachine_148 : decode cX3_mixMachine 148 = .ok (.i2l, 1) := by decide +kernel
theorem dX3_mixMachine_149 : decode cX3_mixMachine 149 = .ok (.invokestatic 198, 3) := by decide +kernel
theorem dX3_mixMachine_152 : decode cX3_mixMachine 152 = .ok (.lstore 4, 2) := by decide +kernel
theorem dX3_mixMachine_154 : decode cX3_mixMachine 154 = .ok (.iconst 0, 1) := by decide +kernel
theorem dX3_mixMachine_155 : decode cX3_mixMachine 155 = .ok (.istore 7, 2) := by decide +kernel
theorem dX3_mixMachine_157 : decode cX3_mixMachine 157 = .ok (.iload 7, 2) := by decide +kernel
theorem dX3_mixMachine_159 : decode cX3_mixMachine 159 = .ok (.iload_n 3, 1) := by decide +kernel
theorem dX3_mixMachine_160 : decode cX3_mixMachine 160 = .ok (.if_icmp .ge 24, 3) := by decide +kernel
theorem dX3_mixMachine_163 : decode cX3_mixMachine 163 = .ok (.lload 4, 2) := by decide +kernel
theorem dX3_mixMachine_165 : decode cX3_mixMachine 165 = .ok (.aload_n 2, 1) := by decide +kernel
theorem dX3_mixMachine_166 : decode cX3_mixMachine 166 = .ok (.getfield 161, 3) := by decide +kernel
theorem dX3_mixMachine_169 : decode cX3_mixMachine 169 = .ok (.iload 7, 2) := by decide +kernel
theorem dX3_mixMachine_171 : decode cX3_mixMachine 171 = .ok (.iaload, 1) := by decide +kernel
theorem dX3_mixMachine_172 : decode cX3_mixMachine 172 = .ok (.i2l, 1) := by decide +kernel
theorem dX3_mixMachine_173 : decode cX3_mixMachine 173 = .ok (.invokestatic 198, 3) := by decide +kernel
theorem dX3_mixMachine_176 : decode cX3_mixMachine 176 = .ok (.lstore 4, 2) := by decide +kernel
theorem dX3_mixMachine_178 : decode cX3_mixMachine 178 = .ok (.iinc 7 1, 3) := by decide +kernel
theorem dX3_mixMachine_181 : decode cX3_mixMachine 181 = .ok (.goto (-24), 3) := by decide +kernel
theorem dX3_mixMachine_184 : decode cX3_mixMachine 184 = .ok (.lload 4, 2) := by decide +kernel
theorem dX3_mixMachine_186 : decode cX3_mixMachine 186 = .ok (.lreturn, 1) := by decide +kernel
theorem dX3_mixQueue_0 : decode cX3_mixQueue 0 = .ok (.lload_n 0, 1) := by decide +kernel
theorem dX3_mixQueue_1 : decode cX3_mixQueue 1 = .ok (.aload_n 2, 1) := by decide +kernel
theorem dX3_mixQueue_2 : decode cX3_mixQueue 2 = .ok (.getfield 52, 3) := by decide +kernel
theorem dX3_mixQueue_5 : decode cX3_mixQueue 5 = .ok (.i2l, 1) := by decide +kernel
theorem dX3_mixQueue_6 : decode cX3_mixQueue 6 = .ok (.invokestatic 198, 3) := by decide +kernel
theorem dX3_mixQueue_9 : decode cX3_mixQueue 9 = .ok (.lstore_n 3, 1) := by decide +kernel
theorem dX3_mixQueue_10 : decode cX3_mixQueue 10 = .ok (.iconst 0, 1) := by decide +kernel
theorem dX3_mixQueue_11 : decode cX3_mixQueue 11 = .ok (.istore 5, 2) := by decide +kernel
theorem dX3_mixQueue_13 : decode cX3_mixQueue 13 = .ok (.iload 5, 2) := by decide +kernel
theorem dX3_mixQueue_15 : decode cX3_mixQueue 15 = .ok (.aload_n 2, 1) := by decide +kernel
theorem dX3_mixQueue_16 : decode cX3_mixQueue 16 = .ok (.getfield 52, 3) := by decide +kernel
theorem dX3_mixQueue_19 : decode cX3_mixQueue 19 = .ok (.if_icmp .ge 35, 3) := by decide +kernel
theorem dX3_mixQueue_22 : decode cX3_mixQueue 22 = .ok (.lload_n 3, 1) := by decide +kernel
theorem dX3_mixQueue_23 : decode cX3_mixQueue 23 = .ok (.aload_n 2, 1) := by decide +kernel
theorem dX3_mixQueue_24 : decode cX3_mixQueue 24 = .ok (.iload 5, 2) := by decide +kernel
theorem dX3_mixQueue_26 : decode cX3_mixQueue 26 = .ok (.iconst 3, 1) := by decide +kernel
theorem dX3_mixQueue_27 : decode cX3_mixQueue 27 = .ok (.invokevirtual 116, 3) := by decide +kernel
theorem dX3_mixQueue_30 : decode cX3_mixQueue 30 = .ok (.i2l, 1) := by decide +kernel
theorem dX3_mixQueue_31 : decode cX3_mixQueue 31 = .ok (.invokestatic 198, 3) := by decide +kernel
theorem dX3_mixQueue_34 : decode cX3_mixQueue 34 = .ok (.lstore_n 3, 1) := by decide +kernel
theorem dX3_mixQueue_35 : decode cX3_mixQueue 35 = .ok (.lload_n 3, 1) := by decide +kernel
theorem dX3_mixQueue_36 : decode cX3_mixQueue 36 = .ok (.aload_n 2, 1) := by decide +kernel
theorem dX3_mixQueue_37 : decode cX3_mixQueue 37 = .ok (.iload 5, 2) := by decide +kernel
theorem dX3_mixQueue_39 : decode cX3_mixQueue 39 = .ok (.iconst 4, 1) := by decide +kernel
theorem dX3_mixQueue_40 : decode cX3_mixQueue 40 = .ok (.invokevirtual 116, 3) := by decide +kernel
theorem dX3_mixQueue_43 : decode cX3_mixQueue 43 = .ok (.i2l, 1) := by decide +kernel
theorem dX3_mixQueue_44 : decode cX3_mixQueue 44 = .ok (.invokestatic 198, 3) := by decide +kernel
theorem dX3_mixQueue_47 : decode cX3_mixQueue 47 = .ok (.lstore_n 3, 1) := by decide +kernel
theorem dX3_mixQueue_48 : decode cX3_mixQueue 48 = .ok (.iinc 5 1, 3) := by decide +kernel
theorem dX3_mixQueue_51 : decode cX3_mixQueue 51 = .ok (.goto (-38), 3) := by decide +kernel
theorem dX3_mixQueue_54 : decode cX3_mixQueue 54 = .ok (.lload_n 3, 1) := by decide +kernel
theorem dX3_mixQueue_55 : decode cX3_mixQueue 55 = .ok (.lreturn, 1) := by decide +kernel
theorem dX3_mixEvidence_0 : decode cX3_mixEvidence 0 = .ok (.lload_n 0, 1) := by decide +kernel
theorem dX3_mixEvidence_1 : decode cX3_mixEvidence 1 = .ok (.aload_n 2, 1) := by decide +kernel
theorem dX3_mixEvidence_2 : decode cX3_mixEvidence 2 = .ok (.getfield 52, 3) := by decide +kernel
theorem dX3_mixEvidence_5 : decode cX3_mixEvidence 5 = .ok (.i2l, 1) := by decide +kernel
theorem dX3_mixEvidence_6 : decode cX3_mixEvidence 6 = .ok (.invokestatic 198, 3) := by decide +kernel
theorem dX3_mixEvidence_9 : decode cX3_mixEvidence 9 = .ok (.lstore_n 3, 1) := by decide +kernel
theorem dX3_mixEvidence_10 : decode cX3_mixEvidence 10 = .ok (.iconst 0, 1) := by decide +kernel
theorem dX3_mixEvidence_11 : decode cX3_mixEvidence 11 = .ok (.istore 5, 2) := by decide +kernel
theorem dX3_mixEvidence_13 : decode cX3_mixEvidence 13 = .ok (.iload 5, 2) := by decide +kernel
theorem dX3_mixEvidence_15 : decode cX3_mixEvidence 15 = .ok (.aload_n 2, 1) := by decide +kernel
theorem dX3_mixEvidence_16 : decode cX3_mixEvidence 16 = .ok (.getfield 52, 3) := by decide +kernel
theorem dX3_mixEvidence_19 : decode cX3_mixEvidence 19 = .ok (.if_icmp .ge 38, 3) := by decide +kernel
theorem dX3_mixEvidence_22 : decode cX3_mixEvidence 22 = .ok (.iconst 0, 1) := by decide +kernel
theorem dX3_mixEvidence_23 : decode cX3_mixEvidence 23 = .ok (.istore 6, 2) := by decide +kernel
theorem dX3_mixEvidence_25 : decode cX3_mixEvidence 25 = .ok (.iload 6, 2) := by decide +kernel
theorem dX3_mixEvidence_27 : decode cX3_mixEvidence 27 = .ok (.iconst 4, 1) := by decide +kernel
theorem dX3_mixEvidence_28 : decode cX3_mixEvidence 28 = .ok (.if_icmp .ge 23, 3) := by decide +kernel
theorem dX3_mixEvidence_31 : decode cX3_mixEvidence 31 = .ok (.lload_n 3, 1) := by decide +kernel
theorem dX3_mixEvidence_32 : decode cX3_mixEvidence 32 = .ok (.aload_n 2, 1) := by decide +kernel
theorem dX3_mixEvidence_33 : decode cX3_mixEvidence 33 = .ok (.iload 5, 2) := by decide +kernel
theorem dX3_mixEvidence_35 : decode cX3_mixEvidence 35 = .ok (.iload 6, 2) := by decide +kernel
theorem dX3_mixEvidence_37 : decode cX3_mixEvidence 37 = .ok (.invokevirtual 116, 3) := by decide +kernel
theorem dX3_mixEvidence_40 : decode cX3_mixEvidence 40 = .ok (.i2l, 1) := by decide +kernel
theorem dX3_mixEvidence_41 : decode cX3_mixEvidence 41 = .ok (.invokestatic 198, 3) := by decide +kernel
theorem dX3_mixEvidence_44 : decode cX3_mixEvidence 44 = .ok (.lstore_n 3, 1) := by decide +kernel
theorem dX3_mixEvidence_45 : decode cX3_mixEvidence 45 = .ok (.iinc 6 1, 3) := by decide +kernel
theorem dX3_mixEvidence_48 : decode cX3_mixEvidence 48 = .ok (.goto (-23), 3) := by decide +kernel
theorem dX3_mixEvidence_51 : decode cX3_mixEvidence 51 = .ok (.iinc 5 1, 3) := by decide +kernel
theorem dX3_mixEvidence_54 : decode cX3_mixEvidence 54 = .ok (.goto (-41), 3) := by decide +kernel
theorem dX3_mixEvidence_57 : decode cX3_mixEvidence 57 = .ok (.lload_n 3, 1) := by decide +kernel
theorem dX3_mixEvidence_58 : decode cX3_mixEvidence 58 = .ok (.lreturn, 1) := by decide +kernel
theorem dX3_nextState_0 : decode cX3_nextState 0 = .ok (.bipush 31, 2) := by decide +kernel
theorem dX3_nextState_2 : decode cX3_nextState 2 = .ok (.iload_n 0, 1) := by decide +kernel
theorem dX3_nextState_3 : decode cX3_nextState 3 = .ok (.imul, 1) := by decide +kernel
theorem dX3_nextState_4 : decode cX3_nextState 4 = .ok (.bipush 17, 2) := by decide +kernel
theorem dX3_nextState_6 : decode cX3_nextState 6 = .ok (.iload_n 2, 1) := by decide +kernel
theorem dX3_nextState_7 : decode cX3_nextState 7 = .ok (.imul, 1) := by decide +kernel
theorem dX3_nextState_8 : decode cX3_nextState 8 = .ok (.iadd, 1) := by decide +kernel
theorem dX3_nextState_9 : decode cX3_nextState 9 = .ok (.iload_n 1, 1) := by decide +kernel
theorem dX3_nextState_10 : decode cX3_nextState 10 = .ok (.iadd, 1) := by decide +kernel
theorem dX3_nextState_11 : decode cX3_nextState 11 = .ok (.iconst 2, 1) := by decide +kernel
theorem dX3_nextState_12 : decode cX3_nextState 12 = .ok (.iadd, 1) := by decide +kernel
theorem dX3_nextState_13 : decode cX3_nextState 13 = .ok (.sipush 9973, 3) := by decide +kernel
theorem dX3_nextState_16 : decode cX3_nextState 16 = .ok (.irem, 1) := by decide +kernel
theorem dX3_nextState_17 : decode cX3_nextState 17 = .ok (.ireturn, 1) := by decide +kernel
theorem dX3_hasOutput_0 : decode cX3_hasOutput 0 = .ok (.iload_n 0, 1) := by decide +kernel
theorem dX3_hasOutput_1 : decode cX3_hasOutput 1 = .ok (.iconst 3, 1) := by decide +kernel
theorem dX3_hasOutput_2 : decode cX3_hasOutput 2 = .ok (.irem, 1) := by decide +kernel
theorem dX3_hasOutput_3 : decode cX3_hasOutput 3 = .ok (.ifCond .ne 7, 3) := by decide +kernel
theorem dX3_hasOutput_6 : decode cX3_hasOutput 6 = .ok (.iconst 1, 1) := by decide +kernel
theorem dX3_hasOutput_7 : decode cX3_hasOutput 7 = .ok (.goto 4, 3) := by decide +kernel
theorem dX3_hasOutput_10 : decode cX3_hasOutput 10 = .ok (.iconst 0, 1) := by decide +kernel
theorem dX3_hasOutput_11 : decode cX3_hasOutput 11 = .ok (.ireturn, 1) := by decide +kernel
theorem dX3_outputValue_0 : decode cX3_outputValue 0 = .ok (.iload_n 0, 1) := by decide +kernel
theorem dX3_outputValue_1 : decode cX3_outputValue 1 = .ok (.sipush 1000, 3) := by decide +kernel
theorem dX3_outputValue_4 : decode cX3_outputValue 4 = .ok (.irem, 1) := by decide +kernel
theorem dX3_outputValue_5 : decode cX3_outputValue 5 = .ok (.ireturn, 1) := by decide +kernel
theorem dX3_outputPeer_0 : decode cX3_outputPeer 0 = .ok (.iload_n 2, 1) := by decide +kernel
theorem dX3_outputPeer_1 : decode cX3_outputPeer 1 = .ok (.iconst 1, 1) := by decide +kernel
theorem dX3_outputPeer_2 : decode cX3_outputPeer 2 = .ok (.isub, 1) := by decide +kernel
theorem dX3_outputPeer_3 : decode cX3_outputPeer 3 = .ok (.istore_n 3, 1) := by decide +kernel
theorem dX3_outputPeer_4 : decode cX3_outputPeer 4 = .ok (.iload_n 0, 1) := by decide +kernel
theorem dX3_outputPeer_5 : decode cX3_outputPeer 5 = .ok (.iconst 1, 1) := by decide +kernel
theorem dX3_outputPeer_6 : decode cX3_outputPeer 6 = .ok (.iadd, 1) := by decide +kernel
theorem dX3_outputPeer_7 : decode cX3_outputPeer 7 = .ok (.iload_n 3, 1) := by decide +kernel
theorem dX3_outputPeer_8 : decode cX3_outputPeer 8 = .ok (.ifCond .le 9, 3) := by decide +kernel
theorem dX3_outputPeer_11 : decode cX3_outputPeer 11 = .ok (.iload_n 1, 1) := by decide +kernel
theorem dX3_outputPeer_12 : decode cX3_outputPeer 12 = .ok (.iload_n 3, 1) := by decide +kernel
theorem dX3_outputPeer_13 : decode cX3_outputPeer 13 = .ok (.irem, 1) := by decide +kernel
theorem dX3_outputPeer_14 : decode cX3_outputPeer 14 = .ok (.goto 4, 3) := by decide +kernel
theorem dX3_outputPeer_17 : decode cX3_outputPeer 17 = .ok (.iconst 0, 1) := by decide +kernel
theorem dX3_outputPeer_18 : decode cX3_outputPeer 18 = .ok (.iadd, 1) := by decide +kernel
theorem dX3_outputPeer_19 : decode cX3_outputPeer 19 = .ok (.istore 4, 2) := by decide +kernel
theorem dX3_outputPeer_21 : decode cX3_outputPeer 21 = .ok (.iload 4, 2) := by decide +kernel
theorem dX3_outputPeer_23 : decode cX3_outputPeer 23 = .ok (.iload_n 2, 1) := by decide +kernel
theorem dX3_outputPeer_24 : decode cX3_outputPeer 24 = .ok (.if_icmp .lt 10, 3) := by decide +kernel
theorem dX3_outputPeer_27 : decode cX3_outputPeer 27 = .ok (.iload 4, 2) := by decide +kernel
theorem dX3_outputPeer_29 : decode cX3_outputPeer 29 = .ok (.iload_n 2, 1) := by decide +kernel
theorem dX3_outputPeer_30 : decode cX3_outputPeer 30 = .ok (.isub, 1) := by decide +kernel
theorem dX3_outputPeer_31 : decode cX3_outputPeer 31 = .ok (.goto 5, 3) := by decide +kernel
theorem dX3_outputPeer_34 : decode cX3_outputPeer 34 = .ok (.iload 4, 2) := by decide +kernel
theorem dX3_outputPeer_36 : decode cX3_outputPeer 36 = .ok (.ireturn, 1) := by decide +kernel
theorem dX3_nextChain_0 : decode cX3_nextChain 0 = .ok (.iload_n 0, 1) := by decide +kernel
theorem dX3_nextChain_1 : decode cX3_nextChain 1 = .ok (.i2l, 1) := by decide +kernel
theorem dX3_nextChain_2 : decode cX3_nextChain 2 = .ok (.ldc2_w 224, 3) := by decide +kernel
theorem dX3_nextChain_5 : decode cX3_nextChain 5 = .ok (.lmul, 1) := by decide +kernel
theorem dX3_nextChain_6 : decode cX3_nextChain 6 = .ok (.bipush 7, 2) := by decide +kernel
theorem dX3_nextChain_8 : decode cX3_nextChain 8 = .ok (.iload_n 1, 1) := by decide +kernel
theorem dX3_nextChain_9 : decode cX3_nextChain 9 = .ok (.imul, 1) := by decide +kernel
theorem dX3_nextChain_10 : decode cX3_nextChain 10 = .ok (.i2l, 1) := by decide +kernel
theorem dX3_nextChain_11 : decode cX3_nextChain 11 = .ok (.ladd, 1) := by decide +kernel
theorem dX3_nextChain_12 : decode cX3_nextChain 12 = .ok (.bipush 31, 2) := by decide +kernel
theorem dX3_nextChain_14 : decode cX3_nextChain 14 = .ok (.iload_n 2, 1) := by decide +kernel
theorem dX3_nextChain_15 : decode cX3_nextChain 15 = .ok (.iconst 1, 1) := by decide +kernel
theorem dX3_nextChain_16 : decode cX3_nextChain 16 = .ok (.iadd, 1) := by decide +kernel
theorem dX3_nextChain_17 : decode cX3_nextChain 17 = .ok (.imul, 1) := by decide +kernel
theorem dX3_nextChain_18 : decode cX3_nextChain 18 = .ok (.i2l, 1) := by decide +kernel
theorem dX3_nextChain_19 : decode cX3_nextChain 19 = .ok (.ladd, 1) := by decide +kernel
theorem dX3_nextChain_20 : decode cX3_nextChain 20 = .ok (.sipush 257, 3) := by decide +kernel
theorem dX3_nextChain_23 : decode cX3_nextChain 23 = .ok (.iload_n 3, 1) := by decide +kernel
theorem dX3_nextChain_24 : decode cX3_nextChain 24 = .ok (.imul, 1) := by decide +kernel
theorem dX3_nextChain_25 : decode cX3_nextChain 25 = .ok (.i2l, 1) := by decide +kernel
theorem dX3_nextChain_26 : decode cX3_nextChain 26 = .ok (.ladd, 1) := by decide +kernel
theorem dX3_nextChain_27 : decode cX3_nextChain 27 = .ok (.ldc2_w 226, 3) := by decide +kernel
theorem dX3_nextChain_30 : decode cX3_nextChain 30 = .ok (.lrem, 1) := by decide +kernel
theorem dX3_nextChain_31 : decode cX3_nextChain 31 = .ok (.l2i, 1) := by decide +kernel
theorem dX3_nextChain_32 : decode cX3_nextChain 32 = .ok (.ireturn, 1) := by decide +kernel
theorem dX3_othersOf_0 : decode cX3_othersOf 0 = .ok (.iconst 1, 1) := by decide +kernel
theorem dX3_othersOf_1 : decode cX3_othersOf 1 = .ok (.iload_n 1, 1) := by decide +kernel
theorem dX3_othersOf_2 : decode cX3_othersOf 2 = .ok (.ishl, 1) := by decide +kernel
theorem dX3_othersOf_3 : decode cX3_othersOf 3 = .ok (.iconst 1, 1) := by decide +kernel
theorem dX3_othersOf_4 : decode cX3_othersOf 4 = .ok (.isub, 1) := by decide +kernel
theorem dX3_othersOf_5 : decode cX3_othersOf 5 = .ok (.iconst 1, 1) := by decide +kernel
theorem dX3_othersOf_6 : decode cX3_othersOf 6 = .ok (.iload_n 0, 1) := by decide +kernel
theorem dX3_othersOf_7 : decode cX3_othersOf 7 = .ok (.ishl, 1) := by decide +kernel
theorem dX3_othersOf_8 : decode cX3_othersOf 8 = .ok (.iconst (-1), 1) := by decide +kernel
theorem dX3_othersOf_9 : decode cX3_othersOf 9 = .ok (.ixor, 1) := by decide +kernel
theorem dX3_othersOf_10 : decode cX3_othersOf 10 = .ok (.iand, 1) := by decide +kernel
theorem dX3_othersOf_11 : decode cX3_othersOf 11 = .ok (.ireturn, 1) := by decide +kernel
