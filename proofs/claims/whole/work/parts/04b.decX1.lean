theorem dX1_init_0 : decode cX1_init 0 = .ok (.aload_n 0, 1) := by decide +kernel
theorem dX1_init_1 : decode cX1_init 1 = .ok (.invokespecial 3, 3) := by decide +kernel
theorem dX1_init_4 : decode cX1_init 4 = .ok (.aload_n 0, 1) := by decide +kernel
theorem dX1_init_5 : decode cX1_init 5 = .ok (.iload_n 1, 1) := by decide +kernel
theorem dX1_init_6 : decode cX1_init 6 = .ok (.putfield 9, 3) := by decide +kernel
theorem dX1_init_9 : decode cX1_init 9 = .ok (.aload_n 0, 1) := by decide +kernel
theorem dX1_init_10 : decode cX1_init 10 = .ok (.iload_n 2, 1) := by decide +kernel
theorem dX1_init_11 : decode cX1_init 11 = .ok (.putfield 15, 3) := by decide +kernel
theorem dX1_init_14 : decode cX1_init 14 = .ok (.aload_n 0, 1) := by decide +kernel
theorem dX1_init_15 : decode cX1_init 15 = .ok (.iload_n 1, 1) := by decide +kernel
theorem dX1_init_16 : decode cX1_init 16 = .ok (.iload_n 2, 1) := by decide +kernel
theorem dX1_init_17 : decode cX1_init 17 = .ok (.imul, 1) := by decide +kernel
theorem dX1_init_18 : decode cX1_init 18 = .ok (.newarray .int, 2) := by decide +kernel
theorem dX1_init_20 : decode cX1_init 20 = .ok (.putfield 18, 3) := by decide +kernel
theorem dX1_init_23 : decode cX1_init 23 = .ok (.return_, 1) := by decide +kernel
theorem dX1_get_0 : decode cX1_get 0 = .ok (.iload_n 1, 1) := by decide +kernel
theorem dX1_get_1 : decode cX1_get 1 = .ok (.ifCond .lt 23, 3) := by decide +kernel
theorem dX1_get_4 : decode cX1_get 4 = .ok (.iload_n 1, 1) := by decide +kernel
theorem dX1_get_5 : decode cX1_get 5 = .ok (.aload_n 0, 1) := by decide +kernel
theorem dX1_get_6 : decode cX1_get 6 = .ok (.getfield 22, 3) := by decide +kernel
theorem dX1_get_9 : decode cX1_get 9 = .ok (.if_icmp .ge 15, 3) := by decide +kernel
theorem dX1_get_12 : decode cX1_get 12 = .ok (.iload_n 2, 1) := by decide +kernel
theorem dX1_get_13 : decode cX1_get 13 = .ok (.ifCond .lt 11, 3) := by decide +kernel
theorem dX1_get_16 : decode cX1_get 16 = .ok (.iload_n 2, 1) := by decide +kernel
theorem dX1_get_17 : decode cX1_get 17 = .ok (.aload_n 0, 1) := by decide +kernel
theorem dX1_get_18 : decode cX1_get 18 = .ok (.getfield 9, 3) := by decide +kernel
theorem dX1_get_21 : decode cX1_get 21 = .ok (.if_icmp .lt 5, 3) := by decide +kernel
theorem dX1_get_24 : decode cX1_get 24 = .ok (.iconst (-1), 1) := by decide +kernel
theorem dX1_get_25 : decode cX1_get 25 = .ok (.ireturn, 1) := by decide +kernel
theorem dX1_get_26 : decode cX1_get 26 = .ok (.aload_n 0, 1) := by decide +kernel
theorem dX1_get_27 : decode cX1_get 27 = .ok (.getfield 18, 3) := by decide +kernel
theorem dX1_get_30 : decode cX1_get 30 = .ok (.iload_n 1, 1) := by decide +kernel
theorem dX1_get_31 : decode cX1_get 31 = .ok (.aload_n 0, 1) := by decide +kernel
theorem dX1_get_32 : decode cX1_get 32 = .ok (.getfield 9, 3) := by decide +kernel
theorem dX1_get_35 : decode cX1_get 35 = .ok (.imul, 1) := by decide +kernel
theorem dX1_get_36 : decode cX1_get 36 = .ok (.iload_n 2, 1) := by decide +kernel
theorem dX1_get_37 : decode cX1_get 37 = .ok (.iadd, 1) := by decide +kernel
theorem dX1_get_38 : decode cX1_get 38 = .ok (.iaload, 1) := by decide +kernel
theorem dX1_get_39 : decode cX1_get 39 = .ok (.ireturn, 1) := by decide +kernel
theorem dX1_set_0 : decode cX1_set 0 = .ok (.iload_n 1, 1) := by decide +kernel
theorem dX1_set_1 : decode cX1_set 1 = .ok (.ifCond .lt 37, 3) := by decide +kernel
theorem dX1_set_4 : decode cX1_set 4 = .ok (.iload_n 1, 1) := by decide +kernel
theorem dX1_set_5 : decode cX1_set 5 = .ok (.aload_n 0, 1) := by decide +kernel
theorem dX1_set_6 : decode cX1_set 6 = .ok (.getfield 22, 3) := by decide +kernel
theorem dX1_set_9 : decode cX1_set 9 = .ok (.if_icmp .ge 29, 3) := by decide +kernel
theorem dX1_set_12 : decode cX1_set 12 = .ok (.iload_n 2, 1) := by decide +kernel
theorem dX1_set_13 : decode cX1_set 13 = .ok (.ifCond .lt 25, 3) := by decide +kernel
theorem dX1_set_16 : decode cX1_set 16 = .ok (.iload_n 2, 1) := by decide +kernel
theorem dX1_set_17 : decode cX1_set 17 = .ok (.aload_n 0, 1) := by decide +kernel
theorem dX1_set_18 : decode cX1_set 18 = .ok (.getfield 9, 3) := by decide +kernel
theorem dX1_set_21 : decode cX1_set 21 = .ok (.if_icmp .ge 17, 3) := by decide +kernel
theorem dX1_set_24 : decode cX1_set 24 = .ok (.aload_n 0, 1) := by decide +kernel
theorem dX1_set_25 : decode cX1_set 25 = .ok (.getfield 18, 3) := by decide +kernel
theorem dX1_set_28 : decode cX1_set 28 = .ok (.iload_n 1, 1) := by decide +kernel
theorem dX1_set_29 : decode cX1_set 29 = .ok (.aload_n 0, 1) := by decide +kernel
theorem dX1_set_30 : decode cX1_set 30 = .ok (.getfield 9, 3) := by decide +kernel
theorem dX1_set_33 : decode cX1_set 33 = .ok (.imul, 1) := by decide +kernel
theorem dX1_set_34 : decode cX1_set 34 = .ok (.iload_n 2, 1) := by decide +kernel
theorem dX1_set_35 : decode cX1_set 35 = .ok (.iadd, 1) := by decide +kernel
theorem dX1_set_36 : decode cX1_set 36 = .ok (.iload_n 3, 1) := by decide +kernel
theorem dX1_set_37 : decode cX1_set 37 = .ok (.iastore, 1) := by decide +kernel
theorem dX1_set_38 : decode cX1_set 38 = .ok (.return_, 1) := by decide +kernel
theorem dX1_addRow_0 : decode cX1_addRow 0 = .ok (.aload_n 0, 1) := by decide +kernel
theorem dX1_addRow_1 : decode cX1_addRow 1 = .ok (.getfield 22, 3) := by decide +kernel
theorem dX1_addRow_4 : decode cX1_addRow 4 = .ok (.aload_n 0, 1) := by decide +kernel
theorem dX1_addRow_5 : decode cX1_addRow 5 = .ok (.getfield 15, 3) := by decide +kernel
theorem dX1_addRow_8 : decode cX1_addRow 8 = .ok (.if_icmp .lt 5, 3) := by decide +kernel
theorem dX1_addRow_11 : decode cX1_addRow 11 = .ok (.iconst (-1), 1) := by decide +kernel
theorem dX1_addRow_12 : decode cX1_addRow 12 = .ok (.ireturn, 1) := by decide +kernel
theorem dX1_addRow_13 : decode cX1_addRow 13 = .ok (.aload_n 0, 1) := by decide +kernel
theorem dX1_addRow_14 : decode cX1_addRow 14 = .ok (.dup, 1) := by decide +kernel
theorem dX1_addRow_15 : decode cX1_addRow 15 = .ok (.getfield 22, 3) := by decide +kernel
theorem dX1_addRow_18 : decode cX1_addRow 18 = .ok (.iconst 1, 1) := by decide +kernel
theorem dX1_addRow_19 : decode cX1_addRow 19 = .ok (.iadd, 1) := by decide +kernel
theorem dX1_addRow_20 : decode cX1_addRow 20 = .ok (.putfield 22, 3) := by decide +kernel
theorem dX1_addRow_23 : decode cX1_addRow 23 = .ok (.aload_n 0, 1) := by decide +kernel
theorem dX1_addRow_24 : decode cX1_addRow 24 = .ok (.getfield 22, 3) := by decide +kernel
theorem dX1_addRow_27 : decode cX1_addRow 27 = .ok (.iconst 1, 1) := by decide +kernel
theorem dX1_addRow_28 : decode cX1_addRow 28 = .ok (.isub, 1) := by decide +kernel
theorem dX1_addRow_29 : decode cX1_addRow 29 = .ok (.ireturn, 1) := by decide +kernel
theorem dX1_addCopy_0 : decode cX1_addCopy 0 = .ok (.aload_n 0, 1) := by decide +kernel
theorem dX1_addCopy_1 : decode cX1_addCopy 1 = .ok (.invokevirtual 25, 3) := by decide +kernel
theorem dX1_addCopy_4 : decode cX1_addCopy 4 = .ok (.istore_n 3, 1) := by decide +kernel
theorem dX1_addCopy_5 : decode cX1_addCopy 5 = .ok (.iconst 0, 1) := by decide +kernel
theorem dX1_addCopy_6 : decode cX1_addCopy 6 = .ok (.istore 4, 2) := by decide +kernel
theorem dX1_addCopy_8 : decode cX1_addCopy 8 = .ok (.iload 4, 2) := by decide +kernel
theorem dX1_addCopy_10 : decode cX1_addCopy 10 = .ok (.aload_n 0, 1) := by decide +kernel
theorem dX1_addCopy_11 : decode cX1_addCopy 11 = .ok (.getfield 9, 3) := by decide +kernel
theorem dX1_addCopy_14 : decode cX1_addCopy 14 = .ok (.if_icmp .ge 23, 3) := by decide +kernel
theorem dX1_addCopy_17 : decode cX1_addCopy 17 = .ok (.aload_n 0, 1) := by decide +kernel
theorem dX1_addCopy_18 : decode cX1_addCopy 18 = .ok (.iload_n 3, 1) := by decide +kernel
theorem dX1_addCopy_19 : decode cX1_addCopy 19 = .ok (.iload 4, 2) := by decide +kernel
theorem dX1_addCopy_21 : decode cX1_addCopy 21 = .ok (.aload_n 1, 1) := by decide +kernel
theorem dX1_addCopy_22 : decode cX1_addCopy 22 = .ok (.iload_n 2, 1) := by decide +kernel
theorem dX1_addCopy_23 : decode cX1_addCopy 23 = .ok (.iload 4, 2) := by decide +kernel
theorem dX1_addCopy_25 : decode cX1_addCopy 25 = .ok (.invokevirtual 29, 3) := by decide +kernel
theorem dX1_addCopy_28 : decode cX1_addCopy 28 = .ok (.invokevirtual 33, 3) := by decide +kernel
theorem dX1_addCopy_31 : decode cX1_addCopy 31 = .ok (.iinc 4 1, 3) := by decide +kernel
theorem dX1_addCopy_34 : decode cX1_addCopy 34 = .ok (.goto (-26), 3) := by decide +kernel
theorem dX1_addCopy_37 : decode cX1_addCopy 37 = .ok (.return_, 1) := by decide +kernel
theorem dX1_removeFirst_0 : decode cX1_removeFirst 0 = .ok (.aload_n 0, 1) := by decide +kernel
theorem dX1_removeFirst_1 : decode cX1_removeFirst 1 = .ok (.getfield 22, 3) := by decide +kernel
theorem dX1_removeFirst_4 : decode cX1_removeFirst 4 = .ok (.ifCond .le 38, 3) := by decide +kernel
theorem dX1_removeFirst_7 : decode cX1_removeFirst 7 = .ok (.aload_n 0, 1) := by decide +kernel
theorem dX1_removeFirst_8 : decode cX1_removeFirst 8 = .ok (.dup, 1) := by decide +kernel
theorem dX1_removeFirst_9 : decode cX1_removeFirst 9 = .ok (.getfield 22, 3) := by decide +kernel
theorem dX1_removeFirst_12 : decode cX1_removeFirst 12 = .ok (.iconst 1, 1) := by decide +kernel
theorem dX1_removeFirst_13 : decode cX1_removeFirst 13 = .ok (.isub, 1) := by decide +kernel
theorem dX1_removeFirst_14 : decode cX1_removeFirst 14 = .ok (.putfield 22, 3) := by decide +kernel
theorem dX1_removeFirst_17 : decode cX1_removeFirst 17 = .ok (.aload_n 0, 1) := by decide +kernel
theorem dX1_removeFirst_18 : decode cX1_removeFirst 18 = .ok (.getfield 18, 3) := by decide +kernel
theorem dX1_removeFirst_21 : decode cX1_removeFirst 21 = .ok (.aload_n 0, 1) := by decide +kernel
theorem dX1_removeFirst_22 : decode cX1_removeFirst 22 = .ok (.getfield 9, 3) := by decide +kernel
theorem dX1_removeFirst_25 : decode cX1_removeFirst 25 = .ok (.aload_n 0, 1) := by decide +kernel
theorem dX1_removeFirst_26 : decode cX1_removeFirst 26 = .ok (.getfield 18, 3) := by decide +kernel
theorem dX1_removeFirst_29 : decode cX1_removeFirst 29 = .ok (.iconst 0, 1) := by decide +kernel
theorem dX1_removeFirst_30 : decode cX1_removeFirst 30 = .ok (.aload_n 0, 1) := by decide +kernel
theorem dX1_removeFirst_31 : decode cX1_removeFirst 31 = .ok (.getfield 22, 3) := by decide +kernel
theorem dX1_removeFirst_34 : decode cX1_removeFirst 34 = .ok (.aload_n 0, 1) := by decide +kernel
theorem dX1_removeFirst_35 : decode cX1_removeFirst 35 = .ok (.getfield 9, 3) := by decide +kernel
theorem dX1_removeFirst_38 : decode cX1_removeFirst 38 = .ok (.imul, 1) := by decide +kernel
theorem dX1_removeFirst_39 : decode cX1_removeFirst 39 = .ok (.invokestatic 37, 3) := by decide +kernel
theorem dX1_removeFirst_42 : decode cX1_removeFirst 42 = .ok (.return_, 1) := by decide +kernel
theorem dX1_keepFirst_0 : decode cX1_keepFirst 0 = .ok (.iload_n 1, 1) := by decide +kernel
theorem dX1_keepFirst_1 : decode cX1_keepFirst 1 = .ok (.ifCond .lt 16, 3) := by decide +kernel
theorem dX1_keepFirst_4 : decode cX1_keepFirst 4 = .ok (.iload_n 1, 1) := by decide +kernel
theorem dX1_keepFirst_5 : decode cX1_keepFirst 5 = .ok (.aload_n 0, 1) := by decide +kernel
theorem dX1_keepFirst_6 : decode cX1_keepFirst 6 = .ok (.getfield 22, 3) := by decide +kernel
theorem dX1_keepFirst_9 : decode cX1_keepFirst 9 = .ok (.if_icmp .ge 8, 3) := by decide +kernel
theorem dX1_keepFirst_12 : decode cX1_keepFirst 12 = .ok (.aload_n 0, 1) := by decide +kernel
theorem dX1_keepFirst_13 : decode cX1_keepFirst 13 = .ok (.iload_n 1, 1) := by decide +kernel
theorem dX1_keepFirst_14 : decode cX1_keepFirst 14 = .ok (.putfield 22, 3) := by decide +kernel
theorem dX1_keepFirst_17 : decode cX1_keepFirst 17 = .ok (.return_, 1) := by decide +kernel
theorem dX1_copyRows_0 : decode cX1_copyRows 0 = .ok (.aload_n 0, 1) := by decide +kernel
theorem dX1_copyRows_1 : decode cX1_copyRows 1 = .ok (.aload_n 1, 1) := by decide +kernel
theorem dX1_copyRows_2 : decode cX1_copyRows 2 = .ok (.getfield 22, 3) := by decide +kernel
theorem dX1_copyRows_5 : decode cX1_copyRows 5 = .ok (.putfield 22, 3) := by decide +kernel
theorem dX1_copyRows_8 : decode cX1_copyRows 8 = .ok (.aload_n 1, 1) := by decide +kernel
theorem dX1_copyRows_9 : decode cX1_copyRows 9 = .ok (.getfield 18, 3) := by decide +kernel
theorem dX1_copyRows_12 : decode cX1_copyRows 12 = .ok (.iconst 0, 1) := by decide +kernel
theorem dX1_copyRows_13 : decode cX1_copyRows 13 = .ok (.aload_n 0, 1) := by decide +kernel
theorem dX1_copyRows_14 : decode cX1_copyRows 14 = .ok (.getfield 18, 3) := by decide +kernel
theorem dX1_copyRows_17 : decode cX1_copyRows 17 = .ok (.iconst 0, 1) := by decide +kernel
theorem dX1_copyRows_18 : decode cX1_copyRows 18 = .ok (.aload_n 0, 1) := by decide +kernel
theorem dX1_copyRows_19 : decode cX1_copyRows 19 = .ok (.getfield 22, 3) := by decide +kernel
theorem dX1_copyRows_22 : decode cX1_copyRows 22 = .ok (.aload_n 0, 1) := by decide +kernel
theorem dX1_copyRows_23 : decode cX1_copyRows 23 = .ok (.getfield 9, 3) := by decide +kernel
theorem dX1_copyRows_26 : decode cX1_copyRows 26 = .ok (.imul, 1) := by decide +kernel
theorem dX1_copyRows_27 : decode cX1_copyRows 27 = .ok (.invokestatic 37, 3) := by decide +kernel
theorem dX1_copyRows_30 : decode cX1_copyRows 30 = .ok (.return_, 1) := by decide +kernel
