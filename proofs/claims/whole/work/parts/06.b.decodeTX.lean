theorem d_TX_init_0 : decode b_TX_init 0 = .ok (.aload_n 0, 1) := by decide +kernel
theorem d_TX_init_1 : decode b_TX_init 1 = .ok (.invokespecial 3, 3) := by decide +kernel
theorem d_TX_init_4 : decode b_TX_init 4 = .ok (.aload_n 0, 1) := by decide +kernel
theorem d_TX_init_5 : decode b_TX_init 5 = .ok (.bipush 100, 2) := by decide +kernel
theorem d_TX_init_7 : decode b_TX_init 7 = .ok (.newarray .int, 2) := by decide +kernel
theorem d_TX_init_9 : decode b_TX_init 9 = .ok (.putfield 9, 3) := by decide +kernel
theorem d_TX_init_12 : decode b_TX_init 12 = .ok (.return_, 1) := by decide +kernel
theorem d_TX_add_0 : decode b_TX_add 0 = .ok (.aload_n 0, 1) := by decide +kernel
theorem d_TX_add_1 : decode b_TX_add 1 = .ok (.getfield 15, 3) := by decide +kernel
theorem d_TX_add_4 : decode b_TX_add 4 = .ok (.bipush 100, 2) := by decide +kernel
theorem d_TX_add_6 : decode b_TX_add 6 = .ok (.if_icmp .lt 5, 3) := by decide +kernel
theorem d_TX_add_9 : decode b_TX_add 9 = .ok (.iconst 0, 1) := by decide +kernel
theorem d_TX_add_10 : decode b_TX_add 10 = .ok (.ireturn, 1) := by decide +kernel
theorem d_TX_add_11 : decode b_TX_add 11 = .ok (.aload_n 0, 1) := by decide +kernel
theorem d_TX_add_12 : decode b_TX_add 12 = .ok (.getfield 9, 3) := by decide +kernel
theorem d_TX_add_15 : decode b_TX_add 15 = .ok (.aload_n 0, 1) := by decide +kernel
theorem d_TX_add_16 : decode b_TX_add 16 = .ok (.getfield 15, 3) := by decide +kernel
theorem d_TX_add_19 : decode b_TX_add 19 = .ok (.iload_n 1, 1) := by decide +kernel
theorem d_TX_add_20 : decode b_TX_add 20 = .ok (.iastore, 1) := by decide +kernel
theorem d_TX_add_21 : decode b_TX_add 21 = .ok (.aload_n 0, 1) := by decide +kernel
theorem d_TX_add_22 : decode b_TX_add 22 = .ok (.dup, 1) := by decide +kernel
theorem d_TX_add_23 : decode b_TX_add 23 = .ok (.getfield 15, 3) := by decide +kernel
theorem d_TX_add_26 : decode b_TX_add 26 = .ok (.iconst 1, 1) := by decide +kernel
theorem d_TX_add_27 : decode b_TX_add 27 = .ok (.iadd, 1) := by decide +kernel
theorem d_TX_add_28 : decode b_TX_add 28 = .ok (.putfield 15, 3) := by decide +kernel
theorem d_TX_add_31 : decode b_TX_add 31 = .ok (.iconst 1, 1) := by decide +kernel
theorem d_TX_add_32 : decode b_TX_add 32 = .ok (.ireturn, 1) := by decide +kernel
theorem d_TX_signAt_0 : decode b_TX_signAt 0 = .ok (.iload_n 1, 1) := by decide +kernel
theorem d_TX_signAt_1 : decode b_TX_signAt 1 = .ok (.ifCond .lt 20, 3) := by decide +kernel
theorem d_TX_signAt_4 : decode b_TX_signAt 4 = .ok (.iload_n 1, 1) := by decide +kernel
theorem d_TX_signAt_5 : decode b_TX_signAt 5 = .ok (.aload_n 0, 1) := by decide +kernel
theorem d_TX_signAt_6 : decode b_TX_signAt 6 = .ok (.getfield 15, 3) := by decide +kernel
theorem d_TX_signAt_9 : decode b_TX_signAt 9 = .ok (.if_icmp .ge 12, 3) := by decide +kernel
theorem d_TX_signAt_12 : decode b_TX_signAt 12 = .ok (.aload_n 0, 1) := by decide +kernel
theorem d_TX_signAt_13 : decode b_TX_signAt 13 = .ok (.getfield 9, 3) := by decide +kernel
theorem d_TX_signAt_16 : decode b_TX_signAt 16 = .ok (.iload_n 1, 1) := by decide +kernel
theorem d_TX_signAt_17 : decode b_TX_signAt 17 = .ok (.iaload, 1) := by decide +kernel
theorem d_TX_signAt_18 : decode b_TX_signAt 18 = .ok (.goto 4, 3) := by decide +kernel
theorem d_TX_signAt_21 : decode b_TX_signAt 21 = .ok (.iconst (-1), 1) := by decide +kernel
theorem d_TX_signAt_22 : decode b_TX_signAt 22 = .ok (.ireturn, 1) := by decide +kernel
theorem d_TX_clear_0 : decode b_TX_clear 0 = .ok (.aload_n 0, 1) := by decide +kernel
theorem d_TX_clear_1 : decode b_TX_clear 1 = .ok (.iconst 0, 1) := by decide +kernel
theorem d_TX_clear_2 : decode b_TX_clear 2 = .ok (.putfield 15, 3) := by decide +kernel
theorem d_TX_clear_5 : decode b_TX_clear 5 = .ok (.return_, 1) := by decide +kernel
