theorem d_BO_init_0 : decode b_BO_init 0 = .ok (.aload_n 0, 1) := by decide +kernel
theorem d_BO_init_1 : decode b_BO_init 1 = .ok (.invokespecial 3, 3) := by decide +kernel
theorem d_BO_init_4 : decode b_BO_init 4 = .ok (.aload_n 0, 1) := by decide +kernel
theorem d_BO_init_5 : decode b_BO_init 5 = .ok (.iconst 5, 1) := by decide +kernel
theorem d_BO_init_6 : decode b_BO_init 6 = .ok (.newarray .int, 2) := by decide +kernel
theorem d_BO_init_8 : decode b_BO_init 8 = .ok (.putfield 9, 3) := by decide +kernel
theorem d_BO_init_11 : decode b_BO_init 11 = .ok (.aload_n 0, 1) := by decide +kernel
theorem d_BO_init_12 : decode b_BO_init 12 = .ok (.iconst 5, 1) := by decide +kernel
theorem d_BO_init_13 : decode b_BO_init 13 = .ok (.newarray .int, 2) := by decide +kernel
theorem d_BO_init_15 : decode b_BO_init 15 = .ok (.putfield 15, 3) := by decide +kernel
theorem d_BO_init_18 : decode b_BO_init 18 = .ok (.return_, 1) := by decide +kernel
theorem d_BO_addLine_0 : decode b_BO_addLine 0 = .ok (.aload_n 0, 1) := by decide +kernel
theorem d_BO_addLine_1 : decode b_BO_addLine 1 = .ok (.getfield 18, 3) := by decide +kernel
theorem d_BO_addLine_4 : decode b_BO_addLine 4 = .ok (.iconst 5, 1) := by decide +kernel
theorem d_BO_addLine_5 : decode b_BO_addLine 5 = .ok (.if_icmp .ge 11, 3) := by decide +kernel
theorem d_BO_addLine_8 : decode b_BO_addLine 8 = .ok (.aload_n 0, 1) := by decide +kernel
theorem d_BO_addLine_9 : decode b_BO_addLine 9 = .ok (.iload_n 1, 1) := by decide +kernel
theorem d_BO_addLine_10 : decode b_BO_addLine 10 = .ok (.invokevirtual 22, 3) := by decide +kernel
theorem d_BO_addLine_13 : decode b_BO_addLine 13 = .ok (.ifCond .eq 5, 3) := by decide +kernel
theorem d_BO_addLine_16 : decode b_BO_addLine 16 = .ok (.iconst 0, 1) := by decide +kernel
theorem d_BO_addLine_17 : decode b_BO_addLine 17 = .ok (.ireturn, 1) := by decide +kernel
theorem d_BO_addLine_18 : decode b_BO_addLine 18 = .ok (.aload_n 0, 1) := by decide +kernel
theorem d_BO_addLine_19 : decode b_BO_addLine 19 = .ok (.getfield 9, 3) := by decide +kernel
theorem d_BO_addLine_22 : decode b_BO_addLine 22 = .ok (.aload_n 0, 1) := by decide +kernel
theorem d_BO_addLine_23 : decode b_BO_addLine 23 = .ok (.getfield 18, 3) := by decide +kernel
theorem d_BO_addLine_26 : decode b_BO_addLine 26 = .ok (.iload_n 1, 1) := by decide +kernel
theorem d_BO_addLine_27 : decode b_BO_addLine 27 = .ok (.iastore, 1) := by decide +kernel
theorem d_BO_addLine_28 : decode b_BO_addLine 28 = .ok (.aload_n 0, 1) := by decide +kernel
theorem d_BO_addLine_29 : decode b_BO_addLine 29 = .ok (.getfield 15, 3) := by decide +kernel
theorem d_BO_addLine_32 : decode b_BO_addLine 32 = .ok (.aload_n 0, 1) := by decide +kernel
theorem d_BO_addLine_33 : decode b_BO_addLine 33 = .ok (.getfield 18, 3) := by decide +kernel
theorem d_BO_addLine_36 : decode b_BO_addLine 36 = .ok (.iload_n 2, 1) := by decide +kernel
theorem d_BO_addLine_37 : decode b_BO_addLine 37 = .ok (.iastore, 1) := by decide +kernel
theorem d_BO_addLine_38 : decode b_BO_addLine 38 = .ok (.aload_n 0, 1) := by decide +kernel
theorem d_BO_addLine_39 : decode b_BO_addLine 39 = .ok (.dup, 1) := by decide +kernel
theorem d_BO_addLine_40 : decode b_BO_addLine 40 = .ok (.getfield 18, 3) := by decide +kernel
theorem d_BO_addLine_43 : decode b_BO_addLine 43 = .ok (.iconst 1, 1) := by decide +kernel
theorem d_BO_addLine_44 : decode b_BO_addLine 44 = .ok (.iadd, 1) := by decide +kernel
theorem d_BO_addLine_45 : decode b_BO_addLine 45 = .ok (.putfield 18, 3) := by decide +kernel
theorem d_BO_addLine_48 : decode b_BO_addLine 48 = .ok (.iconst 1, 1) := by decide +kernel
theorem d_BO_addLine_49 : decode b_BO_addLine 49 = .ok (.ireturn, 1) := by decide +kernel
theorem d_BO_has_0 : decode b_BO_has 0 = .ok (.iconst 0, 1) := by decide +kernel
theorem d_BO_has_1 : decode b_BO_has 1 = .ok (.istore_n 2, 1) := by decide +kernel
theorem d_BO_has_2 : decode b_BO_has 2 = .ok (.iload_n 2, 1) := by decide +kernel
theorem d_BO_has_3 : decode b_BO_has 3 = .ok (.aload_n 0, 1) := by decide +kernel
theorem d_BO_has_4 : decode b_BO_has 4 = .ok (.getfield 18, 3) := by decide +kernel
theorem d_BO_has_7 : decode b_BO_has 7 = .ok (.if_icmp .ge 21, 3) := by decide +kernel
theorem d_BO_has_10 : decode b_BO_has 10 = .ok (.aload_n 0, 1) := by decide +kernel
theorem d_BO_has_11 : decode b_BO_has 11 = .ok (.getfield 9, 3) := by decide +kernel
theorem d_BO_has_14 : decode b_BO_has 14 = .ok (.iload_n 2, 1) := by decide +kernel
theorem d_BO_has_15 : decode b_BO_has 15 = .ok (.iaload, 1) := by decide +kernel
theorem d_BO_has_16 : decode b_BO_has 16 = .ok (.iload_n 1, 1) := by decide +kernel
theorem d_BO_has_17 : decode b_BO_has 17 = .ok (.if_icmp .ne 5, 3) := by decide +kernel
theorem d_BO_has_20 : decode b_BO_has 20 = .ok (.iconst 1, 1) := by decide +kernel
theorem d_BO_has_21 : decode b_BO_has 21 = .ok (.ireturn, 1) := by decide +kernel
theorem d_BO_has_22 : decode b_BO_has 22 = .ok (.iinc 2 1, 3) := by decide +kernel
theorem d_BO_has_25 : decode b_BO_has 25 = .ok (.goto (-23), 3) := by decide +kernel
theorem d_BO_has_28 : decode b_BO_has 28 = .ok (.iconst 0, 1) := by decide +kernel
theorem d_BO_has_29 : decode b_BO_has 29 = .ok (.ireturn, 1) := by decide +kernel
