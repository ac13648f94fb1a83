theorem d_NA_init_0 : decode b_NA_init 0 = .ok (.aload_n 0, 1) := by decide +kernel
theorem d_NA_init_1 : decode b_NA_init 1 = .ok (.invokespecial 3, 3) := by decide +kernel
theorem d_NA_init_4 : decode b_NA_init 4 = .ok (.aload_n 0, 1) := by decide +kernel
theorem d_NA_init_5 : decode b_NA_init 5 = .ok (.bipush 12, 2) := by decide +kernel
theorem d_NA_init_7 : decode b_NA_init 7 = .ok (.newarray .int, 2) := by decide +kernel
theorem d_NA_init_9 : decode b_NA_init 9 = .ok (.putfield 9, 3) := by decide +kernel
theorem d_NA_init_12 : decode b_NA_init 12 = .ok (.aload_n 0, 1) := by decide +kernel
theorem d_NA_init_13 : decode b_NA_init 13 = .ok (.iconst (-1), 1) := by decide +kernel
theorem d_NA_init_14 : decode b_NA_init 14 = .ok (.putfield 15, 3) := by decide +kernel
theorem d_NA_init_17 : decode b_NA_init 17 = .ok (.return_, 1) := by decide +kernel
theorem d_NA_take_0 : decode b_NA_take 0 = .ok (.aload_n 0, 1) := by decide +kernel
theorem d_NA_take_1 : decode b_NA_take 1 = .ok (.aload_n 1, 1) := by decide +kernel
theorem d_NA_take_2 : decode b_NA_take 2 = .ok (.getfield 19, 3) := by decide +kernel
theorem d_NA_take_5 : decode b_NA_take 5 = .ok (.putfield 24, 3) := by decide +kernel
theorem d_NA_take_8 : decode b_NA_take 8 = .ok (.iconst 0, 1) := by decide +kernel
theorem d_NA_take_9 : decode b_NA_take 9 = .ok (.istore_n 2, 1) := by decide +kernel
theorem d_NA_take_10 : decode b_NA_take 10 = .ok (.iload_n 2, 1) := by decide +kernel
theorem d_NA_take_11 : decode b_NA_take 11 = .ok (.aload_n 0, 1) := by decide +kernel
theorem d_NA_take_12 : decode b_NA_take 12 = .ok (.getfield 24, 3) := by decide +kernel
theorem d_NA_take_15 : decode b_NA_take 15 = .ok (.if_icmp .ge 20, 3) := by decide +kernel
theorem d_NA_take_18 : decode b_NA_take 18 = .ok (.aload_n 0, 1) := by decide +kernel
theorem d_NA_take_19 : decode b_NA_take 19 = .ok (.getfield 9, 3) := by decide +kernel
theorem d_NA_take_22 : decode b_NA_take 22 = .ok (.iload_n 2, 1) := by decide +kernel
theorem d_NA_take_23 : decode b_NA_take 23 = .ok (.aload_n 1, 1) := by decide +kernel
theorem d_NA_take_24 : decode b_NA_take 24 = .ok (.iload_n 2, 1) := by decide +kernel
theorem d_NA_take_25 : decode b_NA_take 25 = .ok (.invokevirtual 25, 3) := by decide +kernel
theorem d_NA_take_28 : decode b_NA_take 28 = .ok (.iastore, 1) := by decide +kernel
theorem d_NA_take_29 : decode b_NA_take 29 = .ok (.iinc 2 1, 3) := by decide +kernel
theorem d_NA_take_32 : decode b_NA_take 32 = .ok (.goto (-22), 3) := by decide +kernel
theorem d_NA_take_35 : decode b_NA_take 35 = .ok (.return_, 1) := by decide +kernel
theorem d_NA_isBeforeByLetters_0 : decode b_NA_isBeforeByLetters 0 = .ok (.aload_n 0, 1) := by decide +kernel
theorem d_NA_isBeforeByLetters_1 : decode b_NA_isBeforeByLetters 1 = .ok (.getfield 24, 3) := by decide +kernel
theorem d_NA_isBeforeByLetters_4 : decode b_NA_isBeforeByLetters 4 = .ok (.aload_n 1, 1) := by decide +kernel
theorem d_NA_isBeforeByLetters_5 : decode b_NA_isBeforeByLetters 5 = .ok (.getfield 24, 3) := by decide +kernel
theorem d_NA_isBeforeByLetters_8 : decode b_NA_isBeforeByLetters 8 = .ok (.invokestatic 29, 3) := by decide +kernel
theorem d_NA_isBeforeByLetters_11 : decode b_NA_isBeforeByLetters 11 = .ok (.istore_n 2, 1) := by decide +kernel
theorem d_NA_isBeforeByLetters_12 : decode b_NA_isBeforeByLetters 12 = .ok (.iconst 0, 1) := by decide +kernel
theorem d_NA_isBeforeByLetters_13 : decode b_NA_isBeforeByLetters 13 = .ok (.istore_n 3, 1) := by decide +kernel
theorem d_NA_isBeforeByLetters_14 : decode b_NA_isBeforeByLetters 14 = .ok (.iload_n 3, 1) := by decide +kernel
theorem d_NA_isBeforeByLetters_15 : decode b_NA_isBeforeByLetters 15 = .ok (.iload_n 2, 1) := by decide +kernel
theorem d_NA_isBeforeByLetters_16 : decode b_NA_isBeforeByLetters 16 = .ok (.if_icmp .ge 45, 3) := by decide +kernel
theorem d_NA_isBeforeByLetters_19 : decode b_NA_isBeforeByLetters 19 = .ok (.aload_n 0, 1) := by decide +kernel
theorem d_NA_isBeforeByLetters_20 : decode b_NA_isBeforeByLetters 20 = .ok (.getfield 9, 3) := by decide +kernel
theorem d_NA_isBeforeByLetters_23 : decode b_NA_isBeforeByLetters 23 = .ok (.iload_n 3, 1) := by decide +kernel
theorem d_NA_isBeforeByLetters_24 : decode b_NA_isBeforeByLetters 24 = .ok (.iaload, 1) := by decide +kernel
theorem d_NA_isBeforeByLetters_25 : decode b_NA_isBeforeByLetters 25 = .ok (.aload_n 1, 1) := by decide +kernel
theorem d_NA_isBeforeByLetters_26 : decode b_NA_isBeforeByLetters 26 = .ok (.getfield 9, 3) := by decide +kernel
theorem d_NA_isBeforeByLetters_29 : decode b_NA_isBeforeByLetters 29 = .ok (.iload_n 3, 1) := by decide +kernel
theorem d_NA_isBeforeByLetters_30 : decode b_NA_isBeforeByLetters 30 = .ok (.iaload, 1) := by decide +kernel
theorem d_NA_isBeforeByLetters_31 : decode b_NA_isBeforeByLetters 31 = .ok (.if_icmp .eq 24, 3) := by decide +kernel
theorem d_NA_isBeforeByLetters_34 : decode b_NA_isBeforeByLetters 34 = .ok (.aload_n 0, 1) := by decide +kernel
theorem d_NA_isBeforeByLetters_35 : decode b_NA_isBeforeByLetters 35 = .ok (.getfield 9, 3) := by decide +kernel
theorem d_NA_isBeforeByLetters_38 : decode b_NA_isBeforeByLetters 38 = .ok (.iload_n 3, 1) := by decide +kernel
theorem d_NA_isBeforeByLetters_39 : decode b_NA_isBeforeByLetters 39 = .ok (.iaload, 1) := by decide +kernel
theorem d_NA_isBeforeByLetters_40 : decode b_NA_isBeforeByLetters 40 = .ok (.aload_n 1, 1) := by decide +kernel
theorem d_NA_isBeforeByLetters_41 : decode b_NA_isBeforeByLetters 41 = .ok (.getfield 9, 3) := by decide +kernel
theorem d_NA_isBeforeByLetters_44 : decode b_NA_isBeforeByLetters 44 = .ok (.iload_n 3, 1) := by decide +kernel
theorem d_NA_isBeforeByLetters_45 : decode b_NA_isBeforeByLetters 45 = .ok (.iaload, 1) := by decide +kernel
theorem d_NA_isBeforeByLetters_46 : decode b_NA_isBeforeByLetters 46 = .ok (.if_icmp .ge 7, 3) := by decide +kernel
theorem d_NA_isBeforeByLetters_49 : decode b_NA_isBeforeByLetters 49 = .ok (.iconst 1, 1) := by decide +kernel
theorem d_NA_isBeforeByLetters_50 : decode b_NA_isBeforeByLetters 50 = .ok (.goto 4, 3) := by decide +kernel
theorem d_NA_isBeforeByLetters_53 : decode b_NA_isBeforeByLetters 53 = .ok (.iconst 0, 1) := by decide +kernel
theorem d_NA_isBeforeByLetters_54 : decode b_NA_isBeforeByLetters 54 = .ok (.ireturn, 1) := by decide +kernel
theorem d_NA_isBeforeByLetters_55 : decode b_NA_isBeforeByLetters 55 = .ok (.iinc 3 1, 3) := by decide +kernel
theorem d_NA_isBeforeByLetters_58 : decode b_NA_isBeforeByLetters 58 = .ok (.goto (-44), 3) := by decide +kernel
theorem d_NA_isBeforeByLetters_61 : decode b_NA_isBeforeByLetters 61 = .ok (.aload_n 0, 1) := by decide +kernel
theorem d_NA_isBeforeByLetters_62 : decode b_NA_isBeforeByLetters 62 = .ok (.getfield 24, 3) := by decide +kernel
theorem d_NA_isBeforeByLetters_65 : decode b_NA_isBeforeByLetters 65 = .ok (.aload_n 1, 1) := by decide +kernel
theorem d_NA_isBeforeByLetters_66 : decode b_NA_isBeforeByLetters 66 = .ok (.getfield 24, 3) := by decide +kernel
theorem d_NA_isBeforeByLetters_69 : decode b_NA_isBeforeByLetters 69 = .ok (.if_icmp .ge 7, 3) := by decide +kernel
theorem d_NA_isBeforeByLetters_72 : decode b_NA_isBeforeByLetters 72 = .ok (.iconst 1, 1) := by decide +kernel
theorem d_NA_isBeforeByLetters_73 : decode b_NA_isBeforeByLetters 73 = .ok (.goto 4, 3) := by decide +kernel
theorem d_NA_isBeforeByLetters_76 : decode b_NA_isBeforeByLetters 76 = .ok (.iconst 0, 1) := by decide +kernel
theorem d_NA_isBeforeByLetters_77 : decode b_NA_isBeforeByLetters 77 = .ok (.ireturn, 1) := by decide +kernel
