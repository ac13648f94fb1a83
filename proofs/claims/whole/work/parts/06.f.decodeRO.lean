theorem d_RO_init_0 : decode b_RO_init 0 = .ok (.aload_n 0, 1) := by decide +kernel
theorem d_RO_init_1 : decode b_RO_init 1 = .ok (.invokespecial 3, 3) := by decide +kernel
theorem d_RO_init_4 : decode b_RO_init 4 = .ok (.aload_n 0, 1) := by decide +kernel
theorem d_RO_init_5 : decode b_RO_init 5 = .ok (.bipush 24, 2) := by decide +kernel
theorem d_RO_init_7 : decode b_RO_init 7 = .ok (.newarray .int, 2) := by decide +kernel
theorem d_RO_init_9 : decode b_RO_init 9 = .ok (.putfield 9, 3) := by decide +kernel
theorem d_RO_init_12 : decode b_RO_init 12 = .ok (.aload_n 0, 1) := by decide +kernel
theorem d_RO_init_13 : decode b_RO_init 13 = .ok (.bipush 24, 2) := by decide +kernel
theorem d_RO_init_15 : decode b_RO_init 15 = .ok (.newarray .int, 2) := by decide +kernel
theorem d_RO_init_17 : decode b_RO_init 17 = .ok (.putfield 15, 3) := by decide +kernel
theorem d_RO_init_20 : decode b_RO_init 20 = .ok (.aload_n 0, 1) := by decide +kernel
theorem d_RO_init_21 : decode b_RO_init 21 = .ok (.bipush 24, 2) := by decide +kernel
theorem d_RO_init_23 : decode b_RO_init 23 = .ok (.newarray .int, 2) := by decide +kernel
theorem d_RO_init_25 : decode b_RO_init 25 = .ok (.putfield 18, 3) := by decide +kernel
theorem d_RO_init_28 : decode b_RO_init 28 = .ok (.aload_n 0, 1) := by decide +kernel
theorem d_RO_init_29 : decode b_RO_init 29 = .ok (.bipush 24, 2) := by decide +kernel
theorem d_RO_init_31 : decode b_RO_init 31 = .ok (.newarray .int, 2) := by decide +kernel
theorem d_RO_init_33 : decode b_RO_init 33 = .ok (.putfield 21, 3) := by decide +kernel
theorem d_RO_init_36 : decode b_RO_init 36 = .ok (.aload_n 0, 1) := by decide +kernel
theorem d_RO_init_37 : decode b_RO_init 37 = .ok (.bipush 10, 2) := by decide +kernel
theorem d_RO_init_39 : decode b_RO_init 39 = .ok (.newarray .int, 2) := by decide +kernel
theorem d_RO_init_41 : decode b_RO_init 41 = .ok (.putfield 24, 3) := by decide +kernel
theorem d_RO_init_44 : decode b_RO_init 44 = .ok (.return_, 1) := by decide +kernel
theorem d_RO_isWay_0 : decode b_RO_isWay 0 = .ok (.iload_n 1, 1) := by decide +kernel
theorem d_RO_isWay_1 : decode b_RO_isWay 1 = .ok (.iconst 0, 1) := by decide +kernel
theorem d_RO_isWay_2 : decode b_RO_isWay 2 = .ok (.aload_n 0, 1) := by decide +kernel
theorem d_RO_isWay_3 : decode b_RO_isWay 3 = .ok (.getfield 27, 3) := by decide +kernel
theorem d_RO_isWay_6 : decode b_RO_isWay 6 = .ok (.iconst 1, 1) := by decide +kernel
theorem d_RO_isWay_7 : decode b_RO_isWay 7 = .ok (.isub, 1) := by decide +kernel
theorem d_RO_isWay_8 : decode b_RO_isWay 8 = .ok (.invokestatic 31, 3) := by decide +kernel
theorem d_RO_isWay_11 : decode b_RO_isWay 11 = .ok (.ireturn, 1) := by decide +kernel
theorem d_RO_addWay_0 : decode b_RO_addWay 0 = .ok (.aload_n 0, 1) := by decide +kernel
theorem d_RO_addWay_1 : decode b_RO_addWay 1 = .ok (.getfield 27, 3) := by decide +kernel
theorem d_RO_addWay_4 : decode b_RO_addWay 4 = .ok (.bipush 24, 2) := by decide +kernel
theorem d_RO_addWay_6 : decode b_RO_addWay 6 = .ok (.if_icmp .lt 5, 3) := by decide +kernel
theorem d_RO_addWay_9 : decode b_RO_addWay 9 = .ok (.iconst (-1), 1) := by decide +kernel
theorem d_RO_addWay_10 : decode b_RO_addWay 10 = .ok (.ireturn, 1) := by decide +kernel
theorem d_RO_addWay_11 : decode b_RO_addWay 11 = .ok (.aload_n 0, 1) := by decide +kernel
theorem d_RO_addWay_12 : decode b_RO_addWay 12 = .ok (.getfield 27, 3) := by decide +kernel
theorem d_RO_addWay_15 : decode b_RO_addWay 15 = .ok (.istore 4, 2) := by decide +kernel
theorem d_RO_addWay_17 : decode b_RO_addWay 17 = .ok (.aload_n 0, 1) := by decide +kernel
theorem d_RO_addWay_18 : decode b_RO_addWay 18 = .ok (.getfield 9, 3) := by decide +kernel
theorem d_RO_addWay_21 : decode b_RO_addWay 21 = .ok (.iload 4, 2) := by decide +kernel
theorem d_RO_addWay_23 : decode b_RO_addWay 23 = .ok (.iload_n 1, 1) := by decide +kernel
theorem d_RO_addWay_24 : decode b_RO_addWay 24 = .ok (.iastore, 1) := by decide +kernel
theorem d_RO_addWay_25 : decode b_RO_addWay 25 = .ok (.aload_n 0, 1) := by decide +kernel
theorem d_RO_addWay_26 : decode b_RO_addWay 26 = .ok (.getfield 15, 3) := by decide +kernel
theorem d_RO_addWay_29 : decode b_RO_addWay 29 = .ok (.iload 4, 2) := by decide +kernel
theorem d_RO_addWay_31 : decode b_RO_addWay 31 = .ok (.iload_n 2, 1) := by decide +kernel
theorem d_RO_addWay_32 : decode b_RO_addWay 32 = .ok (.iastore, 1) := by decide +kernel
theorem d_RO_addWay_33 : decode b_RO_addWay 33 = .ok (.aload_n 0, 1) := by decide +kernel
theorem d_RO_addWay_34 : decode b_RO_addWay 34 = .ok (.getfield 18, 3) := by decide +kernel
theorem d_RO_addWay_37 : decode b_RO_addWay 37 = .ok (.iload 4, 2) := by decide +kernel
theorem d_RO_addWay_39 : decode b_RO_addWay 39 = .ok (.iload_n 3, 1) := by decide +kernel
theorem d_RO_addWay_40 : decode b_RO_addWay 40 = .ok (.iastore, 1) := by decide +kernel
theorem d_RO_addWay_41 : decode b_RO_addWay 41 = .ok (.aload_n 0, 1) := by decide +kernel
theorem d_RO_addWay_42 : decode b_RO_addWay 42 = .ok (.dup, 1) := by decide +kernel
theorem d_RO_addWay_43 : decode b_RO_addWay 43 = .ok (.getfield 27, 3) := by decide +kernel
theorem d_RO_addWay_46 : decode b_RO_addWay 46 = .ok (.iconst 1, 1) := by decide +kernel
theorem d_RO_addWay_47 : decode b_RO_addWay 47 = .ok (.iadd, 1) := by decide +kernel
theorem d_RO_addWay_48 : decode b_RO_addWay 48 = .ok (.putfield 27, 3) := by decide +kernel
theorem d_RO_addWay_51 : decode b_RO_addWay 51 = .ok (.iload 4, 2) := by decide +kernel
theorem d_RO_addWay_53 : decode b_RO_addWay 53 = .ok (.ireturn, 1) := by decide +kernel
theorem d_RO_show_0 : decode b_RO_show 0 = .ok (.aload_n 0, 1) := by decide +kernel
theorem d_RO_show_1 : decode b_RO_show 1 = .ok (.getfield 21, 3) := by decide +kernel
theorem d_RO_show_4 : decode b_RO_show 4 = .ok (.iload_n 1, 1) := by decide +kernel
theorem d_RO_show_5 : decode b_RO_show 5 = .ok (.dup2, 1) := by decide +kernel
theorem d_RO_show_6 : decode b_RO_show 6 = .ok (.iaload, 1) := by decide +kernel
theorem d_RO_show_7 : decode b_RO_show 7 = .ok (.iconst 1, 1) := by decide +kernel
theorem d_RO_show_8 : decode b_RO_show 8 = .ok (.iload_n 2, 1) := by decide +kernel
theorem d_RO_show_9 : decode b_RO_show 9 = .ok (.ishl, 1) := by decide +kernel
theorem d_RO_show_10 : decode b_RO_show 10 = .ok (.ior, 1) := by decide +kernel
theorem d_RO_show_11 : decode b_RO_show 11 = .ok (.iastore, 1) := by decide +kernel
theorem d_RO_show_12 : decode b_RO_show 12 = .ok (.return_, 1) := by decide +kernel
theorem d_RO_isShown_0 : decode b_RO_isShown 0 = .ok (.aload_n 0, 1) := by decide +kernel
theorem d_RO_isShown_1 : decode b_RO_isShown 1 = .ok (.getfield 21, 3) := by decide +kernel
theorem d_RO_isShown_4 : decode b_RO_isShown 4 = .ok (.iload_n 1, 1) := by decide +kernel
theorem d_RO_isShown_5 : decode b_RO_isShown 5 = .ok (.iaload, 1) := by decide +kernel
theorem d_RO_isShown_6 : decode b_RO_isShown 6 = .ok (.iconst 1, 1) := by decide +kernel
theorem d_RO_isShown_7 : decode b_RO_isShown 7 = .ok (.iload_n 2, 1) := by decide +kernel
theorem d_RO_isShown_8 : decode b_RO_isShown 8 = .ok (.ishl, 1) := by decide +kernel
theorem d_RO_isShown_9 : decode b_RO_isShown 9 = .ok (.iand, 1) := by decide +kernel
theorem d_RO_isShown_10 : decode b_RO_isShown 10 = .ok (.ifCond .eq 7, 3) := by decide +kernel
theorem d_RO_isShown_13 : decode b_RO_isShown 13 = .ok (.iconst 1, 1) := by decide +kernel
theorem d_RO_isShown_14 : decode b_RO_isShown 14 = .ok (.goto 4, 3) := by decide +kernel
theorem d_RO_isShown_17 : decode b_RO_isShown 17 = .ok (.iconst 0, 1) := by decide +kernel
theorem d_RO_isShown_18 : decode b_RO_isShown 18 = .ok (.ireturn, 1) := by decide +kernel
theorem d_RO_measureFrom_0 : decode b_RO_measureFrom 0 = .ok (.iconst 0, 1) := by decide +kernel
theorem d_RO_measureFrom_1 : decode b_RO_measureFrom 1 = .ok (.istore_n 2, 1) := by decide +kernel
theorem d_RO_measureFrom_2 : decode b_RO_measureFrom 2 = .ok (.iload_n 2, 1) := by decide +kernel
theorem d_RO_measureFrom_3 : decode b_RO_measureFrom 3 = .ok (.bipush 10, 2) := by decide +kernel
theorem d_RO_measureFrom_5 : decode b_RO_measureFrom 5 = .ok (.if_icmp .ge 16, 3) := by decide +kernel
theorem d_RO_measureFrom_8 : decode b_RO_measureFrom 8 = .ok (.aload_n 0, 1) := by decide +kernel
theorem d_RO_measureFrom_9 : decode b_RO_measureFrom 9 = .ok (.getfield 24, 3) := by decide +kernel
theorem d_RO_measureFrom_12 : decode b_RO_measureFrom 12 = .ok (.iload_n 2, 1) := by decide +kernel
theorem d_RO_measureFrom_13 : decode b_RO_measureFrom 13 = .ok (.iconst (-1), 1) := by decide +kernel
theorem d_RO_measureFrom_14 : decode b_RO_measureFrom 14 = .ok (.iastore, 1) := by decide +kernel
theorem d_RO_measureFrom_15 : decode b_RO_measureFrom 15 = .ok (.iinc 2 1, 3) := by decide +kernel
theorem d_RO_measureFrom_18 : decode b_RO_measureFrom 18 = .ok (.goto (-16), 3) := by decide +kernel
theorem d_RO_measureFrom_21 : decode b_RO_measureFrom 21 = .ok (.aload_n 0, 1) := by decide +kernel
theorem d_RO_measureFrom_22 : decode b_RO_measureFrom 22 = .ok (.getfield 24, 3) := by decide +kernel
theorem d_RO_measureFrom_25 : decode b_RO_measureFrom 25 = .ok (.iload_n 1, 1) := by decide +kernel
theorem d_RO_measureFrom_26 : decode b_RO_measureFrom 26 = .ok (.iconst 0, 1) := by decide +kernel
theorem d_RO_measureFrom_27 : decode b_RO_measureFrom 27 = .ok (.iastore, 1) := by decide +kernel
theorem d_RO_measureFrom_28 : decode b_RO_measureFrom 28 = .ok (.iconst 1, 1) := by decide +kernel
theorem d_RO_measureFrom_29 : decode b_RO_measureFrom 29 = .ok (.istore_n 2, 1) := by decide +kernel
theorem d_RO_measureFrom_30 : decode b_RO_measureFrom 30 = .ok (.iconst 0, 1) := by decide +kernel
theorem d_RO_measureFrom_31 : decode b_RO_measureFrom 31 = .ok (.istore_n 3, 1) := by decide +kernel
theorem d_RO_measureFrom_32 : decode b_RO_measureFrom 32 = .ok (.iload_n 3, 1) := by decide +kernel
theorem d_RO_measureFrom_33 : decode b_RO_measureFrom 33 = .ok (.bipush 10, 2) := by decide +kernel
theorem d_RO_measureFrom_35 : decode b_RO_measureFrom 35 = .ok (.if_icmp .ge 44, 3) := by decide +kernel
theorem d_RO_measureFrom_38 : decode b_RO_measureFrom 38 = .ok (.iload_n 2, 1) := by decide +kernel
theorem d_RO_measureFrom_39 : decode b_RO_measureFrom 39 = .ok (.ifCond .eq 40, 3) := by decide +kernel
theorem d_RO_measureFrom_42 : decode b_RO_measureFrom 42 = .ok (.iconst 0, 1) := by decide +kernel
theorem d_RO_measureFrom_43 : decode b_RO_measureFrom 43 = .ok (.istore_n 2, 1) := by decide +kernel
theorem d_RO_measureFrom_44 : decode b_RO_measureFrom 44 = .ok (.iconst 0, 1) := by decide +kernel
theorem d_RO_measureFrom_45 : decode b_RO_measureFrom 45 = .ok (.istore 4, 2) := by decide +kernel
theorem d_RO_measureFrom_47 : decode b_RO_measureFrom 47 = .ok (.iload 4, 2) := by decide +kernel
theorem d_RO_measureFrom_49 : decode b_RO_measureFrom 49 = .ok (.aload_n 0, 1) := by decide +kernel
theorem d_RO_measureFrom_50 : decode b_RO_measureFrom 50 = .ok (.getfield 27, 3) := by decide +kernel
theorem d_RO_measureFrom_53 : decode b_RO_measureFrom 53 = .ok (.if_icmp .ge 20, 3) := by decide +kernel
theorem d_RO_measureFrom_56 : decode b_RO_measureFrom 56 = .ok (.aload_n 0, 1) := by decide +kernel
theorem d_RO_measureFrom_57 : decode b_RO_measureFrom 57 = .ok (.iload 4, 2) := by decide +kernel
theorem d_RO_measureFrom_59 : decode b_RO_measureFrom 59 = .ok (.invokevirtual 35, 3) := by decide +kernel
theorem d_RO_measureFrom_62 : decode b_RO_measureFrom 62 = .ok (.ifCond .eq 5, 3) := by decide +kernel
theorem d_RO_measureFrom_65 : decode b_RO_measureFrom 65 = .ok (.iconst 1, 1) := by decide +kernel
theorem d_RO_measureFrom_66 : decode b_RO_measureFrom 66 = .ok (.istore_n 2, 1) := by decide +kernel
theorem d_RO_measureFrom_67 : decode b_RO_measureFrom 67 = .ok (.iinc 4 1, 3) := by decide +kernel
theorem d_RO_measureFrom_70 : decode b_RO_measureFrom 70 = .ok (.goto (-23), 3) := by decide +kernel
theorem d_RO_measureFrom_73 : decode b_RO_measureFrom 73 = .ok (.iinc 3 1, 3) := by decide +kernel
theorem d_RO_measureFrom_76 : decode b_RO_measureFrom 76 = .ok (.goto (-44), 3) := by decide +kernel
theorem d_RO_measureFrom_79 : decode b_RO_measureFrom 79 = .ok (.return_, 1) := by decide +kernel
theorem d_RO_shortenBy_0 : decode b_RO_shortenBy 0 = .ok (.aload_n 0, 1) := by decide +kernel
theorem d_RO_shortenBy_1 : decode b_RO_shortenBy 1 = .ok (.getfield 24, 3) := by decide +kernel
theorem d_RO_shortenBy_4 : decode b_RO_shortenBy 4 = .ok (.aload_n 0, 1) := by decide +kernel
theorem d_RO_shortenBy_5 : decode b_RO_shortenBy 5 = .ok (.getfield 9, 3) := by decide +kernel
theorem d_RO_shortenBy_8 : decode b_RO_shortenBy 8 = .ok (.iload_n 1, 1) := by decide +kernel
theorem d_RO_shortenBy_9 : decode b_RO_shortenBy 9 = .ok (.iaload, 1) := by decide +kernel
theorem d_RO_shortenBy_10 : decode b_RO_shortenBy 10 = .ok (.iaload, 1) := by decide +kernel
theorem d_RO_shortenBy_11 : decode b_RO_shortenBy 11 = .ok (.istore_n 2, 1) := by decide +kernel
theorem d_RO_shortenBy_12 : decode b_RO_shortenBy 12 = .ok (.iload_n 2, 1) := by decide +kernel
theorem d_RO_shortenBy_13 : decode b_RO_shortenBy 13 = .ok (.iconst (-1), 1) := by decide +kernel
theorem d_RO_shortenBy_14 : decode b_RO_shortenBy 14 = .ok (.if_icmp .ne 5, 3) := by decide +kernel
theorem d_RO_shortenBy_17 : decode b_RO_shortenBy 17 = .ok (.iconst 0, 1) := by decide +kernel
theorem d_RO_shortenBy_18 : decode b_RO_shortenBy 18 = .ok (.ireturn, 1) := by decide +kernel
theorem d_RO_shortenBy_19 : decode b_RO_shortenBy 19 = .ok (.aload_n 0, 1) := by decide +kernel
theorem d_RO_shortenBy_20 : decode b_RO_shortenBy 20 = .ok (.getfield 24, 3) := by decide +kernel
theorem d_RO_shortenBy_23 : decode b_RO_shortenBy 23 = .ok (.aload_n 0, 1) := by decide +kernel
theorem d_RO_shortenBy_24 : decode b_RO_shortenBy 24 = .ok (.getfield 15, 3) := by decide +kernel
theorem d_RO_shortenBy_27 : decode b_RO_shortenBy 27 = .ok (.iload_n 1, 1) := by decide +kernel
theorem d_RO_shortenBy_28 : decode b_RO_shortenBy 28 = .ok (.iaload, 1) := by decide +kernel
theorem d_RO_shortenBy_29 : decode b_RO_shortenBy 29 = .ok (.iaload, 1) := by decide +kernel
theorem d_RO_shortenBy_30 : decode b_RO_shortenBy 30 = .ok (.istore_n 3, 1) := by decide +kernel
theorem d_RO_shortenBy_31 : decode b_RO_shortenBy 31 = .ok (.iload_n 2, 1) := by decide +kernel
theorem d_RO_shortenBy_32 : decode b_RO_shortenBy 32 = .ok (.aload_n 0, 1) := by decide +kernel
theorem d_RO_shortenBy_33 : decode b_RO_shortenBy 33 = .ok (.getfield 18, 3) := by decide +kernel
theorem d_RO_shortenBy_36 : decode b_RO_shortenBy 36 = .ok (.iload_n 1, 1) := by decide +kernel
theorem d_RO_shortenBy_37 : decode b_RO_shortenBy 37 = .ok (.iaload, 1) := by decide +kernel
theorem d_RO_shortenBy_38 : decode b_RO_shortenBy 38 = .ok (.iadd, 1) := by decide +kernel
theorem d_RO_shortenBy_39 : decode b_RO_shortenBy 39 = .ok (.istore 4, 2) := by decide +kernel
theorem d_RO_shortenBy_41 : decode b_RO_shortenBy 41 = .ok (.iload_n 3, 1) := by decide +kernel
theorem d_RO_shortenBy_42 : decode b_RO_shortenBy 42 = .ok (.iconst (-1), 1) := by decide +kernel
theorem d_RO_shortenBy_43 : decode b_RO_shortenBy 43 = .ok (.if_icmp .eq 11, 3) := by decide +kernel
theorem d_RO_shortenBy_46 : decode b_RO_shortenBy 46 = .ok (.iload_n 3, 1) := by decide +kernel
theorem d_RO_shortenBy_47 : decode b_RO_shortenBy 47 = .ok (.iload 4, 2) := by decide +kernel
theorem d_RO_shortenBy_49 : decode b_RO_shortenBy 49 = .ok (.if_icmp .gt 5, 3) := by decide +kernel
theorem d_RO_shortenBy_52 : decode b_RO_shortenBy 52 = .ok (.iconst 0, 1) := by decide +kernel
theorem d_RO_shortenBy_53 : decode b_RO_shortenBy 53 = .ok (.ireturn, 1) := by decide +kernel
theorem d_RO_shortenBy_54 : decode b_RO_shortenBy 54 = .ok (.aload_n 0, 1) := by decide +kernel
theorem d_RO_shortenBy_55 : decode b_RO_shortenBy 55 = .ok (.getfield 24, 3) := by decide +kernel
theorem d_RO_shortenBy_58 : decode b_RO_shortenBy 58 = .ok (.aload_n 0, 1) := by decide +kernel
theorem d_RO_shortenBy_59 : decode b_RO_shortenBy 59 = .ok (.getfield 15, 3) := by decide +kernel
theorem d_RO_shortenBy_62 : decode b_RO_shortenBy 62 = .ok (.iload_n 1, 1) := by decide +kernel
theorem d_RO_shortenBy_63 : decode b_RO_shortenBy 63 = .ok (.iaload, 1) := by decide +kernel
theorem d_RO_shortenBy_64 : decode b_RO_shortenBy 64 = .ok (.iload 4, 2) := by decide +kernel
theorem d_RO_shortenBy_66 : decode b_RO_shortenBy 66 = .ok (.iastore, 1) := by decide +kernel
theorem d_RO_shortenBy_67 : decode b_RO_shortenBy 67 = .ok (.iconst 1, 1) := by decide +kernel
theorem d_RO_shortenBy_68 : decode b_RO_shortenBy 68 = .ok (.ireturn, 1) := by decide +kernel
theorem d_RO_nodesLedTo_0 : decode b_RO_nodesLedTo 0 = .ok (.iconst 1, 1) := by decide +kernel
theorem d_RO_nodesLedTo_1 : decode b_RO_nodesLedTo 1 = .ok (.iload_n 1, 1) := by decide +kernel
theorem d_RO_nodesLedTo_2 : decode b_RO_nodesLedTo 2 = .ok (.ishl, 1) := by decide +kernel
theorem d_RO_nodesLedTo_3 : decode b_RO_nodesLedTo 3 = .ok (.istore_n 3, 1) := by decide +kernel
theorem d_RO_nodesLedTo_4 : decode b_RO_nodesLedTo 4 = .ok (.iconst 0, 1) := by decide +kernel
theorem d_RO_nodesLedTo_5 : decode b_RO_nodesLedTo 5 = .ok (.istore 4, 2) := by decide +kernel
theorem d_RO_nodesLedTo_7 : decode b_RO_nodesLedTo 7 = .ok (.iconst 0, 1) := by decide +kernel
theorem d_RO_nodesLedTo_8 : decode b_RO_nodesLedTo 8 = .ok (.istore 5, 2) := by decide +kernel
theorem d_RO_nodesLedTo_10 : decode b_RO_nodesLedTo 10 = .ok (.iload 5, 2) := by decide +kernel
theorem d_RO_nodesLedTo_12 : decode b_RO_nodesLedTo 12 = .ok (.bipush 10, 2) := by decide +kernel
theorem d_RO_nodesLedTo_14 : decode b_RO_nodesLedTo 14 = .ok (.if_icmp .ge 72, 3) := by decide +kernel
theorem d_RO_nodesLedTo_17 : decode b_RO_nodesLedTo 17 = .ok (.iload_n 3, 1) := by decide +kernel
theorem d_RO_nodesLedTo_18 : decode b_RO_nodesLedTo 18 = .ok (.iload 4, 2) := by decide +kernel
theorem d_RO_nodesLedTo_20 : decode b_RO_nodesLedTo 20 = .ok (.if_icmp .eq 66, 3) := by decide +kernel
theorem d_RO_nodesLedTo_23 : decode b_RO_nodesLedTo 23 = .ok (.iload_n 3, 1) := by decide +kernel
theorem d_RO_nodesLedTo_24 : decode b_RO_nodesLedTo 24 = .ok (.istore 4, 2) := by decide +kernel
theorem d_RO_nodesLedTo_26 : decode b_RO_nodesLedTo 26 = .ok (.iconst 0, 1) := by decide +kernel
theorem d_RO_nodesLedTo_27 : decode b_RO_nodesLedTo 27 = .ok (.istore 6, 2) := by decide +kernel
theorem d_RO_nodesLedTo_29 : decode b_RO_nodesLedTo 29 = .ok (.iload 6, 2) := by decide +kernel
theorem d_RO_nodesLedTo_31 : decode b_RO_nodesLedTo 31 = .ok (.aload_n 0, 1) := by decide +kernel
theorem d_RO_nodesLedTo_32 : decode b_RO_nodesLedTo 32 = .ok (.getfield 27, 3) := by decide +kernel
theorem d_RO_nodesLedTo_35 : decode b_RO_nodesLedTo 35 = .ok (.if_icmp .ge 45, 3) := by decide +kernel
theorem d_RO_nodesLedTo_38 : decode b_RO_nodesLedTo 38 = .ok (.aload_n 0, 1) := by decide +kernel
theorem d_RO_nodesLedTo_39 : decode b_RO_nodesLedTo 39 = .ok (.iload 6, 2) := by decide +kernel
theorem d_RO_nodesLedTo_41 : decode b_RO_nodesLedTo 41 = .ok (.iload_n 2, 1) := by decide +kernel
theorem d_RO_nodesLedTo_42 : decode b_RO_nodesLedTo 42 = .ok (.invokevirtual 39, 3) := by decide +kernel
theorem d_RO_nodesLedTo_45 : decode b_RO_nodesLedTo 45 = .ok (.ifCond .eq 29, 3) := by decide +kernel
theorem d_RO_nodesLedTo_48 : decode b_RO_nodesLedTo 48 = .ok (.iload_n 3, 1) := by decide +kernel
theorem d_RO_nodesLedTo_49 : decode b_RO_nodesLedTo 49 = .ok (.iconst 1, 1) := by decide +kernel
theorem d_RO_nodesLedTo_50 : decode b_RO_nodesLedTo 50 = .ok (.aload_n 0, 1) := by decide +kernel
theorem d_RO_nodesLedTo_51 : decode b_RO_nodesLedTo 51 = .ok (.getfield 15, 3) := by decide +kernel
theorem d_RO_nodesLedTo_54 : decode b_RO_nodesLedTo 54 = .ok (.iload 6, 2) := by decide +kernel
theorem d_RO_nodesLedTo_56 : decode b_RO_nodesLedTo 56 = .ok (.iaload, 1) := by decide +kernel
theorem d_RO_nodesLedTo_57 : decode b_RO_nodesLedTo 57 = .ok (.ishl, 1) := by decide +kernel
theorem d_RO_nodesLedTo_58 : decode b_RO_nodesLedTo 58 = .ok (.iand, 1) := by decide +kernel
theorem d_RO_nodesLedTo_59 : decode b_RO_nodesLedTo 59 = .ok (.ifCond .eq 15, 3) := by decide +kernel
theorem d_RO_nodesLedTo_62 : decode b_RO_nodesLedTo 62 = .ok (.iload_n 3, 1) := by decide +kernel
theorem d_RO_nodesLedTo_63 : decode b_RO_nodesLedTo 63 = .ok (.iconst 1, 1) := by decide +kernel
theorem d_RO_nodesLedTo_64 : decode b_RO_nodesLedTo 64 = .ok (.aload_n 0, 1) := by decide +kernel
theorem d_RO_nodesLedTo_65 : decode b_RO_nodesLedTo 65 = .ok (.getfield 9, 3) := by decide +kernel
theorem d_RO_nodesLedTo_68 : decode b_RO_nodesLedTo 68 = .ok (.iload 6, 2) := by decide +kernel
theorem d_RO_nodesLedTo_70 : decode b_RO_nodesLedTo 70 = .ok (.iaload, 1) := by decide +kernel
theorem d_RO_nodesLedTo_71 : decode b_RO_nodesLedTo 71 = .ok (.ishl, 1) := by decide +kernel
theorem d_RO_nodesLedTo_72 : decode b_RO_nodesLedTo 72 = .ok (.ior, 1) := by decide +kernel
theorem d_RO_nodesLedTo_73 : decode b_RO_nodesLedTo 73 = .ok (.istore_n 3, 1) := by decide +kernel
theorem d_RO_nodesLedTo_74 : decode b_RO_nodesLedTo 74 = .ok (.iinc 6 1, 3) := by decide +kernel
theorem d_RO_nodesLedTo_77 : decode b_RO_nodesLedTo 77 = .ok (.goto (-48), 3) := by decide +kernel
theorem d_RO_nodesLedTo_80 : decode b_RO_nodesLedTo 80 = .ok (.iinc 5 1, 3) := by decide +kernel
theorem d_RO_nodesLedTo_83 : decode b_RO_nodesLedTo 83 = .ok (.goto (-73), 3) := by decide +kernel
theorem d_RO_nodesLedTo_86 : decode b_RO_nodesLedTo 86 = .ok (.iload_n 3, 1) := by decide +kernel
theorem d_RO_nodesLedTo_87 : decode b_RO_nodesLedTo 87 = .ok (.ireturn, 1) := by decide +kernel
theorem d_RO_isShownFrom_0 : decode b_RO_isShownFrom 0 = .ok (.iconst 0, 1) := by decide +kernel
theorem d_RO_isShownFrom_1 : decode b_RO_isShownFrom 1 = .ok (.istore_n 3, 1) := by decide +kernel
theorem d_RO_isShownFrom_2 : decode b_RO_isShownFrom 2 = .ok (.iload_n 3, 1) := by decide +kernel
theorem d_RO_isShownFrom_3 : decode b_RO_isShownFrom 3 = .ok (.aload_n 0, 1) := by decide +kernel
theorem d_RO_isShownFrom_4 : decode b_RO_isShownFrom 4 = .ok (.getfield 27, 3) := by decide +kernel
theorem d_RO_isShownFrom_7 : decode b_RO_isShownFrom 7 = .ok (.if_icmp .ge 30, 3) := by decide +kernel
theorem d_RO_isShownFrom_10 : decode b_RO_isShownFrom 10 = .ok (.aload_n 0, 1) := by decide +kernel
theorem d_RO_isShownFrom_11 : decode b_RO_isShownFrom 11 = .ok (.getfield 9, 3) := by decide +kernel
theorem d_RO_isShownFrom_14 : decode b_RO_isShownFrom 14 = .ok (.iload_n 3, 1) := by decide +kernel
theorem d_RO_isShownFrom_15 : decode b_RO_isShownFrom 15 = .ok (.iaload, 1) := by decide +kernel
theorem d_RO_isShownFrom_16 : decode b_RO_isShownFrom 16 = .ok (.iload_n 1, 1) := by decide +kernel
theorem d_RO_isShownFrom_17 : decode b_RO_isShownFrom 17 = .ok (.if_icmp .ne 14, 3) := by decide +kernel
theorem d_RO_isShownFrom_20 : decode b_RO_isShownFrom 20 = .ok (.aload_n 0, 1) := by decide +kernel
theorem d_RO_isShownFrom_21 : decode b_RO_isShownFrom 21 = .ok (.iload_n 3, 1) := by decide +kernel
theorem d_RO_isShownFrom_22 : decode b_RO_isShownFrom 22 = .ok (.iload_n 2, 1) := by decide +kernel
theorem d_RO_isShownFrom_23 : decode b_RO_isShownFrom 23 = .ok (.invokevirtual 39, 3) := by decide +kernel
theorem d_RO_isShownFrom_26 : decode b_RO_isShownFrom 26 = .ok (.ifCond .eq 5, 3) := by decide +kernel
theorem d_RO_isShownFrom_29 : decode b_RO_isShownFrom 29 = .ok (.iconst 1, 1) := by decide +kernel
theorem d_RO_isShownFrom_30 : decode b_RO_isShownFrom 30 = .ok (.ireturn, 1) := by decide +kernel
theorem d_RO_isShownFrom_31 : decode b_RO_isShownFrom 31 = .ok (.iinc 3 1, 3) := by decide +kernel
theorem d_RO_isShownFrom_34 : decode b_RO_isShownFrom 34 = .ok (.goto (-32), 3) := by decide +kernel
theorem d_RO_isShownFrom_37 : decode b_RO_isShownFrom 37 = .ok (.iconst 0, 1) := by decide +kernel
theorem d_RO_isShownFrom_38 : decode b_RO_isShownFrom 38 = .ok (.ireturn, 1) := by decide +kernel
