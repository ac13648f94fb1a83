theorem d_RR_init_0 : decode b_RR_init 0 = .ok (.aload_n 0, 1) := by decide +kernel
theorem d_RR_init_1 : decode b_RR_init 1 = .ok (.invokespecial 3, 3) := by decide +kernel
theorem d_RR_init_4 : decode b_RR_init 4 = .ok (.aload_n 0, 1) := by decide +kernel
theorem d_RR_init_5 : decode b_RR_init 5 = .ok (.aload_n 1, 1) := by decide +kernel
theorem d_RR_init_6 : decode b_RR_init 6 = .ok (.putfield 9, 3) := by decide +kernel
theorem d_RR_init_9 : decode b_RR_init 9 = .ok (.return_, 1) := by decide +kernel
theorem d_RR_read_0 : decode b_RR_read 0 = .ok (.aload_n 0, 1) := by decide +kernel
theorem d_RR_read_1 : decode b_RR_read 1 = .ok (.aload_n 1, 1) := by decide +kernel
theorem d_RR_read_2 : decode b_RR_read 2 = .ok (.putfield 15, 3) := by decide +kernel
theorem d_RR_read_5 : decode b_RR_read 5 = .ok (.aload_n 0, 1) := by decide +kernel
theorem d_RR_read_6 : decode b_RR_read 6 = .ok (.getfield 15, 3) := by decide +kernel
theorem d_RR_read_9 : decode b_RR_read 9 = .ok (.invokevirtual 19, 3) := by decide +kernel
theorem d_RR_read_12 : decode b_RR_read 12 = .ok (.aload_n 0, 1) := by decide +kernel
theorem d_RR_read_13 : decode b_RR_read 13 = .ok (.iconst 0, 1) := by decide +kernel
theorem d_RR_read_14 : decode b_RR_read 14 = .ok (.putfield 24, 3) := by decide +kernel
theorem d_RR_read_17 : decode b_RR_read 17 = .ok (.aload_n 0, 1) := by decide +kernel
theorem d_RR_read_18 : decode b_RR_read 18 = .ok (.iconst 0, 1) := by decide +kernel
theorem d_RR_read_19 : decode b_RR_read 19 = .ok (.putfield 28, 3) := by decide +kernel
theorem d_RR_read_22 : decode b_RR_read 22 = .ok (.aload_n 0, 1) := by decide +kernel
theorem d_RR_read_23 : decode b_RR_read 23 = .ok (.iconst 0, 1) := by decide +kernel
theorem d_RR_read_24 : decode b_RR_read 24 = .ok (.putfield 32, 3) := by decide +kernel
theorem d_RR_read_27 : decode b_RR_read 27 = .ok (.aload_n 0, 1) := by decide +kernel
theorem d_RR_read_28 : decode b_RR_read 28 = .ok (.iconst 0, 1) := by decide +kernel
theorem d_RR_read_29 : decode b_RR_read 29 = .ok (.putfield 35, 3) := by decide +kernel
theorem d_RR_read_32 : decode b_RR_read 32 = .ok (.iconst 1, 1) := by decide +kernel
theorem d_RR_read_33 : decode b_RR_read 33 = .ok (.istore_n 2, 1) := by decide +kernel
theorem d_RR_read_34 : decode b_RR_read 34 = .ok (.iload_n 2, 1) := by decide +kernel
theorem d_RR_read_35 : decode b_RR_read 35 = .ok (.iconst 4, 1) := by decide +kernel
theorem d_RR_read_36 : decode b_RR_read 36 = .ok (.if_icmp .gt 41, 3) := by decide +kernel
theorem d_RR_read_39 : decode b_RR_read 39 = .ok (.aload_n 0, 1) := by decide +kernel
theorem d_RR_read_40 : decode b_RR_read 40 = .ok (.invokevirtual 38, 3) := by decide +kernel
theorem d_RR_read_43 : decode b_RR_read 43 = .ok (.ifCond .ne 6, 3) := by decide +kernel
theorem d_RR_read_46 : decode b_RR_read 46 = .ok (.goto 31, 3) := by decide +kernel
theorem d_RR_read_49 : decode b_RR_read 49 = .ok (.aload_n 0, 1) := by decide +kernel
theorem d_RR_read_50 : decode b_RR_read 50 = .ok (.invokevirtual 42, 3) := by decide +kernel
theorem d_RR_read_53 : decode b_RR_read 53 = .ok (.iconst (-1), 1) := by decide +kernel
theorem d_RR_read_54 : decode b_RR_read 54 = .ok (.if_icmp .ne 5, 3) := by decide +kernel
theorem d_RR_read_57 : decode b_RR_read 57 = .ok (.iload_n 2, 1) := by decide +kernel
theorem d_RR_read_58 : decode b_RR_read 58 = .ok (.ireturn, 1) := by decide +kernel
theorem d_RR_read_59 : decode b_RR_read 59 = .ok (.aload_n 0, 1) := by decide +kernel
theorem d_RR_read_60 : decode b_RR_read 60 = .ok (.bipush 59, 2) := by decide +kernel
theorem d_RR_read_62 : decode b_RR_read 62 = .ok (.invokevirtual 46, 3) := by decide +kernel
theorem d_RR_read_65 : decode b_RR_read 65 = .ok (.ifCond .ne 6, 3) := by decide +kernel
theorem d_RR_read_68 : decode b_RR_read 68 = .ok (.goto 9, 3) := by decide +kernel
theorem d_RR_read_71 : decode b_RR_read 71 = .ok (.iinc 2 1, 3) := by decide +kernel
theorem d_RR_read_74 : decode b_RR_read 74 = .ok (.goto (-40), 3) := by decide +kernel
theorem d_RR_read_77 : decode b_RR_read 77 = .ok (.iconst (-1), 1) := by decide +kernel
theorem d_RR_read_78 : decode b_RR_read 78 = .ok (.aload_n 0, 1) := by decide +kernel
theorem d_RR_read_79 : decode b_RR_read 79 = .ok (.getfield 24, 3) := by decide +kernel
theorem d_RR_read_82 : decode b_RR_read 82 = .ok (.isub, 1) := by decide +kernel
theorem d_RR_read_83 : decode b_RR_read 83 = .ok (.ireturn, 1) := by decide +kernel
theorem d_RR_readRule_0 : decode b_RR_readRule 0 = .ok (.aload_n 0, 1) := by decide +kernel
theorem d_RR_readRule_1 : decode b_RR_readRule 1 = .ok (.invokevirtual 42, 3) := by decide +kernel
theorem d_RR_readRule_4 : decode b_RR_readRule 4 = .ok (.lookupswitch 96 #[(104, 36), (109, 56), (111, 76)], 36) := by decide +kernel
theorem d_RR_readRule_40 : decode b_RR_readRule 40 = .ok (.aload_n 0, 1) := by decide +kernel
theorem d_RR_readRule_41 : decode b_RR_readRule 41 = .ok (.getfield 28, 3) := by decide +kernel
theorem d_RR_readRule_44 : decode b_RR_readRule 44 = .ok (.ifCond .ne 14, 3) := by decide +kernel
theorem d_RR_readRule_47 : decode b_RR_readRule 47 = .ok (.aload_n 0, 1) := by decide +kernel
theorem d_RR_readRule_48 : decode b_RR_readRule 48 = .ok (.invokevirtual 50, 3) := by decide +kernel
theorem d_RR_readRule_51 : decode b_RR_readRule 51 = .ok (.ifCond .eq 7, 3) := by decide +kernel
theorem d_RR_readRule_54 : decode b_RR_readRule 54 = .ok (.iconst 1, 1) := by decide +kernel
theorem d_RR_readRule_55 : decode b_RR_readRule 55 = .ok (.goto 4, 3) := by decide +kernel
theorem d_RR_readRule_58 : decode b_RR_readRule 58 = .ok (.iconst 0, 1) := by decide +kernel
theorem d_RR_readRule_59 : decode b_RR_readRule 59 = .ok (.ireturn, 1) := by decide +kernel
theorem d_RR_readRule_60 : decode b_RR_readRule 60 = .ok (.aload_n 0, 1) := by decide +kernel
theorem d_RR_readRule_61 : decode b_RR_readRule 61 = .ok (.getfield 32, 3) := by decide +kernel
theorem d_RR_readRule_64 : decode b_RR_readRule 64 = .ok (.ifCond .ne 14, 3) := by decide +kernel
theorem d_RR_readRule_67 : decode b_RR_readRule 67 = .ok (.aload_n 0, 1) := by decide +kernel
theorem d_RR_readRule_68 : decode b_RR_readRule 68 = .ok (.invokevirtual 53, 3) := by decide +kernel
theorem d_RR_readRule_71 : decode b_RR_readRule 71 = .ok (.ifCond .eq 7, 3) := by decide +kernel
theorem d_RR_readRule_74 : decode b_RR_readRule 74 = .ok (.iconst 1, 1) := by decide +kernel
theorem d_RR_readRule_75 : decode b_RR_readRule 75 = .ok (.goto 4, 3) := by decide +kernel
theorem d_RR_readRule_78 : decode b_RR_readRule 78 = .ok (.iconst 0, 1) := by decide +kernel
theorem d_RR_readRule_79 : decode b_RR_readRule 79 = .ok (.ireturn, 1) := by decide +kernel
theorem d_RR_readRule_80 : decode b_RR_readRule 80 = .ok (.aload_n 0, 1) := by decide +kernel
theorem d_RR_readRule_81 : decode b_RR_readRule 81 = .ok (.getfield 35, 3) := by decide +kernel
theorem d_RR_readRule_84 : decode b_RR_readRule 84 = .ok (.ifCond .ne 14, 3) := by decide +kernel
theorem d_RR_readRule_87 : decode b_RR_readRule 87 = .ok (.aload_n 0, 1) := by decide +kernel
theorem d_RR_readRule_88 : decode b_RR_readRule 88 = .ok (.invokevirtual 56, 3) := by decide +kernel
theorem d_RR_readRule_91 : decode b_RR_readRule 91 = .ok (.ifCond .eq 7, 3) := by decide +kernel
theorem d_RR_readRule_94 : decode b_RR_readRule 94 = .ok (.iconst 1, 1) := by decide +kernel
theorem d_RR_readRule_95 : decode b_RR_readRule 95 = .ok (.goto 4, 3) := by decide +kernel
theorem d_RR_readRule_98 : decode b_RR_readRule 98 = .ok (.iconst 0, 1) := by decide +kernel
theorem d_RR_readRule_99 : decode b_RR_readRule 99 = .ok (.ireturn, 1) := by decide +kernel
theorem d_RR_readRule_100 : decode b_RR_readRule 100 = .ok (.iconst 0, 1) := by decide +kernel
theorem d_RR_readRule_101 : decode b_RR_readRule 101 = .ok (.ireturn, 1) := by decide +kernel
theorem d_RR_readHeights_0 : decode b_RR_readHeights 0 = .ok (.aload_n 0, 1) := by decide +kernel
theorem d_RR_readHeights_1 : decode b_RR_readHeights 1 = .ok (.iconst 1, 1) := by decide +kernel
theorem d_RR_readHeights_2 : decode b_RR_readHeights 2 = .ok (.putfield 28, 3) := by decide +kernel
theorem d_RR_readHeights_5 : decode b_RR_readHeights 5 = .ok (.aload_n 0, 1) := by decide +kernel
theorem d_RR_readHeights_6 : decode b_RR_readHeights 6 = .ok (.dup, 1) := by decide +kernel
theorem d_RR_readHeights_7 : decode b_RR_readHeights 7 = .ok (.getfield 24, 3) := by decide +kernel
theorem d_RR_readHeights_10 : decode b_RR_readHeights 10 = .ok (.iconst 1, 1) := by decide +kernel
theorem d_RR_readHeights_11 : decode b_RR_readHeights 11 = .ok (.iadd, 1) := by decide +kernel
theorem d_RR_readHeights_12 : decode b_RR_readHeights 12 = .ok (.putfield 24, 3) := by decide +kernel
theorem d_RR_readHeights_15 : decode b_RR_readHeights 15 = .ok (.aload_n 0, 1) := by decide +kernel
theorem d_RR_readHeights_16 : decode b_RR_readHeights 16 = .ok (.getfield 15, 3) := by decide +kernel
theorem d_RR_readHeights_19 : decode b_RR_readHeights 19 = .ok (.iconst 0, 1) := by decide +kernel
theorem d_RR_readHeights_20 : decode b_RR_readHeights 20 = .ok (.putfield 59, 3) := by decide +kernel
theorem d_RR_readHeights_23 : decode b_RR_readHeights 23 = .ok (.iconst 0, 1) := by decide +kernel
theorem d_RR_readHeights_24 : decode b_RR_readHeights 24 = .ok (.istore_n 1, 1) := by decide +kernel
theorem d_RR_readHeights_25 : decode b_RR_readHeights 25 = .ok (.iconst 0, 1) := by decide +kernel
theorem d_RR_readHeights_26 : decode b_RR_readHeights 26 = .ok (.istore_n 2, 1) := by decide +kernel
theorem d_RR_readHeights_27 : decode b_RR_readHeights 27 = .ok (.iload_n 2, 1) := by decide +kernel
theorem d_RR_readHeights_28 : decode b_RR_readHeights 28 = .ok (.iconst 5, 1) := by decide +kernel
theorem d_RR_readHeights_29 : decode b_RR_readHeights 29 = .ok (.if_icmp .ge 59, 3) := by decide +kernel
theorem d_RR_readHeights_32 : decode b_RR_readHeights 32 = .ok (.aload_n 0, 1) := by decide +kernel
theorem d_RR_readHeights_33 : decode b_RR_readHeights 33 = .ok (.iload_n 1, 1) := by decide +kernel
theorem d_RR_readHeights_34 : decode b_RR_readHeights 34 = .ok (.iconst 1, 1) := by decide +kernel
theorem d_RR_readHeights_35 : decode b_RR_readHeights 35 = .ok (.iadd, 1) := by decide +kernel
theorem d_RR_readHeights_36 : decode b_RR_readHeights 36 = .ok (.invokevirtual 62, 3) := by decide +kernel
theorem d_RR_readHeights_39 : decode b_RR_readHeights 39 = .ok (.istore_n 1, 1) := by decide +kernel
theorem d_RR_readHeights_40 : decode b_RR_readHeights 40 = .ok (.iload_n 1, 1) := by decide +kernel
theorem d_RR_readHeights_41 : decode b_RR_readHeights 41 = .ok (.iconst (-1), 1) := by decide +kernel
theorem d_RR_readHeights_42 : decode b_RR_readHeights 42 = .ok (.if_icmp .ne 7, 3) := by decide +kernel
theorem d_RR_readHeights_45 : decode b_RR_readHeights 45 = .ok (.iconst (-1), 1) := by decide +kernel
theorem d_RR_readHeights_46 : decode b_RR_readHeights 46 = .ok (.goto 8, 3) := by decide +kernel
theorem d_RR_readHeights_49 : decode b_RR_readHeights 49 = .ok (.aload_n 0, 1) := by decide +kernel
theorem d_RR_readHeights_50 : decode b_RR_readHeights 50 = .ok (.iconst 1, 1) := by decide +kernel
theorem d_RR_readHeights_51 : decode b_RR_readHeights 51 = .ok (.invokevirtual 62, 3) := by decide +kernel
theorem d_RR_readHeights_54 : decode b_RR_readHeights 54 = .ok (.istore_n 3, 1) := by decide +kernel
theorem d_RR_readHeights_55 : decode b_RR_readHeights 55 = .ok (.iload_n 3, 1) := by decide +kernel
theorem d_RR_readHeights_56 : decode b_RR_readHeights 56 = .ok (.iconst (-1), 1) := by decide +kernel
theorem d_RR_readHeights_57 : decode b_RR_readHeights 57 = .ok (.if_icmp .ne 5, 3) := by decide +kernel
theorem d_RR_readHeights_60 : decode b_RR_readHeights 60 = .ok (.iconst 0, 1) := by decide +kernel
theorem d_RR_readHeights_61 : decode b_RR_readHeights 61 = .ok (.ireturn, 1) := by decide +kernel
theorem d_RR_readHeights_62 : decode b_RR_readHeights 62 = .ok (.aload_n 0, 1) := by decide +kernel
theorem d_RR_readHeights_63 : decode b_RR_readHeights 63 = .ok (.getfield 15, 3) := by decide +kernel
theorem d_RR_readHeights_66 : decode b_RR_readHeights 66 = .ok (.iload_n 1, 1) := by decide +kernel
theorem d_RR_readHeights_67 : decode b_RR_readHeights 67 = .ok (.iload_n 3, 1) := by decide +kernel
theorem d_RR_readHeights_68 : decode b_RR_readHeights 68 = .ok (.invokevirtual 66, 3) := by decide +kernel
theorem d_RR_readHeights_71 : decode b_RR_readHeights 71 = .ok (.aload_n 0, 1) := by decide +kernel
theorem d_RR_readHeights_72 : decode b_RR_readHeights 72 = .ok (.bipush 44, 2) := by decide +kernel
theorem d_RR_readHeights_74 : decode b_RR_readHeights 74 = .ok (.invokevirtual 46, 3) := by decide +kernel
theorem d_RR_readHeights_77 : decode b_RR_readHeights 77 = .ok (.ifCond .ne 5, 3) := by decide +kernel
theorem d_RR_readHeights_80 : decode b_RR_readHeights 80 = .ok (.iconst 1, 1) := by decide +kernel
theorem d_RR_readHeights_81 : decode b_RR_readHeights 81 = .ok (.ireturn, 1) := by decide +kernel
theorem d_RR_readHeights_82 : decode b_RR_readHeights 82 = .ok (.iinc 2 1, 3) := by decide +kernel
theorem d_RR_readHeights_85 : decode b_RR_readHeights 85 = .ok (.goto (-58), 3) := by decide +kernel
theorem d_RR_readHeights_88 : decode b_RR_readHeights 88 = .ok (.aload_n 0, 1) := by decide +kernel
theorem d_RR_readHeights_89 : decode b_RR_readHeights 89 = .ok (.invokevirtual 42, 3) := by decide +kernel
theorem d_RR_readHeights_92 : decode b_RR_readHeights 92 = .ok (.pop, 1) := by decide +kernel
theorem d_RR_readHeights_93 : decode b_RR_readHeights 93 = .ok (.iconst 0, 1) := by decide +kernel
theorem d_RR_readHeights_94 : decode b_RR_readHeights 94 = .ok (.ireturn, 1) := by decide +kernel
theorem d_RR_readMargin_0 : decode b_RR_readMargin 0 = .ok (.aload_n 0, 1) := by decide +kernel
theorem d_RR_readMargin_1 : decode b_RR_readMargin 1 = .ok (.iconst 1, 1) := by decide +kernel
theorem d_RR_readMargin_2 : decode b_RR_readMargin 2 = .ok (.putfield 32, 3) := by decide +kernel
theorem d_RR_readMargin_5 : decode b_RR_readMargin 5 = .ok (.aload_n 0, 1) := by decide +kernel
theorem d_RR_readMargin_6 : decode b_RR_readMargin 6 = .ok (.dup, 1) := by decide +kernel
theorem d_RR_readMargin_7 : decode b_RR_readMargin 7 = .ok (.getfield 24, 3) := by decide +kernel
theorem d_RR_readMargin_10 : decode b_RR_readMargin 10 = .ok (.iconst 1, 1) := by decide +kernel
theorem d_RR_readMargin_11 : decode b_RR_readMargin 11 = .ok (.iadd, 1) := by decide +kernel
theorem d_RR_readMargin_12 : decode b_RR_readMargin 12 = .ok (.putfield 24, 3) := by decide +kernel
theorem d_RR_readMargin_15 : decode b_RR_readMargin 15 = .ok (.aload_n 0, 1) := by decide +kernel
theorem d_RR_readMargin_16 : decode b_RR_readMargin 16 = .ok (.iconst 0, 1) := by decide +kernel
theorem d_RR_readMargin_17 : decode b_RR_readMargin 17 = .ok (.invokevirtual 62, 3) := by decide +kernel
theorem d_RR_readMargin_20 : decode b_RR_readMargin 20 = .ok (.istore_n 1, 1) := by decide +kernel
theorem d_RR_readMargin_21 : decode b_RR_readMargin 21 = .ok (.iload_n 1, 1) := by decide +kernel
theorem d_RR_readMargin_22 : decode b_RR_readMargin 22 = .ok (.iconst (-1), 1) := by decide +kernel
theorem d_RR_readMargin_23 : decode b_RR_readMargin 23 = .ok (.if_icmp .ne 7, 3) := by decide +kernel
theorem d_RR_readMargin_26 : decode b_RR_readMargin 26 = .ok (.iconst (-1), 1) := by decide +kernel
theorem d_RR_readMargin_27 : decode b_RR_readMargin 27 = .ok (.goto 8, 3) := by decide +kernel
theorem d_RR_readMargin_30 : decode b_RR_readMargin 30 = .ok (.aload_n 0, 1) := by decide +kernel
theorem d_RR_readMargin_31 : decode b_RR_readMargin 31 = .ok (.iconst 0, 1) := by decide +kernel
theorem d_RR_readMargin_32 : decode b_RR_readMargin 32 = .ok (.invokevirtual 62, 3) := by decide +kernel
theorem d_RR_readMargin_35 : decode b_RR_readMargin 35 = .ok (.istore_n 2, 1) := by decide +kernel
theorem d_RR_readMargin_36 : decode b_RR_readMargin 36 = .ok (.iload_n 2, 1) := by decide +kernel
theorem d_RR_readMargin_37 : decode b_RR_readMargin 37 = .ok (.iconst (-1), 1) := by decide +kernel
theorem d_RR_readMargin_38 : decode b_RR_readMargin 38 = .ok (.if_icmp .ne 5, 3) := by decide +kernel
theorem d_RR_readMargin_41 : decode b_RR_readMargin 41 = .ok (.iconst 0, 1) := by decide +kernel
theorem d_RR_readMargin_42 : decode b_RR_readMargin 42 = .ok (.ireturn, 1) := by decide +kernel
theorem d_RR_readMargin_43 : decode b_RR_readMargin 43 = .ok (.aload_n 0, 1) := by decide +kernel
theorem d_RR_readMargin_44 : decode b_RR_readMargin 44 = .ok (.getfield 15, 3) := by decide +kernel
theorem d_RR_readMargin_47 : decode b_RR_readMargin 47 = .ok (.iload_n 1, 1) := by decide +kernel
theorem d_RR_readMargin_48 : decode b_RR_readMargin 48 = .ok (.putfield 70, 3) := by decide +kernel
theorem d_RR_readMargin_51 : decode b_RR_readMargin 51 = .ok (.aload_n 0, 1) := by decide +kernel
theorem d_RR_readMargin_52 : decode b_RR_readMargin 52 = .ok (.getfield 15, 3) := by decide +kernel
theorem d_RR_readMargin_55 : decode b_RR_readMargin 55 = .ok (.iload_n 2, 1) := by decide +kernel
theorem d_RR_readMargin_56 : decode b_RR_readMargin 56 = .ok (.putfield 73, 3) := by decide +kernel
theorem d_RR_readMargin_59 : decode b_RR_readMargin 59 = .ok (.iconst 1, 1) := by decide +kernel
theorem d_RR_readMargin_60 : decode b_RR_readMargin 60 = .ok (.ireturn, 1) := by decide +kernel
theorem d_RR_readOrder_0 : decode b_RR_readOrder 0 = .ok (.aload_n 0, 1) := by decide +kernel
theorem d_RR_readOrder_1 : decode b_RR_readOrder 1 = .ok (.iconst 1, 1) := by decide +kernel
theorem d_RR_readOrder_2 : decode b_RR_readOrder 2 = .ok (.putfield 35, 3) := by decide +kernel
theorem d_RR_readOrder_5 : decode b_RR_readOrder 5 = .ok (.aload_n 0, 1) := by decide +kernel
theorem d_RR_readOrder_6 : decode b_RR_readOrder 6 = .ok (.dup, 1) := by decide +kernel
theorem d_RR_readOrder_7 : decode b_RR_readOrder 7 = .ok (.getfield 24, 3) := by decide +kernel
theorem d_RR_readOrder_10 : decode b_RR_readOrder 10 = .ok (.iconst 1, 1) := by decide +kernel
theorem d_RR_readOrder_11 : decode b_RR_readOrder 11 = .ok (.iadd, 1) := by decide +kernel
theorem d_RR_readOrder_12 : decode b_RR_readOrder 12 = .ok (.putfield 24, 3) := by decide +kernel
theorem d_RR_readOrder_15 : decode b_RR_readOrder 15 = .ok (.aload_n 0, 1) := by decide +kernel
theorem d_RR_readOrder_16 : decode b_RR_readOrder 16 = .ok (.invokevirtual 42, 3) := by decide +kernel
theorem d_RR_readOrder_19 : decode b_RR_readOrder 19 = .ok (.istore_n 1, 1) := by decide +kernel
theorem d_RR_readOrder_20 : decode b_RR_readOrder 20 = .ok (.iload_n 1, 1) := by decide +kernel
theorem d_RR_readOrder_21 : decode b_RR_readOrder 21 = .ok (.bipush 110, 2) := by decide +kernel
theorem d_RR_readOrder_23 : decode b_RR_readOrder 23 = .ok (.if_icmp .eq 23, 3) := by decide +kernel
theorem d_RR_readOrder_26 : decode b_RR_readOrder 26 = .ok (.iload_n 1, 1) := by decide +kernel
theorem d_RR_readOrder_27 : decode b_RR_readOrder 27 = .ok (.bipush 102, 2) := by decide +kernel
theorem d_RR_readOrder_29 : decode b_RR_readOrder 29 = .ok (.if_icmp .eq 17, 3) := by decide +kernel
theorem d_RR_readOrder_32 : decode b_RR_readOrder 32 = .ok (.iload_n 1, 1) := by decide +kernel
theorem d_RR_readOrder_33 : decode b_RR_readOrder 33 = .ok (.bipush 97, 2) := by decide +kernel
theorem d_RR_readOrder_35 : decode b_RR_readOrder 35 = .ok (.if_icmp .eq 11, 3) := by decide +kernel
theorem d_RR_readOrder_38 : decode b_RR_readOrder 38 = .ok (.iload_n 1, 1) := by decide +kernel
theorem d_RR_readOrder_39 : decode b_RR_readOrder 39 = .ok (.bipush 116, 2) := by decide +kernel
theorem d_RR_readOrder_41 : decode b_RR_readOrder 41 = .ok (.if_icmp .eq 5, 3) := by decide +kernel
theorem d_RR_readOrder_44 : decode b_RR_readOrder 44 = .ok (.iconst 0, 1) := by decide +kernel
theorem d_RR_readOrder_45 : decode b_RR_readOrder 45 = .ok (.ireturn, 1) := by decide +kernel
theorem d_RR_readOrder_46 : decode b_RR_readOrder 46 = .ok (.aload_n 0, 1) := by decide +kernel
theorem d_RR_readOrder_47 : decode b_RR_readOrder 47 = .ok (.getfield 15, 3) := by decide +kernel
theorem d_RR_readOrder_50 : decode b_RR_readOrder 50 = .ok (.iload_n 1, 1) := by decide +kernel
theorem d_RR_readOrder_51 : decode b_RR_readOrder 51 = .ok (.putfield 76, 3) := by decide +kernel
theorem d_RR_readOrder_54 : decode b_RR_readOrder 54 = .ok (.aload_n 0, 1) := by decide +kernel
theorem d_RR_readOrder_55 : decode b_RR_readOrder 55 = .ok (.dup, 1) := by decide +kernel
theorem d_RR_readOrder_56 : decode b_RR_readOrder 56 = .ok (.getfield 24, 3) := by decide +kernel
theorem d_RR_readOrder_59 : decode b_RR_readOrder 59 = .ok (.iconst 1, 1) := by decide +kernel
theorem d_RR_readOrder_60 : decode b_RR_readOrder 60 = .ok (.iadd, 1) := by decide +kernel
theorem d_RR_readOrder_61 : decode b_RR_readOrder 61 = .ok (.putfield 24, 3) := by decide +kernel
theorem d_RR_readOrder_64 : decode b_RR_readOrder 64 = .ok (.iconst 1, 1) := by decide +kernel
theorem d_RR_readOrder_65 : decode b_RR_readOrder 65 = .ok (.ireturn, 1) := by decide +kernel
theorem d_RR_readNumber_0 : decode b_RR_readNumber 0 = .ok (.aload_n 0, 1) := by decide +kernel
theorem d_RR_readNumber_1 : decode b_RR_readNumber 1 = .ok (.invokevirtual 42, 3) := by decide +kernel
theorem d_RR_readNumber_4 : decode b_RR_readNumber 4 = .ok (.istore_n 2, 1) := by decide +kernel
theorem d_RR_readNumber_5 : decode b_RR_readNumber 5 = .ok (.aload_n 0, 1) := by decide +kernel
theorem d_RR_readNumber_6 : decode b_RR_readNumber 6 = .ok (.getfield 24, 3) := by decide +kernel
theorem d_RR_readNumber_9 : decode b_RR_readNumber 9 = .ok (.istore_n 3, 1) := by decide +kernel
theorem d_RR_readNumber_10 : decode b_RR_readNumber 10 = .ok (.iconst 0, 1) := by decide +kernel
theorem d_RR_readNumber_11 : decode b_RR_readNumber 11 = .ok (.istore 4, 2) := by decide +kernel
theorem d_RR_readNumber_13 : decode b_RR_readNumber 13 = .ok (.aload_n 0, 1) := by decide +kernel
theorem d_RR_readNumber_14 : decode b_RR_readNumber 14 = .ok (.getfield 24, 3) := by decide +kernel
theorem d_RR_readNumber_17 : decode b_RR_readNumber 17 = .ok (.bipush 100, 2) := by decide +kernel
theorem d_RR_readNumber_19 : decode b_RR_readNumber 19 = .ok (.if_icmp .ge 65, 3) := by decide +kernel
theorem d_RR_readNumber_22 : decode b_RR_readNumber 22 = .ok (.aload_n 0, 1) := by decide +kernel
theorem d_RR_readNumber_23 : decode b_RR_readNumber 23 = .ok (.getfield 9, 3) := by decide +kernel
theorem d_RR_readNumber_26 : decode b_RR_readNumber 26 = .ok (.aload_n 0, 1) := by decide +kernel
theorem d_RR_readNumber_27 : decode b_RR_readNumber 27 = .ok (.getfield 24, 3) := by decide +kernel
theorem d_RR_readNumber_30 : decode b_RR_readNumber 30 = .ok (.invokevirtual 79, 3) := by decide +kernel
theorem d_RR_readNumber_33 : decode b_RR_readNumber 33 = .ok (.bipush 48, 2) := by decide +kernel
theorem d_RR_readNumber_35 : decode b_RR_readNumber 35 = .ok (.bipush 57, 2) := by decide +kernel
theorem d_RR_readNumber_37 : decode b_RR_readNumber 37 = .ok (.invokestatic 84, 3) := by decide +kernel
theorem d_RR_readNumber_40 : decode b_RR_readNumber 40 = .ok (.ifCond .eq 44, 3) := by decide +kernel
theorem d_RR_readNumber_43 : decode b_RR_readNumber 43 = .ok (.iload 4, 2) := by decide +kernel
theorem d_RR_readNumber_45 : decode b_RR_readNumber 45 = .ok (.bipush 10, 2) := by decide +kernel
theorem d_RR_readNumber_47 : decode b_RR_readNumber 47 = .ok (.imul, 1) := by decide +kernel
theorem d_RR_readNumber_48 : decode b_RR_readNumber 48 = .ok (.aload_n 0, 1) := by decide +kernel
theorem d_RR_readNumber_49 : decode b_RR_readNumber 49 = .ok (.getfield 9, 3) := by decide +kernel
theorem d_RR_readNumber_52 : decode b_RR_readNumber 52 = .ok (.aload_n 0, 1) := by decide +kernel
theorem d_RR_readNumber_53 : decode b_RR_readNumber 53 = .ok (.getfield 24, 3) := by decide +kernel
theorem d_RR_readNumber_56 : decode b_RR_readNumber 56 = .ok (.invokevirtual 79, 3) := by decide +kernel
theorem d_RR_readNumber_59 : decode b_RR_readNumber 59 = .ok (.iadd, 1) := by decide +kernel
theorem d_RR_readNumber_60 : decode b_RR_readNumber 60 = .ok (.bipush 48, 2) := by decide +kernel
theorem d_RR_readNumber_62 : decode b_RR_readNumber 62 = .ok (.isub, 1) := by decide +kernel
theorem d_RR_readNumber_63 : decode b_RR_readNumber 63 = .ok (.sipush 1000, 3) := by decide +kernel
theorem d_RR_readNumber_66 : decode b_RR_readNumber 66 = .ok (.invokestatic 88, 3) := by decide +kernel
theorem d_RR_readNumber_69 : decode b_RR_readNumber 69 = .ok (.istore 4, 2) := by decide +kernel
theorem d_RR_readNumber_71 : decode b_RR_readNumber 71 = .ok (.aload_n 0, 1) := by decide +kernel
theorem d_RR_readNumber_72 : decode b_RR_readNumber 72 = .ok (.dup, 1) := by decide +kernel
theorem d_RR_readNumber_73 : decode b_RR_readNumber 73 = .ok (.getfield 24, 3) := by decide +kernel
theorem d_RR_readNumber_76 : decode b_RR_readNumber 76 = .ok (.iconst 1, 1) := by decide +kernel
theorem d_RR_readNumber_77 : decode b_RR_readNumber 77 = .ok (.iadd, 1) := by decide +kernel
theorem d_RR_readNumber_78 : decode b_RR_readNumber 78 = .ok (.putfield 24, 3) := by decide +kernel
theorem d_RR_readNumber_81 : decode b_RR_readNumber 81 = .ok (.goto (-68), 3) := by decide +kernel
theorem d_RR_readNumber_84 : decode b_RR_readNumber 84 = .ok (.aload_n 0, 1) := by decide +kernel
theorem d_RR_readNumber_85 : decode b_RR_readNumber 85 = .ok (.getfield 24, 3) := by decide +kernel
theorem d_RR_readNumber_88 : decode b_RR_readNumber 88 = .ok (.iload_n 3, 1) := by decide +kernel
theorem d_RR_readNumber_89 : decode b_RR_readNumber 89 = .ok (.isub, 1) := by decide +kernel
theorem d_RR_readNumber_90 : decode b_RR_readNumber 90 = .ok (.istore 5, 2) := by decide +kernel
theorem d_RR_readNumber_92 : decode b_RR_readNumber 92 = .ok (.iload_n 2, 1) := by decide +kernel
theorem d_RR_readNumber_93 : decode b_RR_readNumber 93 = .ok (.bipush 48, 2) := by decide +kernel
theorem d_RR_readNumber_95 : decode b_RR_readNumber 95 = .ok (.if_icmp .ne 13, 3) := by decide +kernel
theorem d_RR_readNumber_98 : decode b_RR_readNumber 98 = .ok (.iload 5, 2) := by decide +kernel
theorem d_RR_readNumber_100 : decode b_RR_readNumber 100 = .ok (.iconst 1, 1) := by decide +kernel
theorem d_RR_readNumber_101 : decode b_RR_readNumber 101 = .ok (.if_icmp .le 7, 3) := by decide +kernel
theorem d_RR_readNumber_104 : decode b_RR_readNumber 104 = .ok (.iconst 1, 1) := by decide +kernel
theorem d_RR_readNumber_105 : decode b_RR_readNumber 105 = .ok (.goto 4, 3) := by decide +kernel
theorem d_RR_readNumber_108 : decode b_RR_readNumber 108 = .ok (.iconst 0, 1) := by decide +kernel
theorem d_RR_readNumber_109 : decode b_RR_readNumber 109 = .ok (.istore 6, 2) := by decide +kernel
theorem d_RR_readNumber_111 : decode b_RR_readNumber 111 = .ok (.iload 5, 2) := by decide +kernel
theorem d_RR_readNumber_113 : decode b_RR_readNumber 113 = .ok (.iconst 1, 1) := by decide +kernel
theorem d_RR_readNumber_114 : decode b_RR_readNumber 114 = .ok (.if_icmp .lt 20, 3) := by decide +kernel
theorem d_RR_readNumber_117 : decode b_RR_readNumber 117 = .ok (.iload 5, 2) := by decide +kernel
theorem d_RR_readNumber_119 : decode b_RR_readNumber 119 = .ok (.iconst 3, 1) := by decide +kernel
theorem d_RR_readNumber_120 : decode b_RR_readNumber 120 = .ok (.if_icmp .gt 14, 3) := by decide +kernel
theorem d_RR_readNumber_123 : decode b_RR_readNumber 123 = .ok (.iload 6, 2) := by decide +kernel
theorem d_RR_readNumber_125 : decode b_RR_readNumber 125 = .ok (.ifCond .ne 9, 3) := by decide +kernel
theorem d_RR_readNumber_128 : decode b_RR_readNumber 128 = .ok (.iload 4, 2) := by decide +kernel
theorem d_RR_readNumber_130 : decode b_RR_readNumber 130 = .ok (.iload_n 1, 1) := by decide +kernel
theorem d_RR_readNumber_131 : decode b_RR_readNumber 131 = .ok (.if_icmp .ge 10, 3) := by decide +kernel
theorem d_RR_readNumber_134 : decode b_RR_readNumber 134 = .ok (.aload_n 0, 1) := by decide +kernel
theorem d_RR_readNumber_135 : decode b_RR_readNumber 135 = .ok (.iload_n 3, 1) := by decide +kernel
theorem d_RR_readNumber_136 : decode b_RR_readNumber 136 = .ok (.putfield 24, 3) := by decide +kernel
theorem d_RR_readNumber_139 : decode b_RR_readNumber 139 = .ok (.iconst (-1), 1) := by decide +kernel
theorem d_RR_readNumber_140 : decode b_RR_readNumber 140 = .ok (.ireturn, 1) := by decide +kernel
theorem d_RR_readNumber_141 : decode b_RR_readNumber 141 = .ok (.iload 4, 2) := by decide +kernel
theorem d_RR_readNumber_143 : decode b_RR_readNumber 143 = .ok (.ireturn, 1) := by decide +kernel
theorem d_RR_pass_0 : decode b_RR_pass 0 = .ok (.aload_n 0, 1) := by decide +kernel
theorem d_RR_pass_1 : decode b_RR_pass 1 = .ok (.invokevirtual 42, 3) := by decide +kernel
theorem d_RR_pass_4 : decode b_RR_pass 4 = .ok (.iload_n 1, 1) := by decide +kernel
theorem d_RR_pass_5 : decode b_RR_pass 5 = .ok (.if_icmp .eq 5, 3) := by decide +kernel
theorem d_RR_pass_8 : decode b_RR_pass 8 = .ok (.iconst 0, 1) := by decide +kernel
theorem d_RR_pass_9 : decode b_RR_pass 9 = .ok (.ireturn, 1) := by decide +kernel
theorem d_RR_pass_10 : decode b_RR_pass 10 = .ok (.aload_n 0, 1) := by decide +kernel
theorem d_RR_pass_11 : decode b_RR_pass 11 = .ok (.dup, 1) := by decide +kernel
theorem d_RR_pass_12 : decode b_RR_pass 12 = .ok (.getfield 24, 3) := by decide +kernel
theorem d_RR_pass_15 : decode b_RR_pass 15 = .ok (.iconst 1, 1) := by decide +kernel
theorem d_RR_pass_16 : decode b_RR_pass 16 = .ok (.iadd, 1) := by decide +kernel
theorem d_RR_pass_17 : decode b_RR_pass 17 = .ok (.putfield 24, 3) := by decide +kernel
theorem d_RR_pass_20 : decode b_RR_pass 20 = .ok (.iconst 1, 1) := by decide +kernel
theorem d_RR_pass_21 : decode b_RR_pass 21 = .ok (.ireturn, 1) := by decide +kernel
theorem d_RR_nextSign_0 : decode b_RR_nextSign 0 = .ok (.aload_n 0, 1) := by decide +kernel
theorem d_RR_nextSign_1 : decode b_RR_nextSign 1 = .ok (.getfield 24, 3) := by decide +kernel
theorem d_RR_nextSign_4 : decode b_RR_nextSign 4 = .ok (.bipush 100, 2) := by decide +kernel
theorem d_RR_nextSign_6 : decode b_RR_nextSign 6 = .ok (.if_icmp .ge 32, 3) := by decide +kernel
theorem d_RR_nextSign_9 : decode b_RR_nextSign 9 = .ok (.aload_n 0, 1) := by decide +kernel
theorem d_RR_nextSign_10 : decode b_RR_nextSign 10 = .ok (.getfield 9, 3) := by decide +kernel
theorem d_RR_nextSign_13 : decode b_RR_nextSign 13 = .ok (.aload_n 0, 1) := by decide +kernel
theorem d_RR_nextSign_14 : decode b_RR_nextSign 14 = .ok (.getfield 24, 3) := by decide +kernel
theorem d_RR_nextSign_17 : decode b_RR_nextSign 17 = .ok (.invokevirtual 79, 3) := by decide +kernel
theorem d_RR_nextSign_20 : decode b_RR_nextSign 20 = .ok (.bipush 32, 2) := by decide +kernel
theorem d_RR_nextSign_22 : decode b_RR_nextSign 22 = .ok (.if_icmp .ne 16, 3) := by decide +kernel
theorem d_RR_nextSign_25 : decode b_RR_nextSign 25 = .ok (.aload_n 0, 1) := by decide +kernel
theorem d_RR_nextSign_26 : decode b_RR_nextSign 26 = .ok (.dup, 1) := by decide +kernel
theorem d_RR_nextSign_27 : decode b_RR_nextSign 27 = .ok (.getfield 24, 3) := by decide +kernel
theorem d_RR_nextSign_30 : decode b_RR_nextSign 30 = .ok (.iconst 1, 1) := by decide +kernel
theorem d_RR_nextSign_31 : decode b_RR_nextSign 31 = .ok (.iadd, 1) := by decide +kernel
theorem d_RR_nextSign_32 : decode b_RR_nextSign 32 = .ok (.putfield 24, 3) := by decide +kernel
theorem d_RR_nextSign_35 : decode b_RR_nextSign 35 = .ok (.goto (-35), 3) := by decide +kernel
theorem d_RR_nextSign_38 : decode b_RR_nextSign 38 = .ok (.aload_n 0, 1) := by decide +kernel
theorem d_RR_nextSign_39 : decode b_RR_nextSign 39 = .ok (.getfield 9, 3) := by decide +kernel
theorem d_RR_nextSign_42 : decode b_RR_nextSign 42 = .ok (.aload_n 0, 1) := by decide +kernel
theorem d_RR_nextSign_43 : decode b_RR_nextSign 43 = .ok (.getfield 24, 3) := by decide +kernel
theorem d_RR_nextSign_46 : decode b_RR_nextSign 46 = .ok (.invokevirtual 79, 3) := by decide +kernel
theorem d_RR_nextSign_49 : decode b_RR_nextSign 49 = .ok (.ireturn, 1) := by decide +kernel
