theorem d_LO_init_0 : decode b_LO_init 0 = .ok (.aload_n 0, 1) := by decide +kernel
theorem d_LO_init_1 : decode b_LO_init 1 = .ok (.invokespecial 3, 3) := by decide +kernel
theorem d_LO_init_4 : decode b_LO_init 4 = .ok (.aload_n 0, 1) := by decide +kernel
theorem d_LO_init_5 : decode b_LO_init 5 = .ok (.iconst 5, 1) := by decide +kernel
theorem d_LO_init_6 : decode b_LO_init 6 = .ok (.newarray .int, 2) := by decide +kernel
theorem d_LO_init_8 : decode b_LO_init 8 = .ok (.putfield 9, 3) := by decide +kernel
theorem d_LO_init_11 : decode b_LO_init 11 = .ok (.aload_n 0, 1) := by decide +kernel
theorem d_LO_init_12 : decode b_LO_init 12 = .ok (.iconst 5, 1) := by decide +kernel
theorem d_LO_init_13 : decode b_LO_init 13 = .ok (.newarray .int, 2) := by decide +kernel
theorem d_LO_init_15 : decode b_LO_init 15 = .ok (.putfield 15, 3) := by decide +kernel
theorem d_LO_init_18 : decode b_LO_init 18 = .ok (.aload_n 0, 1) := by decide +kernel
theorem d_LO_init_19 : decode b_LO_init 19 = .ok (.aload_n 1, 1) := by decide +kernel
theorem d_LO_init_20 : decode b_LO_init 20 = .ok (.putfield 18, 3) := by decide +kernel
theorem d_LO_init_23 : decode b_LO_init 23 = .ok (.aload_n 0, 1) := by decide +kernel
theorem d_LO_init_24 : decode b_LO_init 24 = .ok (.aload_n 2, 1) := by decide +kernel
theorem d_LO_init_25 : decode b_LO_init 25 = .ok (.putfield 22, 3) := by decide +kernel
theorem d_LO_init_28 : decode b_LO_init 28 = .ok (.return_, 1) := by decide +kernel
theorem d_LO_arrange_0 : decode b_LO_arrange 0 = .ok (.aload_n 0, 1) := by decide +kernel
theorem d_LO_arrange_1 : decode b_LO_arrange 1 = .ok (.getfield 22, 3) := by decide +kernel
theorem d_LO_arrange_4 : decode b_LO_arrange 4 = .ok (.aload_n 0, 1) := by decide +kernel
theorem d_LO_arrange_5 : decode b_LO_arrange 5 = .ok (.getfield 22, 3) := by decide +kernel
theorem d_LO_arrange_8 : decode b_LO_arrange 8 = .ok (.getfield 26, 3) := by decide +kernel
theorem d_LO_arrange_11 : decode b_LO_arrange 11 = .ok (.aload_n 1, 1) := by decide +kernel
theorem d_LO_arrange_12 : decode b_LO_arrange 12 = .ok (.getfield 31, 3) := by decide +kernel
theorem d_LO_arrange_15 : decode b_LO_arrange 15 = .ok (.iaload, 1) := by decide +kernel
theorem d_LO_arrange_16 : decode b_LO_arrange 16 = .ok (.invokevirtual 37, 3) := by decide +kernel
theorem d_LO_arrange_19 : decode b_LO_arrange 19 = .ok (.iconst 0, 1) := by decide +kernel
theorem d_LO_arrange_20 : decode b_LO_arrange 20 = .ok (.istore_n 3, 1) := by decide +kernel
theorem d_LO_arrange_21 : decode b_LO_arrange 21 = .ok (.iload_n 3, 1) := by decide +kernel
theorem d_LO_arrange_22 : decode b_LO_arrange 22 = .ok (.aload_n 1, 1) := by decide +kernel
theorem d_LO_arrange_23 : decode b_LO_arrange 23 = .ok (.getfield 41, 3) := by decide +kernel
theorem d_LO_arrange_26 : decode b_LO_arrange 26 = .ok (.if_icmp .ge 58, 3) := by decide +kernel
theorem d_LO_arrange_29 : decode b_LO_arrange 29 = .ok (.aload_n 0, 1) := by decide +kernel
theorem d_LO_arrange_30 : decode b_LO_arrange 30 = .ok (.getfield 18, 3) := by decide +kernel
theorem d_LO_arrange_33 : decode b_LO_arrange 33 = .ok (.aload_n 1, 1) := by decide +kernel
theorem d_LO_arrange_34 : decode b_LO_arrange 34 = .ok (.getfield 44, 3) := by decide +kernel
theorem d_LO_arrange_37 : decode b_LO_arrange 37 = .ok (.iload_n 3, 1) := by decide +kernel
theorem d_LO_arrange_38 : decode b_LO_arrange 38 = .ok (.iaload, 1) := by decide +kernel
theorem d_LO_arrange_39 : decode b_LO_arrange 39 = .ok (.aaload, 1) := by decide +kernel
theorem d_LO_arrange_40 : decode b_LO_arrange 40 = .ok (.getfield 47, 3) := by decide +kernel
theorem d_LO_arrange_43 : decode b_LO_arrange 43 = .ok (.istore 4, 2) := by decide +kernel
theorem d_LO_arrange_45 : decode b_LO_arrange 45 = .ok (.aload_n 0, 1) := by decide +kernel
theorem d_LO_arrange_46 : decode b_LO_arrange 46 = .ok (.getfield 15, 3) := by decide +kernel
theorem d_LO_arrange_49 : decode b_LO_arrange 49 = .ok (.iload_n 3, 1) := by decide +kernel
theorem d_LO_arrange_50 : decode b_LO_arrange 50 = .ok (.iload 4, 2) := by decide +kernel
theorem d_LO_arrange_52 : decode b_LO_arrange 52 = .ok (.iconst (-1), 1) := by decide +kernel
theorem d_LO_arrange_53 : decode b_LO_arrange 53 = .ok (.if_icmp .ne 7, 3) := by decide +kernel
theorem d_LO_arrange_56 : decode b_LO_arrange 56 = .ok (.iconst (-1), 1) := by decide +kernel
theorem d_LO_arrange_57 : decode b_LO_arrange 57 = .ok (.goto 13, 3) := by decide +kernel
theorem d_LO_arrange_60 : decode b_LO_arrange 60 = .ok (.aload_n 0, 1) := by decide +kernel
theorem d_LO_arrange_61 : decode b_LO_arrange 61 = .ok (.getfield 22, 3) := by decide +kernel
theorem d_LO_arrange_64 : decode b_LO_arrange 64 = .ok (.getfield 52, 3) := by decide +kernel
theorem d_LO_arrange_67 : decode b_LO_arrange 67 = .ok (.iload 4, 2) := by decide +kernel
theorem d_LO_arrange_69 : decode b_LO_arrange 69 = .ok (.iaload, 1) := by decide +kernel
theorem d_LO_arrange_70 : decode b_LO_arrange 70 = .ok (.iastore, 1) := by decide +kernel
theorem d_LO_arrange_71 : decode b_LO_arrange 71 = .ok (.aload_n 0, 1) := by decide +kernel
theorem d_LO_arrange_72 : decode b_LO_arrange 72 = .ok (.aload_n 1, 1) := by decide +kernel
theorem d_LO_arrange_73 : decode b_LO_arrange 73 = .ok (.iload_n 3, 1) := by decide +kernel
theorem d_LO_arrange_74 : decode b_LO_arrange 74 = .ok (.iload_n 2, 1) := by decide +kernel
theorem d_LO_arrange_75 : decode b_LO_arrange 75 = .ok (.invokevirtual 55, 3) := by decide +kernel
theorem d_LO_arrange_78 : decode b_LO_arrange 78 = .ok (.iinc 3 1, 3) := by decide +kernel
theorem d_LO_arrange_81 : decode b_LO_arrange 81 = .ok (.goto (-60), 3) := by decide +kernel
theorem d_LO_arrange_84 : decode b_LO_arrange 84 = .ok (.return_, 1) := by decide +kernel
theorem d_LO_lineAt_0 : decode b_LO_lineAt 0 = .ok (.aload_n 0, 1) := by decide +kernel
theorem d_LO_lineAt_1 : decode b_LO_lineAt 1 = .ok (.getfield 9, 3) := by decide +kernel
theorem d_LO_lineAt_4 : decode b_LO_lineAt 4 = .ok (.iload_n 1, 1) := by decide +kernel
theorem d_LO_lineAt_5 : decode b_LO_lineAt 5 = .ok (.iaload, 1) := by decide +kernel
theorem d_LO_lineAt_6 : decode b_LO_lineAt 6 = .ok (.ireturn, 1) := by decide +kernel
theorem d_LO_distanceAt_0 : decode b_LO_distanceAt 0 = .ok (.aload_n 0, 1) := by decide +kernel
theorem d_LO_distanceAt_1 : decode b_LO_distanceAt 1 = .ok (.getfield 15, 3) := by decide +kernel
theorem d_LO_distanceAt_4 : decode b_LO_distanceAt 4 = .ok (.aload_n 0, 1) := by decide +kernel
theorem d_LO_distanceAt_5 : decode b_LO_distanceAt 5 = .ok (.getfield 9, 3) := by decide +kernel
theorem d_LO_distanceAt_8 : decode b_LO_distanceAt 8 = .ok (.iload_n 1, 1) := by decide +kernel
theorem d_LO_distanceAt_9 : decode b_LO_distanceAt 9 = .ok (.iaload, 1) := by decide +kernel
theorem d_LO_distanceAt_10 : decode b_LO_distanceAt 10 = .ok (.iaload, 1) := by decide +kernel
theorem d_LO_distanceAt_11 : decode b_LO_distanceAt 11 = .ok (.ireturn, 1) := by decide +kernel
theorem d_LO_insert_0 : decode b_LO_insert 0 = .ok (.iload_n 2, 1) := by decide +kernel
theorem d_LO_insert_1 : decode b_LO_insert 1 = .ok (.istore 4, 2) := by decide +kernel
theorem d_LO_insert_3 : decode b_LO_insert 3 = .ok (.iload 4, 2) := by decide +kernel
theorem d_LO_insert_5 : decode b_LO_insert 5 = .ok (.ifCond .le 44, 3) := by decide +kernel
theorem d_LO_insert_8 : decode b_LO_insert 8 = .ok (.aload_n 0, 1) := by decide +kernel
theorem d_LO_insert_9 : decode b_LO_insert 9 = .ok (.aload_n 1, 1) := by decide +kernel
theorem d_LO_insert_10 : decode b_LO_insert 10 = .ok (.iload_n 2, 1) := by decide +kernel
theorem d_LO_insert_11 : decode b_LO_insert 11 = .ok (.aload_n 0, 1) := by decide +kernel
theorem d_LO_insert_12 : decode b_LO_insert 12 = .ok (.getfield 9, 3) := by decide +kernel
theorem d_LO_insert_15 : decode b_LO_insert 15 = .ok (.iload 4, 2) := by decide +kernel
theorem d_LO_insert_17 : decode b_LO_insert 17 = .ok (.iconst 1, 1) := by decide +kernel
theorem d_LO_insert_18 : decode b_LO_insert 18 = .ok (.isub, 1) := by decide +kernel
theorem d_LO_insert_19 : decode b_LO_insert 19 = .ok (.iaload, 1) := by decide +kernel
theorem d_LO_insert_20 : decode b_LO_insert 20 = .ok (.iload_n 3, 1) := by decide +kernel
theorem d_LO_insert_21 : decode b_LO_insert 21 = .ok (.invokevirtual 59, 3) := by decide +kernel
theorem d_LO_insert_24 : decode b_LO_insert 24 = .ok (.ifCond .eq 25, 3) := by decide +kernel
theorem d_LO_insert_27 : decode b_LO_insert 27 = .ok (.aload_n 0, 1) := by decide +kernel
theorem d_LO_insert_28 : decode b_LO_insert 28 = .ok (.getfield 9, 3) := by decide +kernel
theorem d_LO_insert_31 : decode b_LO_insert 31 = .ok (.iload 4, 2) := by decide +kernel
theorem d_LO_insert_33 : decode b_LO_insert 33 = .ok (.aload_n 0, 1) := by decide +kernel
theorem d_LO_insert_34 : decode b_LO_insert 34 = .ok (.getfield 9, 3) := by decide +kernel
theorem d_LO_insert_37 : decode b_LO_insert 37 = .ok (.iload 4, 2) := by decide +kernel
theorem d_LO_insert_39 : decode b_LO_insert 39 = .ok (.iconst 1, 1) := by decide +kernel
theorem d_LO_insert_40 : decode b_LO_insert 40 = .ok (.isub, 1) := by decide +kernel
theorem d_LO_insert_41 : decode b_LO_insert 41 = .ok (.iaload, 1) := by decide +kernel
theorem d_LO_insert_42 : decode b_LO_insert 42 = .ok (.iastore, 1) := by decide +kernel
theorem d_LO_insert_43 : decode b_LO_insert 43 = .ok (.iinc 4 (-1), 3) := by decide +kernel
theorem d_LO_insert_46 : decode b_LO_insert 46 = .ok (.goto (-43), 3) := by decide +kernel
theorem d_LO_insert_49 : decode b_LO_insert 49 = .ok (.aload_n 0, 1) := by decide +kernel
theorem d_LO_insert_50 : decode b_LO_insert 50 = .ok (.getfield 9, 3) := by decide +kernel
theorem d_LO_insert_53 : decode b_LO_insert 53 = .ok (.iload 4, 2) := by decide +kernel
theorem d_LO_insert_55 : decode b_LO_insert 55 = .ok (.iload_n 2, 1) := by decide +kernel
theorem d_LO_insert_56 : decode b_LO_insert 56 = .ok (.iastore, 1) := by decide +kernel
theorem d_LO_insert_57 : decode b_LO_insert 57 = .ok (.return_, 1) := by decide +kernel
theorem d_LO_goesBefore_0 : decode b_LO_goesBefore 0 = .ok (.aload_n 0, 1) := by decide +kernel
theorem d_LO_goesBefore_1 : decode b_LO_goesBefore 1 = .ok (.getfield 15, 3) := by decide +kernel
theorem d_LO_goesBefore_4 : decode b_LO_goesBefore 4 = .ok (.iload_n 2, 1) := by decide +kernel
theorem d_LO_goesBefore_5 : decode b_LO_goesBefore 5 = .ok (.iaload, 1) := by decide +kernel
theorem d_LO_goesBefore_6 : decode b_LO_goesBefore 6 = .ok (.istore 5, 2) := by decide +kernel
theorem d_LO_goesBefore_8 : decode b_LO_goesBefore 8 = .ok (.aload_n 0, 1) := by decide +kernel
theorem d_LO_goesBefore_9 : decode b_LO_goesBefore 9 = .ok (.getfield 15, 3) := by decide +kernel
theorem d_LO_goesBefore_12 : decode b_LO_goesBefore 12 = .ok (.iload_n 3, 1) := by decide +kernel
theorem d_LO_goesBefore_13 : decode b_LO_goesBefore 13 = .ok (.iaload, 1) := by decide +kernel
theorem d_LO_goesBefore_14 : decode b_LO_goesBefore 14 = .ok (.istore 6, 2) := by decide +kernel
theorem d_LO_goesBefore_16 : decode b_LO_goesBefore 16 = .ok (.iload 4, 2) := by decide +kernel
theorem d_LO_goesBefore_18 : decode b_LO_goesBefore 18 = .ok (.lookupswitch 110 #[(97, 84), (102, 59), (110, 34)], 34) := by decide +kernel
theorem d_LO_goesBefore_52 : decode b_LO_goesBefore 52 = .ok (.iload 5, 2) := by decide +kernel
theorem d_LO_goesBefore_54 : decode b_LO_goesBefore 54 = .ok (.iconst (-1), 1) := by decide +kernel
theorem d_LO_goesBefore_55 : decode b_LO_goesBefore 55 = .ok (.if_icmp .eq 20, 3) := by decide +kernel
theorem d_LO_goesBefore_58 : decode b_LO_goesBefore 58 = .ok (.iload 6, 2) := by decide +kernel
theorem d_LO_goesBefore_60 : decode b_LO_goesBefore 60 = .ok (.iconst (-1), 1) := by decide +kernel
theorem d_LO_goesBefore_61 : decode b_LO_goesBefore 61 = .ok (.if_icmp .eq 10, 3) := by decide +kernel
theorem d_LO_goesBefore_64 : decode b_LO_goesBefore 64 = .ok (.iload 5, 2) := by decide +kernel
theorem d_LO_goesBefore_66 : decode b_LO_goesBefore 66 = .ok (.iload 6, 2) := by decide +kernel
theorem d_LO_goesBefore_68 : decode b_LO_goesBefore 68 = .ok (.if_icmp .ge 7, 3) := by decide +kernel
theorem d_LO_goesBefore_71 : decode b_LO_goesBefore 71 = .ok (.iconst 1, 1) := by decide +kernel
theorem d_LO_goesBefore_72 : decode b_LO_goesBefore 72 = .ok (.goto 4, 3) := by decide +kernel
theorem d_LO_goesBefore_75 : decode b_LO_goesBefore 75 = .ok (.iconst 0, 1) := by decide +kernel
theorem d_LO_goesBefore_76 : decode b_LO_goesBefore 76 = .ok (.ireturn, 1) := by decide +kernel
theorem d_LO_goesBefore_77 : decode b_LO_goesBefore 77 = .ok (.iload 5, 2) := by decide +kernel
theorem d_LO_goesBefore_79 : decode b_LO_goesBefore 79 = .ok (.iconst (-1), 1) := by decide +kernel
theorem d_LO_goesBefore_80 : decode b_LO_goesBefore 80 = .ok (.if_icmp .eq 20, 3) := by decide +kernel
theorem d_LO_goesBefore_83 : decode b_LO_goesBefore 83 = .ok (.iload 6, 2) := by decide +kernel
theorem d_LO_goesBefore_85 : decode b_LO_goesBefore 85 = .ok (.iconst (-1), 1) := by decide +kernel
theorem d_LO_goesBefore_86 : decode b_LO_goesBefore 86 = .ok (.if_icmp .eq 10, 3) := by decide +kernel
theorem d_LO_goesBefore_89 : decode b_LO_goesBefore 89 = .ok (.iload 5, 2) := by decide +kernel
theorem d_LO_goesBefore_91 : decode b_LO_goesBefore 91 = .ok (.iload 6, 2) := by decide +kernel
theorem d_LO_goesBefore_93 : decode b_LO_goesBefore 93 = .ok (.if_icmp .le 7, 3) := by decide +kernel
theorem d_LO_goesBefore_96 : decode b_LO_goesBefore 96 = .ok (.iconst 1, 1) := by decide +kernel
theorem d_LO_goesBefore_97 : decode b_LO_goesBefore 97 = .ok (.goto 4, 3) := by decide +kernel
theorem d_LO_goesBefore_100 : decode b_LO_goesBefore 100 = .ok (.iconst 0, 1) := by decide +kernel
theorem d_LO_goesBefore_101 : decode b_LO_goesBefore 101 = .ok (.ireturn, 1) := by decide +kernel
theorem d_LO_goesBefore_102 : decode b_LO_goesBefore 102 = .ok (.aload_n 0, 1) := by decide +kernel
theorem d_LO_goesBefore_103 : decode b_LO_goesBefore 103 = .ok (.getfield 18, 3) := by decide +kernel
theorem d_LO_goesBefore_106 : decode b_LO_goesBefore 106 = .ok (.aload_n 1, 1) := by decide +kernel
theorem d_LO_goesBefore_107 : decode b_LO_goesBefore 107 = .ok (.getfield 44, 3) := by decide +kernel
theorem d_LO_goesBefore_110 : decode b_LO_goesBefore 110 = .ok (.iload_n 2, 1) := by decide +kernel
theorem d_LO_goesBefore_111 : decode b_LO_goesBefore 111 = .ok (.iaload, 1) := by decide +kernel
theorem d_LO_goesBefore_112 : decode b_LO_goesBefore 112 = .ok (.aaload, 1) := by decide +kernel
theorem d_LO_goesBefore_113 : decode b_LO_goesBefore 113 = .ok (.aload_n 0, 1) := by decide +kernel
theorem d_LO_goesBefore_114 : decode b_LO_goesBefore 114 = .ok (.getfield 18, 3) := by decide +kernel
theorem d_LO_goesBefore_117 : decode b_LO_goesBefore 117 = .ok (.aload_n 1, 1) := by decide +kernel
theorem d_LO_goesBefore_118 : decode b_LO_goesBefore 118 = .ok (.getfield 44, 3) := by decide +kernel
theorem d_LO_goesBefore_121 : decode b_LO_goesBefore 121 = .ok (.iload_n 3, 1) := by decide +kernel
theorem d_LO_goesBefore_122 : decode b_LO_goesBefore 122 = .ok (.iaload, 1) := by decide +kernel
theorem d_LO_goesBefore_123 : decode b_LO_goesBefore 123 = .ok (.aaload, 1) := by decide +kernel
theorem d_LO_goesBefore_124 : decode b_LO_goesBefore 124 = .ok (.invokevirtual 63, 3) := by decide +kernel
theorem d_LO_goesBefore_127 : decode b_LO_goesBefore 127 = .ok (.ireturn, 1) := by decide +kernel
theorem d_LO_goesBefore_128 : decode b_LO_goesBefore 128 = .ok (.iconst 0, 1) := by decide +kernel
theorem d_LO_goesBefore_129 : decode b_LO_goesBefore 129 = .ok (.ireturn, 1) := by decide +kernel
