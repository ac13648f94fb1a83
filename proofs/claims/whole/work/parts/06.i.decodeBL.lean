theorem d_BL_init_0 : decode b_BL_init 0 = .ok (.aload_n 0, 1) := by decide +kernel
theorem d_BL_init_1 : decode b_BL_init 1 = .ok (.invokespecial 3, 3) := by decide +kernel
theorem d_BL_init_4 : decode b_BL_init 4 = .ok (.aload_n 0, 1) := by decide +kernel
theorem d_BL_init_5 : decode b_BL_init 5 = .ok (.bipush 40, 2) := by decide +kernel
theorem d_BL_init_7 : decode b_BL_init 7 = .ok (.newarray .int, 2) := by decide +kernel
theorem d_BL_init_9 : decode b_BL_init 9 = .ok (.putfield 11, 3) := by decide +kernel
theorem d_BL_init_12 : decode b_BL_init 12 = .ok (.aload_n 0, 1) := by decide +kernel
theorem d_BL_init_13 : decode b_BL_init 13 = .ok (.bipush 40, 2) := by decide +kernel
theorem d_BL_init_15 : decode b_BL_init 15 = .ok (.newarray .int, 2) := by decide +kernel
theorem d_BL_init_17 : decode b_BL_init 17 = .ok (.putfield 15, 3) := by decide +kernel
theorem d_BL_init_20 : decode b_BL_init 20 = .ok (.aload_n 0, 1) := by decide +kernel
theorem d_BL_init_21 : decode b_BL_init 21 = .ok (.bipush 40, 2) := by decide +kernel
theorem d_BL_init_23 : decode b_BL_init 23 = .ok (.newarray .int, 2) := by decide +kernel
theorem d_BL_init_25 : decode b_BL_init 25 = .ok (.putfield 18, 3) := by decide +kernel
theorem d_BL_init_28 : decode b_BL_init 28 = .ok (.aload_n 0, 1) := by decide +kernel
theorem d_BL_init_29 : decode b_BL_init 29 = .ok (.aload_n 1, 1) := by decide +kernel
theorem d_BL_init_30 : decode b_BL_init 30 = .ok (.putfield 21, 3) := by decide +kernel
theorem d_BL_init_33 : decode b_BL_init 33 = .ok (.aload_n 0, 1) := by decide +kernel
theorem d_BL_init_34 : decode b_BL_init 34 = .ok (.aload_n 2, 1) := by decide +kernel
theorem d_BL_init_35 : decode b_BL_init 35 = .ok (.putfield 25, 3) := by decide +kernel
theorem d_BL_init_38 : decode b_BL_init 38 = .ok (.return_, 1) := by decide +kernel
theorem d_BL_gather_0 : decode b_BL_gather 0 = .ok (.aload_n 0, 1) := by decide +kernel
theorem d_BL_gather_1 : decode b_BL_gather 1 = .ok (.iconst 0, 1) := by decide +kernel
theorem d_BL_gather_2 : decode b_BL_gather 2 = .ok (.putfield 29, 3) := by decide +kernel
theorem d_BL_gather_5 : decode b_BL_gather 5 = .ok (.iconst 0, 1) := by decide +kernel
theorem d_BL_gather_6 : decode b_BL_gather 6 = .ok (.istore_n 2, 1) := by decide +kernel
theorem d_BL_gather_7 : decode b_BL_gather 7 = .ok (.iload_n 2, 1) := by decide +kernel
theorem d_BL_gather_8 : decode b_BL_gather 8 = .ok (.iload_n 1, 1) := by decide +kernel
theorem d_BL_gather_9 : decode b_BL_gather 9 = .ok (.if_icmp .ge 36, 3) := by decide +kernel
theorem d_BL_gather_12 : decode b_BL_gather 12 = .ok (.aload_n 0, 1) := by decide +kernel
theorem d_BL_gather_13 : decode b_BL_gather 13 = .ok (.getfield 21, 3) := by decide +kernel
theorem d_BL_gather_16 : decode b_BL_gather 16 = .ok (.iload_n 2, 1) := by decide +kernel
theorem d_BL_gather_17 : decode b_BL_gather 17 = .ok (.aaload, 1) := by decide +kernel
theorem d_BL_gather_18 : decode b_BL_gather 18 = .ok (.getfield 33, 3) := by decide +kernel
theorem d_BL_gather_21 : decode b_BL_gather 21 = .ok (.iconst (-1), 1) := by decide +kernel
theorem d_BL_gather_22 : decode b_BL_gather 22 = .ok (.if_icmp .eq 17, 3) := by decide +kernel
theorem d_BL_gather_25 : decode b_BL_gather 25 = .ok (.aload_n 0, 1) := by decide +kernel
theorem d_BL_gather_26 : decode b_BL_gather 26 = .ok (.iload_n 2, 1) := by decide +kernel
theorem d_BL_gather_27 : decode b_BL_gather 27 = .ok (.aload_n 0, 1) := by decide +kernel
theorem d_BL_gather_28 : decode b_BL_gather 28 = .ok (.getfield 21, 3) := by decide +kernel
theorem d_BL_gather_31 : decode b_BL_gather 31 = .ok (.iload_n 2, 1) := by decide +kernel
theorem d_BL_gather_32 : decode b_BL_gather 32 = .ok (.aaload, 1) := by decide +kernel
theorem d_BL_gather_33 : decode b_BL_gather 33 = .ok (.getfield 33, 3) := by decide +kernel
theorem d_BL_gather_36 : decode b_BL_gather 36 = .ok (.invokevirtual 38, 3) := by decide +kernel
theorem d_BL_gather_39 : decode b_BL_gather 39 = .ok (.iinc 2 1, 3) := by decide +kernel
theorem d_BL_gather_42 : decode b_BL_gather 42 = .ok (.goto (-35), 3) := by decide +kernel
theorem d_BL_gather_45 : decode b_BL_gather 45 = .ok (.return_, 1) := by decide +kernel
theorem d_BL_part_0 : decode b_BL_part 0 = .ok (.iload_n 1, 1) := by decide +kernel
theorem d_BL_part_1 : decode b_BL_part 1 = .ok (.iconst 0, 1) := by decide +kernel
theorem d_BL_part_2 : decode b_BL_part 2 = .ok (.aload_n 0, 1) := by decide +kernel
theorem d_BL_part_3 : decode b_BL_part 3 = .ok (.getfield 29, 3) := by decide +kernel
theorem d_BL_part_6 : decode b_BL_part 6 = .ok (.iconst 1, 1) := by decide +kernel
theorem d_BL_part_7 : decode b_BL_part 7 = .ok (.isub, 1) := by decide +kernel
theorem d_BL_part_8 : decode b_BL_part 8 = .ok (.invokestatic 42, 3) := by decide +kernel
theorem d_BL_part_11 : decode b_BL_part 11 = .ok (.ifCond .ne 5, 3) := by decide +kernel
theorem d_BL_part_14 : decode b_BL_part 14 = .ok (.iconst (-1), 1) := by decide +kernel
theorem d_BL_part_15 : decode b_BL_part 15 = .ok (.ireturn, 1) := by decide +kernel
theorem d_BL_part_16 : decode b_BL_part 16 = .ok (.iload_n 2, 1) := by decide +kernel
theorem d_BL_part_17 : decode b_BL_part 17 = .ok (.tableswitch 48 0 2 #[27, 34, 41], 27) := by decide +kernel
theorem d_BL_part_44 : decode b_BL_part 44 = .ok (.aload_n 0, 1) := by decide +kernel
theorem d_BL_part_45 : decode b_BL_part 45 = .ok (.getfield 11, 3) := by decide +kernel
theorem d_BL_part_48 : decode b_BL_part 48 = .ok (.iload_n 1, 1) := by decide +kernel
theorem d_BL_part_49 : decode b_BL_part 49 = .ok (.iaload, 1) := by decide +kernel
theorem d_BL_part_50 : decode b_BL_part 50 = .ok (.ireturn, 1) := by decide +kernel
theorem d_BL_part_51 : decode b_BL_part 51 = .ok (.aload_n 0, 1) := by decide +kernel
theorem d_BL_part_52 : decode b_BL_part 52 = .ok (.getfield 15, 3) := by decide +kernel
theorem d_BL_part_55 : decode b_BL_part 55 = .ok (.iload_n 1, 1) := by decide +kernel
theorem d_BL_part_56 : decode b_BL_part 56 = .ok (.iaload, 1) := by decide +kernel
theorem d_BL_part_57 : decode b_BL_part 57 = .ok (.ireturn, 1) := by decide +kernel
theorem d_BL_part_58 : decode b_BL_part 58 = .ok (.aload_n 0, 1) := by decide +kernel
theorem d_BL_part_59 : decode b_BL_part 59 = .ok (.getfield 18, 3) := by decide +kernel
theorem d_BL_part_62 : decode b_BL_part 62 = .ok (.iload_n 1, 1) := by decide +kernel
theorem d_BL_part_63 : decode b_BL_part 63 = .ok (.iaload, 1) := by decide +kernel
theorem d_BL_part_64 : decode b_BL_part 64 = .ok (.ireturn, 1) := by decide +kernel
theorem d_BL_part_65 : decode b_BL_part 65 = .ok (.iconst (-1), 1) := by decide +kernel
theorem d_BL_part_66 : decode b_BL_part 66 = .ok (.ireturn, 1) := by decide +kernel
theorem d_BL_gatherOf_0 : decode b_BL_gatherOf 0 = .ok (.aload_n 0, 1) := by decide +kernel
theorem d_BL_gatherOf_1 : decode b_BL_gatherOf 1 = .ok (.getfield 25, 3) := by decide +kernel
theorem d_BL_gatherOf_4 : decode b_BL_gatherOf 4 = .ok (.iload_n 2, 1) := by decide +kernel
theorem d_BL_gatherOf_5 : decode b_BL_gatherOf 5 = .ok (.iload_n 1, 1) := by decide +kernel
theorem d_BL_gatherOf_6 : decode b_BL_gatherOf 6 = .ok (.invokevirtual 46, 3) := by decide +kernel
theorem d_BL_gatherOf_9 : decode b_BL_gatherOf 9 = .ok (.istore_n 3, 1) := by decide +kernel
theorem d_BL_gatherOf_10 : decode b_BL_gatherOf 10 = .ok (.iconst 0, 1) := by decide +kernel
theorem d_BL_gatherOf_11 : decode b_BL_gatherOf 11 = .ok (.istore 4, 2) := by decide +kernel
theorem d_BL_gatherOf_13 : decode b_BL_gatherOf 13 = .ok (.iload 4, 2) := by decide +kernel
theorem d_BL_gatherOf_15 : decode b_BL_gatherOf 15 = .ok (.aload_n 0, 1) := by decide +kernel
theorem d_BL_gatherOf_16 : decode b_BL_gatherOf 16 = .ok (.getfield 25, 3) := by decide +kernel
theorem d_BL_gatherOf_19 : decode b_BL_gatherOf 19 = .ok (.getfield 52, 3) := by decide +kernel
theorem d_BL_gatherOf_22 : decode b_BL_gatherOf 22 = .ok (.if_icmp .ge 68, 3) := by decide +kernel
theorem d_BL_gatherOf_25 : decode b_BL_gatherOf 25 = .ok (.aload_n 0, 1) := by decide +kernel
theorem d_BL_gatherOf_26 : decode b_BL_gatherOf 26 = .ok (.getfield 25, 3) := by decide +kernel
theorem d_BL_gatherOf_29 : decode b_BL_gatherOf 29 = .ok (.getfield 55, 3) := by decide +kernel
theorem d_BL_gatherOf_32 : decode b_BL_gatherOf 32 = .ok (.iload 4, 2) := by decide +kernel
theorem d_BL_gatherOf_34 : decode b_BL_gatherOf 34 = .ok (.iaload, 1) := by decide +kernel
theorem d_BL_gatherOf_35 : decode b_BL_gatherOf 35 = .ok (.istore 5, 2) := by decide +kernel
theorem d_BL_gatherOf_37 : decode b_BL_gatherOf 37 = .ok (.aload_n 0, 1) := by decide +kernel
theorem d_BL_gatherOf_38 : decode b_BL_gatherOf 38 = .ok (.getfield 25, 3) := by decide +kernel
theorem d_BL_gatherOf_41 : decode b_BL_gatherOf 41 = .ok (.iload 4, 2) := by decide +kernel
theorem d_BL_gatherOf_43 : decode b_BL_gatherOf 43 = .ok (.iload_n 1, 1) := by decide +kernel
theorem d_BL_gatherOf_44 : decode b_BL_gatherOf 44 = .ok (.invokevirtual 58, 3) := by decide +kernel
theorem d_BL_gatherOf_47 : decode b_BL_gatherOf 47 = .ok (.ifCond .eq 37, 3) := by decide +kernel
theorem d_BL_gatherOf_50 : decode b_BL_gatherOf 50 = .ok (.iload_n 3, 1) := by decide +kernel
theorem d_BL_gatherOf_51 : decode b_BL_gatherOf 51 = .ok (.iconst 1, 1) := by decide +kernel
theorem d_BL_gatherOf_52 : decode b_BL_gatherOf 52 = .ok (.iload 5, 2) := by decide +kernel
theorem d_BL_gatherOf_54 : decode b_BL_gatherOf 54 = .ok (.ishl, 1) := by decide +kernel
theorem d_BL_gatherOf_55 : decode b_BL_gatherOf 55 = .ok (.iand, 1) := by decide +kernel
theorem d_BL_gatherOf_56 : decode b_BL_gatherOf 56 = .ok (.ifCond .ne 28, 3) := by decide +kernel
theorem d_BL_gatherOf_59 : decode b_BL_gatherOf 59 = .ok (.aload_n 0, 1) := by decide +kernel
theorem d_BL_gatherOf_60 : decode b_BL_gatherOf 60 = .ok (.iload_n 1, 1) := by decide +kernel
theorem d_BL_gatherOf_61 : decode b_BL_gatherOf 61 = .ok (.iload 4, 2) := by decide +kernel
theorem d_BL_gatherOf_63 : decode b_BL_gatherOf 63 = .ok (.aload_n 0, 1) := by decide +kernel
theorem d_BL_gatherOf_64 : decode b_BL_gatherOf 64 = .ok (.getfield 25, 3) := by decide +kernel
theorem d_BL_gatherOf_67 : decode b_BL_gatherOf 67 = .ok (.iload 5, 2) := by decide +kernel
theorem d_BL_gatherOf_69 : decode b_BL_gatherOf 69 = .ok (.iload_n 1, 1) := by decide +kernel
theorem d_BL_gatherOf_70 : decode b_BL_gatherOf 70 = .ok (.invokevirtual 62, 3) := by decide +kernel
theorem d_BL_gatherOf_73 : decode b_BL_gatherOf 73 = .ok (.ifCond .eq 7, 3) := by decide +kernel
theorem d_BL_gatherOf_76 : decode b_BL_gatherOf 76 = .ok (.iconst 1, 1) := by decide +kernel
theorem d_BL_gatherOf_77 : decode b_BL_gatherOf 77 = .ok (.goto 4, 3) := by decide +kernel
theorem d_BL_gatherOf_80 : decode b_BL_gatherOf 80 = .ok (.iconst 0, 1) := by decide +kernel
theorem d_BL_gatherOf_81 : decode b_BL_gatherOf 81 = .ok (.invokevirtual 65, 3) := by decide +kernel
theorem d_BL_gatherOf_84 : decode b_BL_gatherOf 84 = .ok (.iinc 4 1, 3) := by decide +kernel
theorem d_BL_gatherOf_87 : decode b_BL_gatherOf 87 = .ok (.goto (-74), 3) := by decide +kernel
theorem d_BL_gatherOf_90 : decode b_BL_gatherOf 90 = .ok (.return_, 1) := by decide +kernel
theorem d_BL_add_0 : decode b_BL_add 0 = .ok (.aload_n 0, 1) := by decide +kernel
theorem d_BL_add_1 : decode b_BL_add 1 = .ok (.getfield 29, 3) := by decide +kernel
theorem d_BL_add_4 : decode b_BL_add 4 = .ok (.bipush 40, 2) := by decide +kernel
theorem d_BL_add_6 : decode b_BL_add 6 = .ok (.if_icmp .ge 43, 3) := by decide +kernel
theorem d_BL_add_9 : decode b_BL_add 9 = .ok (.aload_n 0, 1) := by decide +kernel
theorem d_BL_add_10 : decode b_BL_add 10 = .ok (.getfield 11, 3) := by decide +kernel
theorem d_BL_add_13 : decode b_BL_add 13 = .ok (.aload_n 0, 1) := by decide +kernel
theorem d_BL_add_14 : decode b_BL_add 14 = .ok (.getfield 29, 3) := by decide +kernel
theorem d_BL_add_17 : decode b_BL_add 17 = .ok (.iload_n 1, 1) := by decide +kernel
theorem d_BL_add_18 : decode b_BL_add 18 = .ok (.iastore, 1) := by decide +kernel
theorem d_BL_add_19 : decode b_BL_add 19 = .ok (.aload_n 0, 1) := by decide +kernel
theorem d_BL_add_20 : decode b_BL_add 20 = .ok (.getfield 15, 3) := by decide +kernel
theorem d_BL_add_23 : decode b_BL_add 23 = .ok (.aload_n 0, 1) := by decide +kernel
theorem d_BL_add_24 : decode b_BL_add 24 = .ok (.getfield 29, 3) := by decide +kernel
theorem d_BL_add_27 : decode b_BL_add 27 = .ok (.iload_n 2, 1) := by decide +kernel
theorem d_BL_add_28 : decode b_BL_add 28 = .ok (.iastore, 1) := by decide +kernel
theorem d_BL_add_29 : decode b_BL_add 29 = .ok (.aload_n 0, 1) := by decide +kernel
theorem d_BL_add_30 : decode b_BL_add 30 = .ok (.getfield 18, 3) := by decide +kernel
theorem d_BL_add_33 : decode b_BL_add 33 = .ok (.aload_n 0, 1) := by decide +kernel
theorem d_BL_add_34 : decode b_BL_add 34 = .ok (.getfield 29, 3) := by decide +kernel
theorem d_BL_add_37 : decode b_BL_add 37 = .ok (.iload_n 3, 1) := by decide +kernel
theorem d_BL_add_38 : decode b_BL_add 38 = .ok (.iastore, 1) := by decide +kernel
theorem d_BL_add_39 : decode b_BL_add 39 = .ok (.aload_n 0, 1) := by decide +kernel
theorem d_BL_add_40 : decode b_BL_add 40 = .ok (.dup, 1) := by decide +kernel
theorem d_BL_add_41 : decode b_BL_add 41 = .ok (.getfield 29, 3) := by decide +kernel
theorem d_BL_add_44 : decode b_BL_add 44 = .ok (.iconst 1, 1) := by decide +kernel
theorem d_BL_add_45 : decode b_BL_add 45 = .ok (.iadd, 1) := by decide +kernel
theorem d_BL_add_46 : decode b_BL_add 46 = .ok (.putfield 29, 3) := by decide +kernel
theorem d_BL_add_49 : decode b_BL_add 49 = .ok (.return_, 1) := by decide +kernel
