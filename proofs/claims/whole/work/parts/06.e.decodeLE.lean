theorem d_LE_init_0 : decode b_LE_init 0 = .ok (.aload_n 0, 1) := by decide +kernel
theorem d_LE_init_1 : decode b_LE_init 1 = .ok (.invokespecial 3, 3) := by decide +kernel
theorem d_LE_init_4 : decode b_LE_init 4 = .ok (.aload_n 0, 1) := by decide +kernel
theorem d_LE_init_5 : decode b_LE_init 5 = .ok (.bipush 95, 2) := by decide +kernel
theorem d_LE_init_7 : decode b_LE_init 7 = .ok (.newarray .int, 2) := by decide +kernel
theorem d_LE_init_9 : decode b_LE_init 9 = .ok (.putfield 9, 3) := by decide +kernel
theorem d_LE_init_12 : decode b_LE_init 12 = .ok (.aload_n 0, 1) := by decide +kernel
theorem d_LE_init_13 : decode b_LE_init 13 = .ok (.bipush 60, 2) := by decide +kernel
theorem d_LE_init_15 : decode b_LE_init 15 = .ok (.newarray .int, 2) := by decide +kernel
theorem d_LE_init_17 : decode b_LE_init 17 = .ok (.putfield 15, 3) := by decide +kernel
theorem d_LE_init_20 : decode b_LE_init 20 = .ok (.aload_n 0, 1) := by decide +kernel
theorem d_LE_init_21 : decode b_LE_init 21 = .ok (.bipush 60, 2) := by decide +kernel
theorem d_LE_init_23 : decode b_LE_init 23 = .ok (.newarray .int, 2) := by decide +kernel
theorem d_LE_init_25 : decode b_LE_init 25 = .ok (.putfield 18, 3) := by decide +kernel
theorem d_LE_init_28 : decode b_LE_init 28 = .ok (.aload_n 0, 1) := by decide +kernel
theorem d_LE_init_29 : decode b_LE_init 29 = .ok (.bipush 60, 2) := by decide +kernel
theorem d_LE_init_31 : decode b_LE_init 31 = .ok (.newarray .int, 2) := by decide +kernel
theorem d_LE_init_33 : decode b_LE_init 33 = .ok (.putfield 21, 3) := by decide +kernel
theorem d_LE_init_36 : decode b_LE_init 36 = .ok (.iconst 0, 1) := by decide +kernel
theorem d_LE_init_37 : decode b_LE_init 37 = .ok (.istore_n 1, 1) := by decide +kernel
theorem d_LE_init_38 : decode b_LE_init 38 = .ok (.iload_n 1, 1) := by decide +kernel
theorem d_LE_init_39 : decode b_LE_init 39 = .ok (.aload_n 0, 1) := by decide +kernel
theorem d_LE_init_40 : decode b_LE_init 40 = .ok (.getfield 9, 3) := by decide +kernel
theorem d_LE_init_43 : decode b_LE_init 43 = .ok (.arraylength, 1) := by decide +kernel
theorem d_LE_init_44 : decode b_LE_init 44 = .ok (.if_icmp .ge 17, 3) := by decide +kernel
theorem d_LE_init_47 : decode b_LE_init 47 = .ok (.aload_n 0, 1) := by decide +kernel
theorem d_LE_init_48 : decode b_LE_init 48 = .ok (.getfield 9, 3) := by decide +kernel
theorem d_LE_init_51 : decode b_LE_init 51 = .ok (.iload_n 1, 1) := by decide +kernel
theorem d_LE_init_52 : decode b_LE_init 52 = .ok (.bipush 8, 2) := by decide +kernel
theorem d_LE_init_54 : decode b_LE_init 54 = .ok (.iastore, 1) := by decide +kernel
theorem d_LE_init_55 : decode b_LE_init 55 = .ok (.iinc 1 1, 3) := by decide +kernel
theorem d_LE_init_58 : decode b_LE_init 58 = .ok (.goto (-20), 3) := by decide +kernel
theorem d_LE_init_61 : decode b_LE_init 61 = .ok (.return_, 1) := by decide +kernel
theorem d_LE_setWidth_0 : decode b_LE_setWidth 0 = .ok (.aload_n 0, 1) := by decide +kernel
theorem d_LE_setWidth_1 : decode b_LE_setWidth 1 = .ok (.getfield 9, 3) := by decide +kernel
theorem d_LE_setWidth_4 : decode b_LE_setWidth 4 = .ok (.iload_n 1, 1) := by decide +kernel
theorem d_LE_setWidth_5 : decode b_LE_setWidth 5 = .ok (.bipush 32, 2) := by decide +kernel
theorem d_LE_setWidth_7 : decode b_LE_setWidth 7 = .ok (.isub, 1) := by decide +kernel
theorem d_LE_setWidth_8 : decode b_LE_setWidth 8 = .ok (.iload_n 2, 1) := by decide +kernel
theorem d_LE_setWidth_9 : decode b_LE_setWidth 9 = .ok (.iastore, 1) := by decide +kernel
theorem d_LE_setWidth_10 : decode b_LE_setWidth 10 = .ok (.return_, 1) := by decide +kernel
theorem d_LE_setKern_0 : decode b_LE_setKern 0 = .ok (.aload_n 0, 1) := by decide +kernel
theorem d_LE_setKern_1 : decode b_LE_setKern 1 = .ok (.iload_n 1, 1) := by decide +kernel
theorem d_LE_setKern_2 : decode b_LE_setKern 2 = .ok (.iload_n 2, 1) := by decide +kernel
theorem d_LE_setKern_3 : decode b_LE_setKern 3 = .ok (.invokevirtual 24, 3) := by decide +kernel
theorem d_LE_setKern_6 : decode b_LE_setKern 6 = .ok (.istore 4, 2) := by decide +kernel
theorem d_LE_setKern_8 : decode b_LE_setKern 8 = .ok (.iload 4, 2) := by decide +kernel
theorem d_LE_setKern_10 : decode b_LE_setKern 10 = .ok (.bipush 60, 2) := by decide +kernel
theorem d_LE_setKern_12 : decode b_LE_setKern 12 = .ok (.if_icmp .lt 5, 3) := by decide +kernel
theorem d_LE_setKern_15 : decode b_LE_setKern 15 = .ok (.iconst 0, 1) := by decide +kernel
theorem d_LE_setKern_16 : decode b_LE_setKern 16 = .ok (.ireturn, 1) := by decide +kernel
theorem d_LE_setKern_17 : decode b_LE_setKern 17 = .ok (.iload 4, 2) := by decide +kernel
theorem d_LE_setKern_19 : decode b_LE_setKern 19 = .ok (.aload_n 0, 1) := by decide +kernel
theorem d_LE_setKern_20 : decode b_LE_setKern 20 = .ok (.getfield 28, 3) := by decide +kernel
theorem d_LE_setKern_23 : decode b_LE_setKern 23 = .ok (.if_icmp .ne 29, 3) := by decide +kernel
theorem d_LE_setKern_26 : decode b_LE_setKern 26 = .ok (.aload_n 0, 1) := by decide +kernel
theorem d_LE_setKern_27 : decode b_LE_setKern 27 = .ok (.getfield 15, 3) := by decide +kernel
theorem d_LE_setKern_30 : decode b_LE_setKern 30 = .ok (.iload 4, 2) := by decide +kernel
theorem d_LE_setKern_32 : decode b_LE_setKern 32 = .ok (.iload_n 1, 1) := by decide +kernel
theorem d_LE_setKern_33 : decode b_LE_setKern 33 = .ok (.iastore, 1) := by decide +kernel
theorem d_LE_setKern_34 : decode b_LE_setKern 34 = .ok (.aload_n 0, 1) := by decide +kernel
theorem d_LE_setKern_35 : decode b_LE_setKern 35 = .ok (.getfield 18, 3) := by decide +kernel
theorem d_LE_setKern_38 : decode b_LE_setKern 38 = .ok (.iload 4, 2) := by decide +kernel
theorem d_LE_setKern_40 : decode b_LE_setKern 40 = .ok (.iload_n 2, 1) := by decide +kernel
theorem d_LE_setKern_41 : decode b_LE_setKern 41 = .ok (.iastore, 1) := by decide +kernel
theorem d_LE_setKern_42 : decode b_LE_setKern 42 = .ok (.aload_n 0, 1) := by decide +kernel
theorem d_LE_setKern_43 : decode b_LE_setKern 43 = .ok (.dup, 1) := by decide +kernel
theorem d_LE_setKern_44 : decode b_LE_setKern 44 = .ok (.getfield 28, 3) := by decide +kernel
theorem d_LE_setKern_47 : decode b_LE_setKern 47 = .ok (.iconst 1, 1) := by decide +kernel
theorem d_LE_setKern_48 : decode b_LE_setKern 48 = .ok (.iadd, 1) := by decide +kernel
theorem d_LE_setKern_49 : decode b_LE_setKern 49 = .ok (.putfield 28, 3) := by decide +kernel
theorem d_LE_setKern_52 : decode b_LE_setKern 52 = .ok (.aload_n 0, 1) := by decide +kernel
theorem d_LE_setKern_53 : decode b_LE_setKern 53 = .ok (.getfield 21, 3) := by decide +kernel
theorem d_LE_setKern_56 : decode b_LE_setKern 56 = .ok (.iload 4, 2) := by decide +kernel
theorem d_LE_setKern_58 : decode b_LE_setKern 58 = .ok (.iload_n 3, 1) := by decide +kernel
theorem d_LE_setKern_59 : decode b_LE_setKern 59 = .ok (.iastore, 1) := by decide +kernel
theorem d_LE_setKern_60 : decode b_LE_setKern 60 = .ok (.iconst 1, 1) := by decide +kernel
theorem d_LE_setKern_61 : decode b_LE_setKern 61 = .ok (.ireturn, 1) := by decide +kernel
theorem d_LE_fieldOf_0 : decode b_LE_fieldOf 0 = .ok (.aload_n 0, 1) := by decide +kernel
theorem d_LE_fieldOf_1 : decode b_LE_fieldOf 1 = .ok (.aload_n 1, 1) := by decide +kernel
theorem d_LE_fieldOf_2 : decode b_LE_fieldOf 2 = .ok (.aload_n 1, 1) := by decide +kernel
theorem d_LE_fieldOf_3 : decode b_LE_fieldOf 3 = .ok (.getfield 32, 3) := by decide +kernel
theorem d_LE_fieldOf_6 : decode b_LE_fieldOf 6 = .ok (.invokevirtual 37, 3) := by decide +kernel
theorem d_LE_fieldOf_9 : decode b_LE_fieldOf 9 = .ok (.ireturn, 1) := by decide +kernel
theorem d_LE_startOf_0 : decode b_LE_startOf 0 = .ok (.iconst 0, 1) := by decide +kernel
theorem d_LE_startOf_1 : decode b_LE_startOf 1 = .ok (.istore_n 3, 1) := by decide +kernel
theorem d_LE_startOf_2 : decode b_LE_startOf 2 = .ok (.iconst 0, 1) := by decide +kernel
theorem d_LE_startOf_3 : decode b_LE_startOf 3 = .ok (.istore 4, 2) := by decide +kernel
theorem d_LE_startOf_5 : decode b_LE_startOf 5 = .ok (.iload 4, 2) := by decide +kernel
theorem d_LE_startOf_7 : decode b_LE_startOf 7 = .ok (.iload_n 2, 1) := by decide +kernel
theorem d_LE_startOf_8 : decode b_LE_startOf 8 = .ok (.if_icmp .ge 61, 3) := by decide +kernel
theorem d_LE_startOf_11 : decode b_LE_startOf 11 = .ok (.iload_n 3, 1) := by decide +kernel
theorem d_LE_startOf_12 : decode b_LE_startOf 12 = .ok (.aload_n 0, 1) := by decide +kernel
theorem d_LE_startOf_13 : decode b_LE_startOf 13 = .ok (.getfield 9, 3) := by decide +kernel
theorem d_LE_startOf_16 : decode b_LE_startOf 16 = .ok (.aload_n 1, 1) := by decide +kernel
theorem d_LE_startOf_17 : decode b_LE_startOf 17 = .ok (.getfield 41, 3) := by decide +kernel
theorem d_LE_startOf_20 : decode b_LE_startOf 20 = .ok (.iload 4, 2) := by decide +kernel
theorem d_LE_startOf_22 : decode b_LE_startOf 22 = .ok (.iaload, 1) := by decide +kernel
theorem d_LE_startOf_23 : decode b_LE_startOf 23 = .ok (.bipush 32, 2) := by decide +kernel
theorem d_LE_startOf_25 : decode b_LE_startOf 25 = .ok (.isub, 1) := by decide +kernel
theorem d_LE_startOf_26 : decode b_LE_startOf 26 = .ok (.iaload, 1) := by decide +kernel
theorem d_LE_startOf_27 : decode b_LE_startOf 27 = .ok (.iadd, 1) := by decide +kernel
theorem d_LE_startOf_28 : decode b_LE_startOf 28 = .ok (.istore_n 3, 1) := by decide +kernel
theorem d_LE_startOf_29 : decode b_LE_startOf 29 = .ok (.iload 4, 2) := by decide +kernel
theorem d_LE_startOf_31 : decode b_LE_startOf 31 = .ok (.iconst 1, 1) := by decide +kernel
theorem d_LE_startOf_32 : decode b_LE_startOf 32 = .ok (.iadd, 1) := by decide +kernel
theorem d_LE_startOf_33 : decode b_LE_startOf 33 = .ok (.aload_n 1, 1) := by decide +kernel
theorem d_LE_startOf_34 : decode b_LE_startOf 34 = .ok (.getfield 32, 3) := by decide +kernel
theorem d_LE_startOf_37 : decode b_LE_startOf 37 = .ok (.if_icmp .ge 26, 3) := by decide +kernel
theorem d_LE_startOf_40 : decode b_LE_startOf 40 = .ok (.iload_n 3, 1) := by decide +kernel
theorem d_LE_startOf_41 : decode b_LE_startOf 41 = .ok (.aload_n 0, 1) := by decide +kernel
theorem d_LE_startOf_42 : decode b_LE_startOf 42 = .ok (.aload_n 1, 1) := by decide +kernel
theorem d_LE_startOf_43 : decode b_LE_startOf 43 = .ok (.getfield 41, 3) := by decide +kernel
theorem d_LE_startOf_46 : decode b_LE_startOf 46 = .ok (.iload 4, 2) := by decide +kernel
theorem d_LE_startOf_48 : decode b_LE_startOf 48 = .ok (.iaload, 1) := by decide +kernel
theorem d_LE_startOf_49 : decode b_LE_startOf 49 = .ok (.aload_n 1, 1) := by decide +kernel
theorem d_LE_startOf_50 : decode b_LE_startOf 50 = .ok (.getfield 41, 3) := by decide +kernel
theorem d_LE_startOf_53 : decode b_LE_startOf 53 = .ok (.iload 4, 2) := by decide +kernel
theorem d_LE_startOf_55 : decode b_LE_startOf 55 = .ok (.iconst 1, 1) := by decide +kernel
theorem d_LE_startOf_56 : decode b_LE_startOf 56 = .ok (.iadd, 1) := by decide +kernel
theorem d_LE_startOf_57 : decode b_LE_startOf 57 = .ok (.iaload, 1) := by decide +kernel
theorem d_LE_startOf_58 : decode b_LE_startOf 58 = .ok (.invokevirtual 44, 3) := by decide +kernel
theorem d_LE_startOf_61 : decode b_LE_startOf 61 = .ok (.iadd, 1) := by decide +kernel
theorem d_LE_startOf_62 : decode b_LE_startOf 62 = .ok (.istore_n 3, 1) := by decide +kernel
theorem d_LE_startOf_63 : decode b_LE_startOf 63 = .ok (.iinc 4 1, 3) := by decide +kernel
theorem d_LE_startOf_66 : decode b_LE_startOf 66 = .ok (.goto (-61), 3) := by decide +kernel
theorem d_LE_startOf_69 : decode b_LE_startOf 69 = .ok (.iload_n 3, 1) := by decide +kernel
theorem d_LE_startOf_70 : decode b_LE_startOf 70 = .ok (.ireturn, 1) := by decide +kernel
theorem d_LE_kernOf_0 : decode b_LE_kernOf 0 = .ok (.aload_n 0, 1) := by decide +kernel
theorem d_LE_kernOf_1 : decode b_LE_kernOf 1 = .ok (.iload_n 1, 1) := by decide +kernel
theorem d_LE_kernOf_2 : decode b_LE_kernOf 2 = .ok (.iload_n 2, 1) := by decide +kernel
theorem d_LE_kernOf_3 : decode b_LE_kernOf 3 = .ok (.invokevirtual 24, 3) := by decide +kernel
theorem d_LE_kernOf_6 : decode b_LE_kernOf 6 = .ok (.istore_n 3, 1) := by decide +kernel
theorem d_LE_kernOf_7 : decode b_LE_kernOf 7 = .ok (.iload_n 3, 1) := by decide +kernel
theorem d_LE_kernOf_8 : decode b_LE_kernOf 8 = .ok (.aload_n 0, 1) := by decide +kernel
theorem d_LE_kernOf_9 : decode b_LE_kernOf 9 = .ok (.getfield 28, 3) := by decide +kernel
theorem d_LE_kernOf_12 : decode b_LE_kernOf 12 = .ok (.if_icmp .ge 12, 3) := by decide +kernel
theorem d_LE_kernOf_15 : decode b_LE_kernOf 15 = .ok (.aload_n 0, 1) := by decide +kernel
theorem d_LE_kernOf_16 : decode b_LE_kernOf 16 = .ok (.getfield 21, 3) := by decide +kernel
theorem d_LE_kernOf_19 : decode b_LE_kernOf 19 = .ok (.iload_n 3, 1) := by decide +kernel
theorem d_LE_kernOf_20 : decode b_LE_kernOf 20 = .ok (.iaload, 1) := by decide +kernel
theorem d_LE_kernOf_21 : decode b_LE_kernOf 21 = .ok (.goto 4, 3) := by decide +kernel
theorem d_LE_kernOf_24 : decode b_LE_kernOf 24 = .ok (.iconst 0, 1) := by decide +kernel
theorem d_LE_kernOf_25 : decode b_LE_kernOf 25 = .ok (.ireturn, 1) := by decide +kernel
theorem d_LE_pairOf_0 : decode b_LE_pairOf 0 = .ok (.iconst 0, 1) := by decide +kernel
theorem d_LE_pairOf_1 : decode b_LE_pairOf 1 = .ok (.istore_n 3, 1) := by decide +kernel
theorem d_LE_pairOf_2 : decode b_LE_pairOf 2 = .ok (.iload_n 3, 1) := by decide +kernel
theorem d_LE_pairOf_3 : decode b_LE_pairOf 3 = .ok (.aload_n 0, 1) := by decide +kernel
theorem d_LE_pairOf_4 : decode b_LE_pairOf 4 = .ok (.getfield 28, 3) := by decide +kernel
theorem d_LE_pairOf_7 : decode b_LE_pairOf 7 = .ok (.if_icmp .ge 29, 3) := by decide +kernel
theorem d_LE_pairOf_10 : decode b_LE_pairOf 10 = .ok (.aload_n 0, 1) := by decide +kernel
theorem d_LE_pairOf_11 : decode b_LE_pairOf 11 = .ok (.getfield 15, 3) := by decide +kernel
theorem d_LE_pairOf_14 : decode b_LE_pairOf 14 = .ok (.iload_n 3, 1) := by decide +kernel
theorem d_LE_pairOf_15 : decode b_LE_pairOf 15 = .ok (.iaload, 1) := by decide +kernel
theorem d_LE_pairOf_16 : decode b_LE_pairOf 16 = .ok (.iload_n 1, 1) := by decide +kernel
theorem d_LE_pairOf_17 : decode b_LE_pairOf 17 = .ok (.if_icmp .ne 13, 3) := by decide +kernel
theorem d_LE_pairOf_20 : decode b_LE_pairOf 20 = .ok (.aload_n 0, 1) := by decide +kernel
theorem d_LE_pairOf_21 : decode b_LE_pairOf 21 = .ok (.getfield 18, 3) := by decide +kernel
theorem d_LE_pairOf_24 : decode b_LE_pairOf 24 = .ok (.iload_n 3, 1) := by decide +kernel
theorem d_LE_pairOf_25 : decode b_LE_pairOf 25 = .ok (.iaload, 1) := by decide +kernel
theorem d_LE_pairOf_26 : decode b_LE_pairOf 26 = .ok (.iload_n 2, 1) := by decide +kernel
theorem d_LE_pairOf_27 : decode b_LE_pairOf 27 = .ok (.if_icmp .eq 9, 3) := by decide +kernel
theorem d_LE_pairOf_30 : decode b_LE_pairOf 30 = .ok (.iinc 3 1, 3) := by decide +kernel
theorem d_LE_pairOf_33 : decode b_LE_pairOf 33 = .ok (.goto (-31), 3) := by decide +kernel
theorem d_LE_pairOf_36 : decode b_LE_pairOf 36 = .ok (.iload_n 3, 1) := by decide +kernel
theorem d_LE_pairOf_37 : decode b_LE_pairOf 37 = .ok (.ireturn, 1) := by decide +kernel
