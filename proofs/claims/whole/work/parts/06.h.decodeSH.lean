theorem d_SH_init_0 : decode b_SH_init 0 = .ok (.aload_n 0, 1) := by decide +kernel
theorem d_SH_init_1 : decode b_SH_init 1 = .ok (.invokespecial 3, 3) := by decide +kernel
theorem d_SH_init_4 : decode b_SH_init 4 = .ok (.aload_n 0, 1) := by decide +kernel
theorem d_SH_init_5 : decode b_SH_init 5 = .ok (.iconst 5, 1) := by decide +kernel
theorem d_SH_init_6 : decode b_SH_init 6 = .ok (.newarray .int, 2) := by decide +kernel
theorem d_SH_init_8 : decode b_SH_init 8 = .ok (.putfield 9, 3) := by decide +kernel
theorem d_SH_init_11 : decode b_SH_init 11 = .ok (.aload_n 0, 1) := by decide +kernel
theorem d_SH_init_12 : decode b_SH_init 12 = .ok (.aload_n 1, 1) := by decide +kernel
theorem d_SH_init_13 : decode b_SH_init 13 = .ok (.putfield 15, 3) := by decide +kernel
theorem d_SH_init_16 : decode b_SH_init 16 = .ok (.aload_n 0, 1) := by decide +kernel
theorem d_SH_init_17 : decode b_SH_init 17 = .ok (.aload_n 2, 1) := by decide +kernel
theorem d_SH_init_18 : decode b_SH_init 18 = .ok (.putfield 19, 3) := by decide +kernel
theorem d_SH_init_21 : decode b_SH_init 21 = .ok (.return_, 1) := by decide +kernel
theorem d_SH_lay_0 : decode b_SH_lay 0 = .ok (.aload_n 0, 1) := by decide +kernel
theorem d_SH_lay_1 : decode b_SH_lay 1 = .ok (.aload_n 1, 1) := by decide +kernel
theorem d_SH_lay_2 : decode b_SH_lay 2 = .ok (.putfield 23, 3) := by decide +kernel
theorem d_SH_lay_5 : decode b_SH_lay 5 = .ok (.aload_n 0, 1) := by decide +kernel
theorem d_SH_lay_6 : decode b_SH_lay 6 = .ok (.aload_n 2, 1) := by decide +kernel
theorem d_SH_lay_7 : decode b_SH_lay 7 = .ok (.iload_n 3, 1) := by decide +kernel
theorem d_SH_lay_8 : decode b_SH_lay 8 = .ok (.invokevirtual 27, 3) := by decide +kernel
theorem d_SH_lay_11 : decode b_SH_lay 11 = .ok (.putfield 33, 3) := by decide +kernel
theorem d_SH_lay_14 : decode b_SH_lay 14 = .ok (.aload_n 0, 1) := by decide +kernel
theorem d_SH_lay_15 : decode b_SH_lay 15 = .ok (.aload_n 0, 1) := by decide +kernel
theorem d_SH_lay_16 : decode b_SH_lay 16 = .ok (.getfield 33, 3) := by decide +kernel
theorem d_SH_lay_19 : decode b_SH_lay 19 = .ok (.bipush 16, 2) := by decide +kernel
theorem d_SH_lay_21 : decode b_SH_lay 21 = .ok (.imul, 1) := by decide +kernel
theorem d_SH_lay_22 : decode b_SH_lay 22 = .ok (.putfield 37, 3) := by decide +kernel
theorem d_SH_lay_25 : decode b_SH_lay 25 = .ok (.aload_n 0, 1) := by decide +kernel
theorem d_SH_lay_26 : decode b_SH_lay 26 = .ok (.aload_n 2, 1) := by decide +kernel
theorem d_SH_lay_27 : decode b_SH_lay 27 = .ok (.getfield 40, 3) := by decide +kernel
theorem d_SH_lay_30 : decode b_SH_lay 30 = .ok (.bipush 16, 2) := by decide +kernel
theorem d_SH_lay_32 : decode b_SH_lay 32 = .ok (.imul, 1) := by decide +kernel
theorem d_SH_lay_33 : decode b_SH_lay 33 = .ok (.putfield 43, 3) := by decide +kernel
theorem d_SH_lay_36 : decode b_SH_lay 36 = .ok (.aload_n 0, 1) := by decide +kernel
theorem d_SH_lay_37 : decode b_SH_lay 37 = .ok (.aload_n 2, 1) := by decide +kernel
theorem d_SH_lay_38 : decode b_SH_lay 38 = .ok (.getfield 44, 3) := by decide +kernel
theorem d_SH_lay_41 : decode b_SH_lay 41 = .ok (.bipush 16, 2) := by decide +kernel
theorem d_SH_lay_43 : decode b_SH_lay 43 = .ok (.imul, 1) := by decide +kernel
theorem d_SH_lay_44 : decode b_SH_lay 44 = .ok (.putfield 47, 3) := by decide +kernel
theorem d_SH_lay_47 : decode b_SH_lay 47 = .ok (.iconst 0, 1) := by decide +kernel
theorem d_SH_lay_48 : decode b_SH_lay 48 = .ok (.istore 4, 2) := by decide +kernel
theorem d_SH_lay_50 : decode b_SH_lay 50 = .ok (.iconst 0, 1) := by decide +kernel
theorem d_SH_lay_51 : decode b_SH_lay 51 = .ok (.istore 5, 2) := by decide +kernel
theorem d_SH_lay_53 : decode b_SH_lay 53 = .ok (.iload 5, 2) := by decide +kernel
theorem d_SH_lay_55 : decode b_SH_lay 55 = .ok (.aload_n 0, 1) := by decide +kernel
theorem d_SH_lay_56 : decode b_SH_lay 56 = .ok (.getfield 23, 3) := by decide +kernel
theorem d_SH_lay_59 : decode b_SH_lay 59 = .ok (.getfield 48, 3) := by decide +kernel
theorem d_SH_lay_62 : decode b_SH_lay 62 = .ok (.if_icmp .ge 61, 3) := by decide +kernel
theorem d_SH_lay_65 : decode b_SH_lay 65 = .ok (.aload_n 0, 1) := by decide +kernel
theorem d_SH_lay_66 : decode b_SH_lay 66 = .ok (.getfield 9, 3) := by decide +kernel
theorem d_SH_lay_69 : decode b_SH_lay 69 = .ok (.iload 5, 2) := by decide +kernel
theorem d_SH_lay_71 : decode b_SH_lay 71 = .ok (.aload_n 0, 1) := by decide +kernel
theorem d_SH_lay_72 : decode b_SH_lay 72 = .ok (.getfield 19, 3) := by decide +kernel
theorem d_SH_lay_75 : decode b_SH_lay 75 = .ok (.aload_n 0, 1) := by decide +kernel
theorem d_SH_lay_76 : decode b_SH_lay 76 = .ok (.iload 5, 2) := by decide +kernel
theorem d_SH_lay_78 : decode b_SH_lay 78 = .ok (.invokevirtual 53, 3) := by decide +kernel
theorem d_SH_lay_81 : decode b_SH_lay 81 = .ok (.invokevirtual 57, 3) := by decide +kernel
theorem d_SH_lay_84 : decode b_SH_lay 84 = .ok (.aload_n 0, 1) := by decide +kernel
theorem d_SH_lay_85 : decode b_SH_lay 85 = .ok (.getfield 33, 3) := by decide +kernel
theorem d_SH_lay_88 : decode b_SH_lay 88 = .ok (.imul, 1) := by decide +kernel
theorem d_SH_lay_89 : decode b_SH_lay 89 = .ok (.iastore, 1) := by decide +kernel
theorem d_SH_lay_90 : decode b_SH_lay 90 = .ok (.iload 5, 2) := by decide +kernel
theorem d_SH_lay_92 : decode b_SH_lay 92 = .ok (.ifCond .ne 12, 3) := by decide +kernel
theorem d_SH_lay_95 : decode b_SH_lay 95 = .ok (.aload_n 0, 1) := by decide +kernel
theorem d_SH_lay_96 : decode b_SH_lay 96 = .ok (.iload 5, 2) := by decide +kernel
theorem d_SH_lay_98 : decode b_SH_lay 98 = .ok (.invokevirtual 63, 3) := by decide +kernel
theorem d_SH_lay_101 : decode b_SH_lay 101 = .ok (.goto 14, 3) := by decide +kernel
theorem d_SH_lay_104 : decode b_SH_lay 104 = .ok (.iload 4, 2) := by decide +kernel
theorem d_SH_lay_106 : decode b_SH_lay 106 = .ok (.aload_n 0, 1) := by decide +kernel
theorem d_SH_lay_107 : decode b_SH_lay 107 = .ok (.iload 5, 2) := by decide +kernel
theorem d_SH_lay_109 : decode b_SH_lay 109 = .ok (.invokevirtual 63, 3) := by decide +kernel
theorem d_SH_lay_112 : decode b_SH_lay 112 = .ok (.invokestatic 66, 3) := by decide +kernel
theorem d_SH_lay_115 : decode b_SH_lay 115 = .ok (.istore 4, 2) := by decide +kernel
theorem d_SH_lay_117 : decode b_SH_lay 117 = .ok (.iinc 5 1, 3) := by decide +kernel
theorem d_SH_lay_120 : decode b_SH_lay 120 = .ok (.goto (-67), 3) := by decide +kernel
theorem d_SH_lay_123 : decode b_SH_lay 123 = .ok (.aload_n 0, 1) := by decide +kernel
theorem d_SH_lay_124 : decode b_SH_lay 124 = .ok (.iload 4, 2) := by decide +kernel
theorem d_SH_lay_126 : decode b_SH_lay 126 = .ok (.iconst 2, 1) := by decide +kernel
theorem d_SH_lay_127 : decode b_SH_lay 127 = .ok (.aload_n 0, 1) := by decide +kernel
theorem d_SH_lay_128 : decode b_SH_lay 128 = .ok (.getfield 43, 3) := by decide +kernel
theorem d_SH_lay_131 : decode b_SH_lay 131 = .ok (.imul, 1) := by decide +kernel
theorem d_SH_lay_132 : decode b_SH_lay 132 = .ok (.iadd, 1) := by decide +kernel
theorem d_SH_lay_133 : decode b_SH_lay 133 = .ok (.aload_n 0, 1) := by decide +kernel
theorem d_SH_lay_134 : decode b_SH_lay 134 = .ok (.getfield 23, 3) := by decide +kernel
theorem d_SH_lay_137 : decode b_SH_lay 137 = .ok (.getfield 72, 3) := by decide +kernel
theorem d_SH_lay_140 : decode b_SH_lay 140 = .ok (.bipush 16, 2) := by decide +kernel
theorem d_SH_lay_142 : decode b_SH_lay 142 = .ok (.imul, 1) := by decide +kernel
theorem d_SH_lay_143 : decode b_SH_lay 143 = .ok (.invokestatic 66, 3) := by decide +kernel
theorem d_SH_lay_146 : decode b_SH_lay 146 = .ok (.putfield 75, 3) := by decide +kernel
theorem d_SH_lay_149 : decode b_SH_lay 149 = .ok (.return_, 1) := by decide +kernel
theorem d_SH_fullHeight_0 : decode b_SH_fullHeight 0 = .ok (.aload_n 0, 1) := by decide +kernel
theorem d_SH_fullHeight_1 : decode b_SH_fullHeight 1 = .ok (.getfield 23, 3) := by decide +kernel
theorem d_SH_fullHeight_4 : decode b_SH_fullHeight 4 = .ok (.getfield 48, 3) := by decide +kernel
theorem d_SH_fullHeight_7 : decode b_SH_fullHeight 7 = .ok (.iconst 1, 1) := by decide +kernel
theorem d_SH_fullHeight_8 : decode b_SH_fullHeight 8 = .ok (.isub, 1) := by decide +kernel
theorem d_SH_fullHeight_9 : decode b_SH_fullHeight 9 = .ok (.iconst 0, 1) := by decide +kernel
theorem d_SH_fullHeight_10 : decode b_SH_fullHeight 10 = .ok (.invokestatic 66, 3) := by decide +kernel
theorem d_SH_fullHeight_13 : decode b_SH_fullHeight 13 = .ok (.istore_n 1, 1) := by decide +kernel
theorem d_SH_fullHeight_14 : decode b_SH_fullHeight 14 = .ok (.aload_n 0, 1) := by decide +kernel
theorem d_SH_fullHeight_15 : decode b_SH_fullHeight 15 = .ok (.getfield 23, 3) := by decide +kernel
theorem d_SH_fullHeight_18 : decode b_SH_fullHeight 18 = .ok (.getfield 48, 3) := by decide +kernel
theorem d_SH_fullHeight_21 : decode b_SH_fullHeight 21 = .ok (.aload_n 0, 1) := by decide +kernel
theorem d_SH_fullHeight_22 : decode b_SH_fullHeight 22 = .ok (.getfield 37, 3) := by decide +kernel
theorem d_SH_fullHeight_25 : decode b_SH_fullHeight 25 = .ok (.imul, 1) := by decide +kernel
theorem d_SH_fullHeight_26 : decode b_SH_fullHeight 26 = .ok (.iload_n 1, 1) := by decide +kernel
theorem d_SH_fullHeight_27 : decode b_SH_fullHeight 27 = .ok (.aload_n 0, 1) := by decide +kernel
theorem d_SH_fullHeight_28 : decode b_SH_fullHeight 28 = .ok (.getfield 47, 3) := by decide +kernel
theorem d_SH_fullHeight_31 : decode b_SH_fullHeight 31 = .ok (.imul, 1) := by decide +kernel
theorem d_SH_fullHeight_32 : decode b_SH_fullHeight 32 = .ok (.iadd, 1) := by decide +kernel
theorem d_SH_fullHeight_33 : decode b_SH_fullHeight 33 = .ok (.iconst 2, 1) := by decide +kernel
theorem d_SH_fullHeight_34 : decode b_SH_fullHeight 34 = .ok (.aload_n 0, 1) := by decide +kernel
theorem d_SH_fullHeight_35 : decode b_SH_fullHeight 35 = .ok (.getfield 43, 3) := by decide +kernel
theorem d_SH_fullHeight_38 : decode b_SH_fullHeight 38 = .ok (.imul, 1) := by decide +kernel
theorem d_SH_fullHeight_39 : decode b_SH_fullHeight 39 = .ok (.iadd, 1) := by decide +kernel
theorem d_SH_fullHeight_40 : decode b_SH_fullHeight 40 = .ok (.ireturn, 1) := by decide +kernel
theorem d_SH_itemOf_0 : decode b_SH_itemOf 0 = .ok (.iload 4, 2) := by decide +kernel
theorem d_SH_itemOf_2 : decode b_SH_itemOf 2 = .ok (.tableswitch 97 0 2 #[26, 59, 80], 26) := by decide +kernel
theorem d_SH_itemOf_28 : decode b_SH_itemOf 28 = .ok (.iload_n 3, 1) := by decide +kernel
theorem d_SH_itemOf_29 : decode b_SH_itemOf 29 = .ok (.ifCond .ne 19, 3) := by decide +kernel
theorem d_SH_itemOf_32 : decode b_SH_itemOf 32 = .ok (.sipush 200, 3) := by decide +kernel
theorem d_SH_itemOf_35 : decode b_SH_itemOf 35 = .ok (.aload_n 0, 1) := by decide +kernel
theorem d_SH_itemOf_36 : decode b_SH_itemOf 36 = .ok (.getfield 23, 3) := by decide +kernel
theorem d_SH_itemOf_39 : decode b_SH_itemOf 39 = .ok (.getfield 78, 3) := by decide +kernel
theorem d_SH_itemOf_42 : decode b_SH_itemOf 42 = .ok (.iload_n 1, 1) := by decide +kernel
theorem d_SH_itemOf_43 : decode b_SH_itemOf 43 = .ok (.iaload, 1) := by decide +kernel
theorem d_SH_itemOf_44 : decode b_SH_itemOf 44 = .ok (.iadd, 1) := by decide +kernel
theorem d_SH_itemOf_45 : decode b_SH_itemOf 45 = .ok (.goto 15, 3) := by decide +kernel
theorem d_SH_itemOf_48 : decode b_SH_itemOf 48 = .ok (.aload_n 0, 1) := by decide +kernel
theorem d_SH_itemOf_49 : decode b_SH_itemOf 49 = .ok (.iload_n 1, 1) := by decide +kernel
theorem d_SH_itemOf_50 : decode b_SH_itemOf 50 = .ok (.invokevirtual 53, 3) := by decide +kernel
theorem d_SH_itemOf_53 : decode b_SH_itemOf 53 = .ok (.getfield 81, 3) := by decide +kernel
theorem d_SH_itemOf_56 : decode b_SH_itemOf 56 = .ok (.iload_n 3, 1) := by decide +kernel
theorem d_SH_itemOf_57 : decode b_SH_itemOf 57 = .ok (.iconst 1, 1) := by decide +kernel
theorem d_SH_itemOf_58 : decode b_SH_itemOf 58 = .ok (.isub, 1) := by decide +kernel
theorem d_SH_itemOf_59 : decode b_SH_itemOf 59 = .ok (.iaload, 1) := by decide +kernel
theorem d_SH_itemOf_60 : decode b_SH_itemOf 60 = .ok (.ireturn, 1) := by decide +kernel
theorem d_SH_itemOf_61 : decode b_SH_itemOf 61 = .ok (.iload_n 3, 1) := by decide +kernel
theorem d_SH_itemOf_62 : decode b_SH_itemOf 62 = .ok (.ifCond .ne 11, 3) := by decide +kernel
theorem d_SH_itemOf_65 : decode b_SH_itemOf 65 = .ok (.aload_n 0, 1) := by decide +kernel
theorem d_SH_itemOf_66 : decode b_SH_itemOf 66 = .ok (.iload_n 1, 1) := by decide +kernel
theorem d_SH_itemOf_67 : decode b_SH_itemOf 67 = .ok (.invokevirtual 86, 3) := by decide +kernel
theorem d_SH_itemOf_70 : decode b_SH_itemOf 70 = .ok (.goto 11, 3) := by decide +kernel
theorem d_SH_itemOf_73 : decode b_SH_itemOf 73 = .ok (.aload_n 0, 1) := by decide +kernel
theorem d_SH_itemOf_74 : decode b_SH_itemOf 74 = .ok (.iload_n 1, 1) := by decide +kernel
theorem d_SH_itemOf_75 : decode b_SH_itemOf 75 = .ok (.iload_n 3, 1) := by decide +kernel
theorem d_SH_itemOf_76 : decode b_SH_itemOf 76 = .ok (.iconst 1, 1) := by decide +kernel
theorem d_SH_itemOf_77 : decode b_SH_itemOf 77 = .ok (.isub, 1) := by decide +kernel
theorem d_SH_itemOf_78 : decode b_SH_itemOf 78 = .ok (.invokevirtual 89, 3) := by decide +kernel
theorem d_SH_itemOf_81 : decode b_SH_itemOf 81 = .ok (.ireturn, 1) := by decide +kernel
theorem d_SH_itemOf_82 : decode b_SH_itemOf 82 = .ok (.aload_n 0, 1) := by decide +kernel
theorem d_SH_itemOf_83 : decode b_SH_itemOf 83 = .ok (.getfield 43, 3) := by decide +kernel
theorem d_SH_itemOf_86 : decode b_SH_itemOf 86 = .ok (.iload_n 2, 1) := by decide +kernel
theorem d_SH_itemOf_87 : decode b_SH_itemOf 87 = .ok (.aload_n 0, 1) := by decide +kernel
theorem d_SH_itemOf_88 : decode b_SH_itemOf 88 = .ok (.getfield 37, 3) := by decide +kernel
theorem d_SH_itemOf_91 : decode b_SH_itemOf 91 = .ok (.aload_n 0, 1) := by decide +kernel
theorem d_SH_itemOf_92 : decode b_SH_itemOf 92 = .ok (.getfield 47, 3) := by decide +kernel
theorem d_SH_itemOf_95 : decode b_SH_itemOf 95 = .ok (.iadd, 1) := by decide +kernel
theorem d_SH_itemOf_96 : decode b_SH_itemOf 96 = .ok (.imul, 1) := by decide +kernel
theorem d_SH_itemOf_97 : decode b_SH_itemOf 97 = .ok (.iadd, 1) := by decide +kernel
theorem d_SH_itemOf_98 : decode b_SH_itemOf 98 = .ok (.ireturn, 1) := by decide +kernel
theorem d_SH_itemOf_99 : decode b_SH_itemOf 99 = .ok (.iconst (-1), 1) := by decide +kernel
theorem d_SH_itemOf_100 : decode b_SH_itemOf 100 = .ok (.ireturn, 1) := by decide +kernel
theorem d_SH_nameOf_0 : decode b_SH_nameOf 0 = .ok (.aload_n 0, 1) := by decide +kernel
theorem d_SH_nameOf_1 : decode b_SH_nameOf 1 = .ok (.getfield 15, 3) := by decide +kernel
theorem d_SH_nameOf_4 : decode b_SH_nameOf 4 = .ok (.aload_n 0, 1) := by decide +kernel
theorem d_SH_nameOf_5 : decode b_SH_nameOf 5 = .ok (.getfield 23, 3) := by decide +kernel
theorem d_SH_nameOf_8 : decode b_SH_nameOf 8 = .ok (.getfield 92, 3) := by decide +kernel
theorem d_SH_nameOf_11 : decode b_SH_nameOf 11 = .ok (.iload_n 1, 1) := by decide +kernel
theorem d_SH_nameOf_12 : decode b_SH_nameOf 12 = .ok (.iaload, 1) := by decide +kernel
theorem d_SH_nameOf_13 : decode b_SH_nameOf 13 = .ok (.aaload, 1) := by decide +kernel
theorem d_SH_nameOf_14 : decode b_SH_nameOf 14 = .ok (.areturn, 1) := by decide +kernel
theorem d_SH_lineWidth_0 : decode b_SH_lineWidth 0 = .ok (.aload_n 0, 1) := by decide +kernel
theorem d_SH_lineWidth_1 : decode b_SH_lineWidth 1 = .ok (.getfield 9, 3) := by decide +kernel
theorem d_SH_lineWidth_4 : decode b_SH_lineWidth 4 = .ok (.iload_n 1, 1) := by decide +kernel
theorem d_SH_lineWidth_5 : decode b_SH_lineWidth 5 = .ok (.iaload, 1) := by decide +kernel
theorem d_SH_lineWidth_6 : decode b_SH_lineWidth 6 = .ok (.aload_n 0, 1) := by decide +kernel
theorem d_SH_lineWidth_7 : decode b_SH_lineWidth 7 = .ok (.getfield 47, 3) := by decide +kernel
theorem d_SH_lineWidth_10 : decode b_SH_lineWidth 10 = .ok (.iadd, 1) := by decide +kernel
theorem d_SH_lineWidth_11 : decode b_SH_lineWidth 11 = .ok (.aload_n 0, 1) := by decide +kernel
theorem d_SH_lineWidth_12 : decode b_SH_lineWidth 12 = .ok (.getfield 37, 3) := by decide +kernel
theorem d_SH_lineWidth_15 : decode b_SH_lineWidth 15 = .ok (.iadd, 1) := by decide +kernel
theorem d_SH_lineWidth_16 : decode b_SH_lineWidth 16 = .ok (.ireturn, 1) := by decide +kernel
theorem d_SH_lineLeft_0 : decode b_SH_lineLeft 0 = .ok (.aload_n 0, 1) := by decide +kernel
theorem d_SH_lineLeft_1 : decode b_SH_lineLeft 1 = .ok (.getfield 75, 3) := by decide +kernel
theorem d_SH_lineLeft_4 : decode b_SH_lineLeft 4 = .ok (.iconst 2, 1) := by decide +kernel
theorem d_SH_lineLeft_5 : decode b_SH_lineLeft 5 = .ok (.aload_n 0, 1) := by decide +kernel
theorem d_SH_lineLeft_6 : decode b_SH_lineLeft 6 = .ok (.getfield 43, 3) := by decide +kernel
theorem d_SH_lineLeft_9 : decode b_SH_lineLeft 9 = .ok (.imul, 1) := by decide +kernel
theorem d_SH_lineLeft_10 : decode b_SH_lineLeft 10 = .ok (.isub, 1) := by decide +kernel
theorem d_SH_lineLeft_11 : decode b_SH_lineLeft 11 = .ok (.aload_n 0, 1) := by decide +kernel
theorem d_SH_lineLeft_12 : decode b_SH_lineLeft 12 = .ok (.iload_n 1, 1) := by decide +kernel
theorem d_SH_lineLeft_13 : decode b_SH_lineLeft 13 = .ok (.invokevirtual 63, 3) := by decide +kernel
theorem d_SH_lineLeft_16 : decode b_SH_lineLeft 16 = .ok (.isub, 1) := by decide +kernel
theorem d_SH_lineLeft_17 : decode b_SH_lineLeft 17 = .ok (.istore_n 2, 1) := by decide +kernel
theorem d_SH_lineLeft_18 : decode b_SH_lineLeft 18 = .ok (.aload_n 0, 1) := by decide +kernel
theorem d_SH_lineLeft_19 : decode b_SH_lineLeft 19 = .ok (.getfield 43, 3) := by decide +kernel
theorem d_SH_lineLeft_22 : decode b_SH_lineLeft 22 = .ok (.iload_n 2, 1) := by decide +kernel
theorem d_SH_lineLeft_23 : decode b_SH_lineLeft 23 = .ok (.iconst 2, 1) := by decide +kernel
theorem d_SH_lineLeft_24 : decode b_SH_lineLeft 24 = .ok (.idiv, 1) := by decide +kernel
theorem d_SH_lineLeft_25 : decode b_SH_lineLeft 25 = .ok (.iadd, 1) := by decide +kernel
theorem d_SH_lineLeft_26 : decode b_SH_lineLeft 26 = .ok (.ireturn, 1) := by decide +kernel
theorem d_SH_arrowLeft_0 : decode b_SH_arrowLeft 0 = .ok (.aload_n 0, 1) := by decide +kernel
theorem d_SH_arrowLeft_1 : decode b_SH_arrowLeft 1 = .ok (.iload_n 1, 1) := by decide +kernel
theorem d_SH_arrowLeft_2 : decode b_SH_arrowLeft 2 = .ok (.invokevirtual 95, 3) := by decide +kernel
theorem d_SH_arrowLeft_5 : decode b_SH_arrowLeft 5 = .ok (.istore_n 2, 1) := by decide +kernel
theorem d_SH_arrowLeft_6 : decode b_SH_arrowLeft 6 = .ok (.aload_n 0, 1) := by decide +kernel
theorem d_SH_arrowLeft_7 : decode b_SH_arrowLeft 7 = .ok (.getfield 23, 3) := by decide +kernel
theorem d_SH_arrowLeft_10 : decode b_SH_arrowLeft 10 = .ok (.getfield 78, 3) := by decide +kernel
theorem d_SH_arrowLeft_13 : decode b_SH_arrowLeft 13 = .ok (.iload_n 1, 1) := by decide +kernel
theorem d_SH_arrowLeft_14 : decode b_SH_arrowLeft 14 = .ok (.iaload, 1) := by decide +kernel
theorem d_SH_arrowLeft_15 : decode b_SH_arrowLeft 15 = .ok (.iconst 2, 1) := by decide +kernel
theorem d_SH_arrowLeft_16 : decode b_SH_arrowLeft 16 = .ok (.if_icmp .ne 19, 3) := by decide +kernel
theorem d_SH_arrowLeft_19 : decode b_SH_arrowLeft 19 = .ok (.iload_n 2, 1) := by decide +kernel
theorem d_SH_arrowLeft_20 : decode b_SH_arrowLeft 20 = .ok (.aload_n 0, 1) := by decide +kernel
theorem d_SH_arrowLeft_21 : decode b_SH_arrowLeft 21 = .ok (.getfield 9, 3) := by decide +kernel
theorem d_SH_arrowLeft_24 : decode b_SH_arrowLeft 24 = .ok (.iload_n 1, 1) := by decide +kernel
theorem d_SH_arrowLeft_25 : decode b_SH_arrowLeft 25 = .ok (.iaload, 1) := by decide +kernel
theorem d_SH_arrowLeft_26 : decode b_SH_arrowLeft 26 = .ok (.iadd, 1) := by decide +kernel
theorem d_SH_arrowLeft_27 : decode b_SH_arrowLeft 27 = .ok (.aload_n 0, 1) := by decide +kernel
theorem d_SH_arrowLeft_28 : decode b_SH_arrowLeft 28 = .ok (.getfield 47, 3) := by decide +kernel
theorem d_SH_arrowLeft_31 : decode b_SH_arrowLeft 31 = .ok (.iadd, 1) := by decide +kernel
theorem d_SH_arrowLeft_32 : decode b_SH_arrowLeft 32 = .ok (.goto 4, 3) := by decide +kernel
theorem d_SH_arrowLeft_35 : decode b_SH_arrowLeft 35 = .ok (.iload_n 2, 1) := by decide +kernel
theorem d_SH_arrowLeft_36 : decode b_SH_arrowLeft 36 = .ok (.ireturn, 1) := by decide +kernel
theorem d_SH_letterLeft_0 : decode b_SH_letterLeft 0 = .ok (.aload_n 0, 1) := by decide +kernel
theorem d_SH_letterLeft_1 : decode b_SH_letterLeft 1 = .ok (.iload_n 1, 1) := by decide +kernel
theorem d_SH_letterLeft_2 : decode b_SH_letterLeft 2 = .ok (.invokevirtual 95, 3) := by decide +kernel
theorem d_SH_letterLeft_5 : decode b_SH_letterLeft 5 = .ok (.aload_n 0, 1) := by decide +kernel
theorem d_SH_letterLeft_6 : decode b_SH_letterLeft 6 = .ok (.getfield 19, 3) := by decide +kernel
theorem d_SH_letterLeft_9 : decode b_SH_letterLeft 9 = .ok (.aload_n 0, 1) := by decide +kernel
theorem d_SH_letterLeft_10 : decode b_SH_letterLeft 10 = .ok (.iload_n 1, 1) := by decide +kernel
theorem d_SH_letterLeft_11 : decode b_SH_letterLeft 11 = .ok (.invokevirtual 53, 3) := by decide +kernel
theorem d_SH_letterLeft_14 : decode b_SH_letterLeft 14 = .ok (.iload_n 2, 1) := by decide +kernel
theorem d_SH_letterLeft_15 : decode b_SH_letterLeft 15 = .ok (.invokevirtual 98, 3) := by decide +kernel
theorem d_SH_letterLeft_18 : decode b_SH_letterLeft 18 = .ok (.aload_n 0, 1) := by decide +kernel
theorem d_SH_letterLeft_19 : decode b_SH_letterLeft 19 = .ok (.getfield 33, 3) := by decide +kernel
theorem d_SH_letterLeft_22 : decode b_SH_letterLeft 22 = .ok (.imul, 1) := by decide +kernel
theorem d_SH_letterLeft_23 : decode b_SH_letterLeft 23 = .ok (.iadd, 1) := by decide +kernel
theorem d_SH_letterLeft_24 : decode b_SH_letterLeft 24 = .ok (.istore_n 3, 1) := by decide +kernel
theorem d_SH_letterLeft_25 : decode b_SH_letterLeft 25 = .ok (.aload_n 0, 1) := by decide +kernel
theorem d_SH_letterLeft_26 : decode b_SH_letterLeft 26 = .ok (.getfield 23, 3) := by decide +kernel
theorem d_SH_letterLeft_29 : decode b_SH_letterLeft 29 = .ok (.getfield 78, 3) := by decide +kernel
theorem d_SH_letterLeft_32 : decode b_SH_letterLeft 32 = .ok (.iload_n 1, 1) := by decide +kernel
theorem d_SH_letterLeft_33 : decode b_SH_letterLeft 33 = .ok (.iaload, 1) := by decide +kernel
theorem d_SH_letterLeft_34 : decode b_SH_letterLeft 34 = .ok (.iconst 2, 1) := by decide +kernel
theorem d_SH_letterLeft_35 : decode b_SH_letterLeft 35 = .ok (.if_icmp .ne 7, 3) := by decide +kernel
theorem d_SH_letterLeft_38 : decode b_SH_letterLeft 38 = .ok (.iload_n 3, 1) := by decide +kernel
theorem d_SH_letterLeft_39 : decode b_SH_letterLeft 39 = .ok (.goto 14, 3) := by decide +kernel
theorem d_SH_letterLeft_42 : decode b_SH_letterLeft 42 = .ok (.iload_n 3, 1) := by decide +kernel
theorem d_SH_letterLeft_43 : decode b_SH_letterLeft 43 = .ok (.aload_n 0, 1) := by decide +kernel
theorem d_SH_letterLeft_44 : decode b_SH_letterLeft 44 = .ok (.getfield 37, 3) := by decide +kernel
theorem d_SH_letterLeft_47 : decode b_SH_letterLeft 47 = .ok (.iadd, 1) := by decide +kernel
theorem d_SH_letterLeft_48 : decode b_SH_letterLeft 48 = .ok (.aload_n 0, 1) := by decide +kernel
theorem d_SH_letterLeft_49 : decode b_SH_letterLeft 49 = .ok (.getfield 47, 3) := by decide +kernel
theorem d_SH_letterLeft_52 : decode b_SH_letterLeft 52 = .ok (.iadd, 1) := by decide +kernel
theorem d_SH_letterLeft_53 : decode b_SH_letterLeft 53 = .ok (.ireturn, 1) := by decide +kernel
