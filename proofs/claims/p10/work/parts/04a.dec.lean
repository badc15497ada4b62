theorem dX0_init_0 : decode cX0_init 0 = .ok (.aload_n 0, 1) := by decide +kernel
theorem dX0_init_1 : decode cX0_init 1 = .ok (.invokespecial 1, 3) := by decide +kernel
theorem dX0_init_4 : decode cX0_init 4 = .ok (.aload_n 0, 1) := by decide +kernel
theorem dX0_init_5 : decode cX0_init 5 = .ok (.iload_n 1, 1) := by decide +kernel
theorem dX0_init_6 : decode cX0_init 6 = .ok (.putfield 7, 3) := by decide +kernel
theorem dX0_init_9 : decode cX0_init 9 = .ok (.aload_n 0, 1) := by decide +kernel
theorem dX0_init_10 : decode cX0_init 10 = .ok (.aload_n 2, 1) := by decide +kernel
theorem dX0_init_11 : decode cX0_init 11 = .ok (.putfield 13, 3) := by decide +kernel
theorem dX0_init_14 : decode cX0_init 14 = .ok (.aload_n 0, 1) := by decide +kernel
theorem dX0_init_15 : decode cX0_init 15 = .ok (.aload_n 3, 1) := by decide +kernel
theorem dX0_init_16 : decode cX0_init 16 = .ok (.putfield 17, 3) := by decide +kernel
theorem dX0_init_19 : decode cX0_init 19 = .ok (.return_, 1) := by decide +kernel
theorem dX1_init_0 : decode cX1_init 0 = .ok (.aload_n 0, 1) := by decide +kernel
theorem dX1_init_1 : decode cX1_init 1 = .ok (.invokespecial 3, 3) := by decide +kernel
theorem dX1_init_4 : decode cX1_init 4 = .ok (.aload_n 0, 1) := by decide +kernel
theorem dX1_init_5 : decode cX1_init 5 = .ok (.aconst_null, 1) := by decide +kernel
theorem dX1_init_6 : decode cX1_init 6 = .ok (.putfield 9, 3) := by decide +kernel
theorem dX1_init_9 : decode cX1_init 9 = .ok (.aload_n 0, 1) := by decide +kernel
theorem dX1_init_10 : decode cX1_init 10 = .ok (.aconst_null, 1) := by decide +kernel
theorem dX1_init_11 : decode cX1_init 11 = .ok (.putfield 15, 3) := by decide +kernel
theorem dX1_init_14 : decode cX1_init 14 = .ok (.aload_n 0, 1) := by decide +kernel
theorem dX1_init_15 : decode cX1_init 15 = .ok (.iconst (-1), 1) := by decide +kernel
theorem dX1_init_16 : decode cX1_init 16 = .ok (.putfield 18, 3) := by decide +kernel
theorem dX1_init_19 : decode cX1_init 19 = .ok (.aload_n 0, 1) := by decide +kernel
theorem dX1_init_20 : decode cX1_init 20 = .ok (.iconst (-1), 1) := by decide +kernel
theorem dX1_init_21 : decode cX1_init 21 = .ok (.putfield 22, 3) := by decide +kernel
theorem dX1_init_24 : decode cX1_init 24 = .ok (.return_, 1) := by decide +kernel
theorem dX1_look_0 : decode cX1_look 0 = .ok (.aconst_null, 1) := by decide +kernel
theorem dX1_look_1 : decode cX1_look 1 = .ok (.astore 5, 2) := by decide +kernel
theorem dX1_look_3 : decode cX1_look 3 = .ok (.aconst_null, 1) := by decide +kernel
theorem dX1_look_4 : decode cX1_look 4 = .ok (.astore 6, 2) := by decide +kernel
theorem dX1_look_6 : decode cX1_look 6 = .ok (.iconst (-1), 1) := by decide +kernel
theorem dX1_look_7 : decode cX1_look 7 = .ok (.istore 7, 2) := by decide +kernel
theorem dX1_look_9 : decode cX1_look 9 = .ok (.iconst (-1), 1) := by decide +kernel
theorem dX1_look_10 : decode cX1_look 10 = .ok (.istore 8, 2) := by decide +kernel
theorem dX1_look_12 : decode cX1_look 12 = .ok (.iconst 0, 1) := by decide +kernel
theorem dX1_look_13 : decode cX1_look 13 = .ok (.istore 9, 2) := by decide +kernel
theorem dX1_look_15 : decode cX1_look 15 = .ok (.iload 9, 2) := by decide +kernel
theorem dX1_look_17 : decode cX1_look 17 = .ok (.aload_n 2, 1) := by decide +kernel
theorem dX1_look_18 : decode cX1_look 18 = .ok (.getfield 25, 3) := by decide +kernel
theorem dX1_look_21 : decode cX1_look 21 = .ok (.if_icmp .ge 98, 3) := by decide +kernel
theorem dX1_look_24 : decode cX1_look 24 = .ok (.aload_n 2, 1) := by decide +kernel
theorem dX1_look_25 : decode cX1_look 25 = .ok (.iload 9, 2) := by decide +kernel
theorem dX1_look_27 : decode cX1_look 27 = .ok (.invokevirtual 30, 3) := by decide +kernel
theorem dX1_look_30 : decode cX1_look 30 = .ok (.astore 10, 2) := by decide +kernel
theorem dX1_look_32 : decode cX1_look 32 = .ok (.aload 10, 2) := by decide +kernel
theorem dX1_look_34 : decode cX1_look 34 = .ok (.ifnull 79, 3) := by decide +kernel
theorem dX1_look_37 : decode cX1_look 37 = .ok (.aload 10, 2) := by decide +kernel
theorem dX1_look_39 : decode cX1_look 39 = .ok (.getfield 34, 3) := by decide +kernel
theorem dX1_look_42 : decode cX1_look 42 = .ok (.aload_n 1, 1) := by decide +kernel
theorem dX1_look_43 : decode cX1_look 43 = .ok (.getfield 34, 3) := by decide +kernel
theorem dX1_look_46 : decode cX1_look 46 = .ok (.lcmp, 1) := by decide +kernel
theorem dX1_look_47 : decode cX1_look 47 = .ok (.ifCond .eq 6, 3) := by decide +kernel
theorem dX1_look_50 : decode cX1_look 50 = .ok (.goto 63, 3) := by decide +kernel
theorem dX1_look_53 : decode cX1_look 53 = .ok (.aload_n 3, 1) := by decide +kernel
theorem dX1_look_54 : decode cX1_look 54 = .ok (.aload_n 1, 1) := by decide +kernel
theorem dX1_look_55 : decode cX1_look 55 = .ok (.aload 10, 2) := by decide +kernel
theorem dX1_look_57 : decode cX1_look 57 = .ok (.invokevirtual 40, 3) := by decide +kernel
theorem dX1_look_60 : decode cX1_look 60 = .ok (.istore 11, 2) := by decide +kernel
theorem dX1_look_62 : decode cX1_look 62 = .ok (.aload 5, 2) := by decide +kernel
theorem dX1_look_64 : decode cX1_look 64 = .ok (.ifnull 10, 3) := by decide +kernel
theorem dX1_look_67 : decode cX1_look 67 = .ok (.iload 11, 2) := by decide +kernel
theorem dX1_look_69 : decode cX1_look 69 = .ok (.iload 7, 2) := by decide +kernel
theorem dX1_look_71 : decode cX1_look 71 = .ok (.if_icmp .ge 22, 3) := by decide +kernel
theorem dX1_look_74 : decode cX1_look 74 = .ok (.aload 5, 2) := by decide +kernel
theorem dX1_look_76 : decode cX1_look 76 = .ok (.astore 6, 2) := by decide +kernel
theorem dX1_look_78 : decode cX1_look 78 = .ok (.iload 7, 2) := by decide +kernel
theorem dX1_look_80 : decode cX1_look 80 = .ok (.istore 8, 2) := by decide +kernel
theorem dX1_look_82 : decode cX1_look 82 = .ok (.aload 10, 2) := by decide +kernel
theorem dX1_look_84 : decode cX1_look 84 = .ok (.astore 5, 2) := by decide +kernel
theorem dX1_look_86 : decode cX1_look 86 = .ok (.iload 11, 2) := by decide +kernel
theorem dX1_look_88 : decode cX1_look 88 = .ok (.istore 7, 2) := by decide +kernel
theorem dX1_look_90 : decode cX1_look 90 = .ok (.goto 23, 3) := by decide +kernel
theorem dX1_look_93 : decode cX1_look 93 = .ok (.aload 6, 2) := by decide +kernel
theorem dX1_look_95 : decode cX1_look 95 = .ok (.ifnull 10, 3) := by decide +kernel
theorem dX1_look_98 : decode cX1_look 98 = .ok (.iload 11, 2) := by decide +kernel
theorem dX1_look_100 : decode cX1_look 100 = .ok (.iload 8, 2) := by decide +kernel
theorem dX1_look_102 : decode cX1_look 102 = .ok (.if_icmp .ge 11, 3) := by decide +kernel
theorem dX1_look_105 : decode cX1_look 105 = .ok (.aload 10, 2) := by decide +kernel
theorem dX1_look_107 : decode cX1_look 107 = .ok (.astore 6, 2) := by decide +kernel
theorem dX1_look_109 : decode cX1_look 109 = .ok (.iload 11, 2) := by decide +kernel
theorem dX1_look_111 : decode cX1_look 111 = .ok (.istore 8, 2) := by decide +kernel
theorem dX1_look_113 : decode cX1_look 113 = .ok (.iinc 9 1, 3) := by decide +kernel
theorem dX1_look_116 : decode cX1_look 116 = .ok (.goto (-101), 3) := by decide +kernel
theorem dX1_look_119 : decode cX1_look 119 = .ok (.aload 5, 2) := by decide +kernel
theorem dX1_look_121 : decode cX1_look 121 = .ok (.ifnonnull 6, 3) := by decide +kernel
theorem dX1_look_124 : decode cX1_look 124 = .ok (.bipush (-2), 2) := by decide +kernel
theorem dX1_look_126 : decode cX1_look 126 = .ok (.ireturn, 1) := by decide +kernel
theorem dX1_look_127 : decode cX1_look 127 = .ok (.aload_n 0, 1) := by decide +kernel
theorem dX1_look_128 : decode cX1_look 128 = .ok (.aload 5, 2) := by decide +kernel
theorem dX1_look_130 : decode cX1_look 130 = .ok (.putfield 9, 3) := by decide +kernel
theorem dX1_look_133 : decode cX1_look 133 = .ok (.aload_n 0, 1) := by decide +kernel
theorem dX1_look_134 : decode cX1_look 134 = .ok (.aload 6, 2) := by decide +kernel
theorem dX1_look_136 : decode cX1_look 136 = .ok (.putfield 15, 3) := by decide +kernel
theorem dX1_look_139 : decode cX1_look 139 = .ok (.aload_n 0, 1) := by decide +kernel
theorem dX1_look_140 : decode cX1_look 140 = .ok (.iload 7, 2) := by decide +kernel
theorem dX1_look_142 : decode cX1_look 142 = .ok (.putfield 18, 3) := by decide +kernel
theorem dX1_look_145 : decode cX1_look 145 = .ok (.aload_n 0, 1) := by decide +kernel
theorem dX1_look_146 : decode cX1_look 146 = .ok (.iload 8, 2) := by decide +kernel
theorem dX1_look_148 : decode cX1_look 148 = .ok (.putfield 22, 3) := by decide +kernel
theorem dX1_look_151 : decode cX1_look 151 = .ok (.aload 6, 2) := by decide +kernel
theorem dX1_look_153 : decode cX1_look 153 = .ok (.ifnull 13, 3) := by decide +kernel
theorem dX1_look_156 : decode cX1_look 156 = .ok (.iload 8, 2) := by decide +kernel
theorem dX1_look_158 : decode cX1_look 158 = .ok (.iload 7, 2) := by decide +kernel
theorem dX1_look_160 : decode cX1_look 160 = .ok (.isub, 1) := by decide +kernel
theorem dX1_look_161 : decode cX1_look 161 = .ok (.iload 4, 2) := by decide +kernel
theorem dX1_look_163 : decode cX1_look 163 = .ok (.if_icmp .lt 7, 3) := by decide +kernel
theorem dX1_look_166 : decode cX1_look 166 = .ok (.iconst 1, 1) := by decide +kernel
theorem dX1_look_167 : decode cX1_look 167 = .ok (.goto 4, 3) := by decide +kernel
theorem dX1_look_170 : decode cX1_look 170 = .ok (.iconst 0, 1) := by decide +kernel
theorem dX1_look_171 : decode cX1_look 171 = .ok (.ireturn, 1) := by decide +kernel
theorem dX2_init_0 : decode cX2_init 0 = .ok (.aload_n 0, 1) := by decide +kernel
theorem dX2_init_1 : decode cX2_init 1 = .ok (.invokespecial 3, 3) := by decide +kernel
theorem dX2_init_4 : decode cX2_init 4 = .ok (.aload_n 0, 1) := by decide +kernel
theorem dX2_init_5 : decode cX2_init 5 = .ok (.sipush 3600, 3) := by decide +kernel
theorem dX2_init_8 : decode cX2_init 8 = .ok (.newarray .int, 2) := by decide +kernel
theorem dX2_init_10 : decode cX2_init 10 = .ok (.putfield 9, 3) := by decide +kernel
theorem dX2_init_13 : decode cX2_init 13 = .ok (.aload_n 0, 1) := by decide +kernel
theorem dX2_init_14 : decode cX2_init 14 = .ok (.bipush 60, 2) := by decide +kernel
theorem dX2_init_16 : decode cX2_init 16 = .ok (.newarray .boolean, 2) := by decide +kernel
theorem dX2_init_18 : decode cX2_init 18 = .ok (.putfield 15, 3) := by decide +kernel
theorem dX2_init_21 : decode cX2_init 21 = .ok (.aload_n 0, 1) := by decide +kernel
theorem dX2_init_22 : decode cX2_init 22 = .ok (.aconst_null, 1) := by decide +kernel
theorem dX2_init_23 : decode cX2_init 23 = .ok (.putfield 19, 3) := by decide +kernel
theorem dX2_init_26 : decode cX2_init 26 = .ok (.aload_n 0, 1) := by decide +kernel
theorem dX2_init_27 : decode cX2_init 27 = .ok (.aconst_null, 1) := by decide +kernel
theorem dX2_init_28 : decode cX2_init 28 = .ok (.putfield 23, 3) := by decide +kernel
theorem dX2_init_31 : decode cX2_init 31 = .ok (.aload_n 0, 1) := by decide +kernel
theorem dX2_init_32 : decode cX2_init 32 = .ok (.aload_n 1, 1) := by decide +kernel
theorem dX2_init_33 : decode cX2_init 33 = .ok (.putfield 26, 3) := by decide +kernel
theorem dX2_init_36 : decode cX2_init 36 = .ok (.return_, 1) := by decide +kernel
theorem dX2_begin_0 : decode cX2_begin 0 = .ok (.aload_n 0, 1) := by decide +kernel
theorem dX2_begin_1 : decode cX2_begin 1 = .ok (.aload_n 1, 1) := by decide +kernel
theorem dX2_begin_2 : decode cX2_begin 2 = .ok (.putfield 19, 3) := by decide +kernel
theorem dX2_begin_5 : decode cX2_begin 5 = .ok (.aload_n 0, 1) := by decide +kernel
theorem dX2_begin_6 : decode cX2_begin 6 = .ok (.aload_n 2, 1) := by decide +kernel
theorem dX2_begin_7 : decode cX2_begin 7 = .ok (.putfield 23, 3) := by decide +kernel
theorem dX2_begin_10 : decode cX2_begin 10 = .ok (.iconst 0, 1) := by decide +kernel
theorem dX2_begin_11 : decode cX2_begin 11 = .ok (.istore_n 3, 1) := by decide +kernel
theorem dX2_begin_12 : decode cX2_begin 12 = .ok (.iload_n 3, 1) := by decide +kernel
theorem dX2_begin_13 : decode cX2_begin 13 = .ok (.bipush 60, 2) := by decide +kernel
theorem dX2_begin_15 : decode cX2_begin 15 = .ok (.if_icmp .ge 16, 3) := by decide +kernel
theorem dX2_begin_18 : decode cX2_begin 18 = .ok (.aload_n 0, 1) := by decide +kernel
theorem dX2_begin_19 : decode cX2_begin 19 = .ok (.getfield 15, 3) := by decide +kernel
theorem dX2_begin_22 : decode cX2_begin 22 = .ok (.iload_n 3, 1) := by decide +kernel
theorem dX2_begin_23 : decode cX2_begin 23 = .ok (.iconst 0, 1) := by decide +kernel
theorem dX2_begin_24 : decode cX2_begin 24 = .ok (.bastore, 1) := by decide +kernel
theorem dX2_begin_25 : decode cX2_begin 25 = .ok (.iinc 3 1, 3) := by decide +kernel
theorem dX2_begin_28 : decode cX2_begin 28 = .ok (.goto (-16), 3) := by decide +kernel
theorem dX2_begin_31 : decode cX2_begin 31 = .ok (.return_, 1) := by decide +kernel
theorem dX2_costOf_0 : decode cX2_costOf 0 = .ok (.iconst 3, 1) := by decide +kernel
theorem dX2_costOf_1 : decode cX2_costOf 1 = .ok (.aload_n 0, 1) := by decide +kernel
theorem dX2_costOf_2 : decode cX2_costOf 2 = .ok (.aload_n 1, 1) := by decide +kernel
theorem dX2_costOf_3 : decode cX2_costOf 3 = .ok (.aload_n 2, 1) := by decide +kernel
theorem dX2_costOf_4 : decode cX2_costOf 4 = .ok (.invokevirtual 29, 3) := by decide +kernel
theorem dX2_costOf_7 : decode cX2_costOf 7 = .ok (.imul, 1) := by decide +kernel
theorem dX2_costOf_8 : decode cX2_costOf 8 = .ok (.aload_n 1, 1) := by decide +kernel
theorem dX2_costOf_9 : decode cX2_costOf 9 = .ok (.getfield 33, 3) := by decide +kernel
theorem dX2_costOf_12 : decode cX2_costOf 12 = .ok (.aload_n 2, 1) := by decide +kernel
theorem dX2_costOf_13 : decode cX2_costOf 13 = .ok (.getfield 33, 3) := by decide +kernel
theorem dX2_costOf_16 : decode cX2_costOf 16 = .ok (.invokestatic 39, 3) := by decide +kernel
theorem dX2_costOf_19 : decode cX2_costOf 19 = .ok (.iadd, 1) := by decide +kernel
theorem dX2_costOf_20 : decode cX2_costOf 20 = .ok (.aload_n 1, 1) := by decide +kernel
theorem dX2_costOf_21 : decode cX2_costOf 21 = .ok (.getfield 42, 3) := by decide +kernel
theorem dX2_costOf_24 : decode cX2_costOf 24 = .ok (.aload_n 2, 1) := by decide +kernel
theorem dX2_costOf_25 : decode cX2_costOf 25 = .ok (.getfield 42, 3) := by decide +kernel
theorem dX2_costOf_28 : decode cX2_costOf 28 = .ok (.invokestatic 39, 3) := by decide +kernel
theorem dX2_costOf_31 : decode cX2_costOf 31 = .ok (.iadd, 1) := by decide +kernel
theorem dX2_costOf_32 : decode cX2_costOf 32 = .ok (.aload_n 1, 1) := by decide +kernel
theorem dX2_costOf_33 : decode cX2_costOf 33 = .ok (.getfield 45, 3) := by decide +kernel
theorem dX2_costOf_36 : decode cX2_costOf 36 = .ok (.aload_n 2, 1) := by decide +kernel
theorem dX2_costOf_37 : decode cX2_costOf 37 = .ok (.getfield 45, 3) := by decide +kernel
theorem dX2_costOf_40 : decode cX2_costOf 40 = .ok (.invokestatic 39, 3) := by decide +kernel
theorem dX2_costOf_43 : decode cX2_costOf 43 = .ok (.iadd, 1) := by decide +kernel
theorem dX2_costOf_44 : decode cX2_costOf 44 = .ok (.ireturn, 1) := by decide +kernel
theorem dX2_farOf_0 : decode cX2_farOf 0 = .ok (.aload_n 1, 1) := by decide +kernel
theorem dX2_farOf_1 : decode cX2_farOf 1 = .ok (.getfield 48, 3) := by decide +kernel
theorem dX2_farOf_4 : decode cX2_farOf 4 = .ok (.bipush 60, 2) := by decide +kernel
theorem dX2_farOf_6 : decode cX2_farOf 6 = .ok (.imul, 1) := by decide +kernel
theorem dX2_farOf_7 : decode cX2_farOf 7 = .ok (.aload_n 2, 1) := by decide +kernel
theorem dX2_farOf_8 : decode cX2_farOf 8 = .ok (.getfield 48, 3) := by decide +kernel
theorem dX2_farOf_11 : decode cX2_farOf 11 = .ok (.iadd, 1) := by decide +kernel
theorem dX2_farOf_12 : decode cX2_farOf 12 = .ok (.istore_n 3, 1) := by decide +kernel
theorem dX2_farOf_13 : decode cX2_farOf 13 = .ok (.iload_n 3, 1) := by decide +kernel
theorem dX2_farOf_14 : decode cX2_farOf 14 = .ok (.ifCond .lt 12, 3) := by decide +kernel
theorem dX2_farOf_17 : decode cX2_farOf 17 = .ok (.iload_n 3, 1) := by decide +kernel
theorem dX2_farOf_18 : decode cX2_farOf 18 = .ok (.aload_n 0, 1) := by decide +kernel
theorem dX2_farOf_19 : decode cX2_farOf 19 = .ok (.getfield 9, 3) := by decide +kernel
theorem dX2_farOf_22 : decode cX2_farOf 22 = .ok (.arraylength, 1) := by decide +kernel
theorem dX2_farOf_23 : decode cX2_farOf 23 = .ok (.if_icmp .lt 7, 3) := by decide +kernel
theorem dX2_farOf_26 : decode cX2_farOf 26 = .ok (.iconst (-1), 1) := by decide +kernel
theorem dX2_farOf_27 : decode cX2_farOf 27 = .ok (.goto 9, 3) := by decide +kernel
theorem dX2_farOf_30 : decode cX2_farOf 30 = .ok (.aload_n 0, 1) := by decide +kernel
theorem dX2_farOf_31 : decode cX2_farOf 31 = .ok (.getfield 9, 3) := by decide +kernel
theorem dX2_farOf_34 : decode cX2_farOf 34 = .ok (.iload_n 3, 1) := by decide +kernel
theorem dX2_farOf_35 : decode cX2_farOf 35 = .ok (.iaload, 1) := by decide +kernel
theorem dX2_farOf_36 : decode cX2_farOf 36 = .ok (.ireturn, 1) := by decide +kernel
theorem dX2_measure_0 : decode cX2_measure 0 = .ok (.aload_n 1, 1) := by decide +kernel
theorem dX2_measure_1 : decode cX2_measure 1 = .ok (.getfield 48, 3) := by decide +kernel
theorem dX2_measure_4 : decode cX2_measure 4 = .ok (.aload_n 1, 1) := by decide +kernel
theorem dX2_measure_5 : decode cX2_measure 5 = .ok (.getfield 52, 3) := by decide +kernel
theorem dX2_measure_8 : decode cX2_measure 8 = .ok (.iadd, 1) := by decide +kernel
theorem dX2_measure_9 : decode cX2_measure 9 = .ok (.istore_n 2, 1) := by decide +kernel
theorem dX2_measure_10 : decode cX2_measure 10 = .ok (.aload_n 0, 1) := by decide +kernel
theorem dX2_measure_11 : decode cX2_measure 11 = .ok (.getfield 19, 3) := by decide +kernel
theorem dX2_measure_14 : decode cX2_measure 14 = .ok (.ifnull 33, 3) := by decide +kernel
theorem dX2_measure_17 : decode cX2_measure 17 = .ok (.aload_n 0, 1) := by decide +kernel
theorem dX2_measure_18 : decode cX2_measure 18 = .ok (.getfield 23, 3) := by decide +kernel
theorem dX2_measure_21 : decode cX2_measure 21 = .ok (.ifnull 26, 3) := by decide +kernel
theorem dX2_measure_24 : decode cX2_measure 24 = .ok (.iload_n 2, 1) := by decide +kernel
theorem dX2_measure_25 : decode cX2_measure 25 = .ok (.aload_n 0, 1) := by decide +kernel
theorem dX2_measure_26 : decode cX2_measure 26 = .ok (.getfield 19, 3) := by decide +kernel
theorem dX2_measure_29 : decode cX2_measure 29 = .ok (.getfield 55, 3) := by decide +kernel
theorem dX2_measure_32 : decode cX2_measure 32 = .ok (.if_icmp .ge 15, 3) := by decide +kernel
theorem dX2_measure_35 : decode cX2_measure 35 = .ok (.aload_n 0, 1) := by decide +kernel
theorem dX2_measure_36 : decode cX2_measure 36 = .ok (.getfield 15, 3) := by decide +kernel
theorem dX2_measure_39 : decode cX2_measure 39 = .ok (.aload_n 1, 1) := by decide +kernel
theorem dX2_measure_40 : decode cX2_measure 40 = .ok (.getfield 48, 3) := by decide +kernel
theorem dX2_measure_43 : decode cX2_measure 43 = .ok (.baload, 1) := by decide +kernel
theorem dX2_measure_44 : decode cX2_measure 44 = .ok (.ifCond .eq 4, 3) := by decide +kernel
theorem dX2_measure_47 : decode cX2_measure 47 = .ok (.return_, 1) := by decide +kernel
theorem dX2_measure_48 : decode cX2_measure 48 = .ok (.iload_n 2, 1) := by decide +kernel
theorem dX2_measure_49 : decode cX2_measure 49 = .ok (.istore_n 3, 1) := by decide +kernel
theorem dX2_measure_50 : decode cX2_measure 50 = .ok (.iload_n 3, 1) := by decide +kernel
theorem dX2_measure_51 : decode cX2_measure 51 = .ok (.aload_n 1, 1) := by decide +kernel
theorem dX2_measure_52 : decode cX2_measure 52 = .ok (.getfield 48, 3) := by decide +kernel
theorem dX2_measure_55 : decode cX2_measure 55 = .ok (.if_icmp .lt 55, 3) := by decide +kernel
theorem dX2_measure_58 : decode cX2_measure 58 = .ok (.aload_n 0, 1) := by decide +kernel
theorem dX2_measure_59 : decode cX2_measure 59 = .ok (.getfield 19, 3) := by decide +kernel
theorem dX2_measure_62 : decode cX2_measure 62 = .ok (.iload_n 3, 1) := by decide +kernel
theorem dX2_measure_63 : decode cX2_measure 63 = .ok (.invokevirtual 60, 3) := by decide +kernel
theorem dX2_measure_66 : decode cX2_measure 66 = .ok (.astore 4, 2) := by decide +kernel
theorem dX2_measure_68 : decode cX2_measure 68 = .ok (.aload 4, 2) := by decide +kernel
theorem dX2_measure_70 : decode cX2_measure 70 = .ok (.ifnull 34, 3) := by decide +kernel
theorem dX2_measure_73 : decode cX2_measure 73 = .ok (.aload_n 0, 1) := by decide +kernel
theorem dX2_measure_74 : decode cX2_measure 74 = .ok (.getfield 15, 3) := by decide +kernel
theorem dX2_measure_77 : decode cX2_measure 77 = .ok (.iload_n 3, 1) := by decide +kernel
theorem dX2_measure_78 : decode cX2_measure 78 = .ok (.baload, 1) := by decide +kernel
theorem dX2_measure_79 : decode cX2_measure 79 = .ok (.ifCond .ne 25, 3) := by decide +kernel
theorem dX2_measure_82 : decode cX2_measure 82 = .ok (.aload 4, 2) := by decide +kernel
theorem dX2_measure_84 : decode cX2_measure 84 = .ok (.getfield 45, 3) := by decide +kernel
theorem dX2_measure_87 : decode cX2_measure 87 = .ok (.ifnonnull 11, 3) := by decide +kernel
theorem dX2_measure_90 : decode cX2_measure 90 = .ok (.iload_n 3, 1) := by decide +kernel
theorem dX2_measure_91 : decode cX2_measure 91 = .ok (.aload_n 1, 1) := by decide +kernel
theorem dX2_measure_92 : decode cX2_measure 92 = .ok (.getfield 48, 3) := by decide +kernel
theorem dX2_measure_95 : decode cX2_measure 95 = .ok (.if_icmp .ne 9, 3) := by decide +kernel
theorem dX2_measure_98 : decode cX2_measure 98 = .ok (.aload_n 0, 1) := by decide +kernel
theorem dX2_measure_99 : decode cX2_measure 99 = .ok (.aload 4, 2) := by decide +kernel
theorem dX2_measure_101 : decode cX2_measure 101 = .ok (.invokevirtual 64, 3) := by decide +kernel
theorem dX2_measure_104 : decode cX2_measure 104 = .ok (.iinc 3 (-1), 3) := by decide +kernel
theorem dX2_measure_107 : decode cX2_measure 107 = .ok (.goto (-57), 3) := by decide +kernel
theorem dX2_measure_110 : decode cX2_measure 110 = .ok (.aload_n 1, 1) := by decide +kernel
theorem dX2_measure_111 : decode cX2_measure 111 = .ok (.getfield 48, 3) := by decide +kernel
theorem dX2_measure_114 : decode cX2_measure 114 = .ok (.istore_n 3, 1) := by decide +kernel
theorem dX2_measure_115 : decode cX2_measure 115 = .ok (.iload_n 3, 1) := by decide +kernel
theorem dX2_measure_116 : decode cX2_measure 116 = .ok (.iload_n 2, 1) := by decide +kernel
theorem dX2_measure_117 : decode cX2_measure 117 = .ok (.if_icmp .gt 16, 3) := by decide +kernel
theorem dX2_measure_120 : decode cX2_measure 120 = .ok (.aload_n 0, 1) := by decide +kernel
theorem dX2_measure_121 : decode cX2_measure 121 = .ok (.getfield 15, 3) := by decide +kernel
theorem dX2_measure_124 : decode cX2_measure 124 = .ok (.iload_n 3, 1) := by decide +kernel
theorem dX2_measure_125 : decode cX2_measure 125 = .ok (.iconst 1, 1) := by decide +kernel
theorem dX2_measure_126 : decode cX2_measure 126 = .ok (.bastore, 1) := by decide +kernel
theorem dX2_measure_127 : decode cX2_measure 127 = .ok (.iinc 3 1, 3) := by decide +kernel
theorem dX2_measure_130 : decode cX2_measure 130 = .ok (.goto (-15), 3) := by decide +kernel
theorem dX2_measure_133 : decode cX2_measure 133 = .ok (.return_, 1) := by decide +kernel
theorem dX2_measureKey_0 : decode cX2_measureKey 0 = .ok (.aload_n 0, 1) := by decide +kernel
theorem dX2_measureKey_1 : decode cX2_measureKey 1 = .ok (.getfield 23, 3) := by decide +kernel
theorem dX2_measureKey_4 : decode cX2_measureKey 4 = .ok (.getfield 55, 3) := by decide +kernel
theorem dX2_measureKey_7 : decode cX2_measureKey 7 = .ok (.iconst 1, 1) := by decide +kernel
theorem dX2_measureKey_8 : decode cX2_measureKey 8 = .ok (.isub, 1) := by decide +kernel
theorem dX2_measureKey_9 : decode cX2_measureKey 9 = .ok (.istore_n 2, 1) := by decide +kernel
theorem dX2_measureKey_10 : decode cX2_measureKey 10 = .ok (.iload_n 2, 1) := by decide +kernel
theorem dX2_measureKey_11 : decode cX2_measureKey 11 = .ok (.ifCond .lt 39, 3) := by decide +kernel
theorem dX2_measureKey_14 : decode cX2_measureKey 14 = .ok (.aload_n 0, 1) := by decide +kernel
theorem dX2_measureKey_15 : decode cX2_measureKey 15 = .ok (.getfield 23, 3) := by decide +kernel
theorem dX2_measureKey_18 : decode cX2_measureKey 18 = .ok (.iload_n 2, 1) := by decide +kernel
theorem dX2_measureKey_19 : decode cX2_measureKey 19 = .ok (.invokevirtual 60, 3) := by decide +kernel
theorem dX2_measureKey_22 : decode cX2_measureKey 22 = .ok (.astore_n 3, 1) := by decide +kernel
theorem dX2_measureKey_23 : decode cX2_measureKey 23 = .ok (.aload_n 3, 1) := by decide +kernel
theorem dX2_measureKey_24 : decode cX2_measureKey 24 = .ok (.ifnull 20, 3) := by decide +kernel
theorem dX2_measureKey_27 : decode cX2_measureKey 27 = .ok (.aload_n 3, 1) := by decide +kernel
theorem dX2_measureKey_28 : decode cX2_measureKey 28 = .ok (.getfield 45, 3) := by decide +kernel
theorem dX2_measureKey_31 : decode cX2_measureKey 31 = .ok (.ifnonnull 7, 3) := by decide +kernel
theorem dX2_measureKey_34 : decode cX2_measureKey 34 = .ok (.iload_n 2, 1) := by decide +kernel
theorem dX2_measureKey_35 : decode cX2_measureKey 35 = .ok (.ifCond .ne 9, 3) := by decide +kernel
theorem dX2_measureKey_38 : decode cX2_measureKey 38 = .ok (.aload_n 0, 1) := by decide +kernel
theorem dX2_measureKey_39 : decode cX2_measureKey 39 = .ok (.aload_n 1, 1) := by decide +kernel
theorem dX2_measureKey_40 : decode cX2_measureKey 40 = .ok (.aload_n 3, 1) := by decide +kernel
theorem dX2_measureKey_41 : decode cX2_measureKey 41 = .ok (.invokevirtual 68, 3) := by decide +kernel
theorem dX2_measureKey_44 : decode cX2_measureKey 44 = .ok (.iinc 2 (-1), 3) := by decide +kernel
theorem dX2_measureKey_47 : decode cX2_measureKey 47 = .ok (.goto (-37), 3) := by decide +kernel
theorem dX2_measureKey_50 : decode cX2_measureKey 50 = .ok (.return_, 1) := by decide +kernel
theorem dX2_measureForests_0 : decode cX2_measureForests 0 = .ok (.aload_n 1, 1) := by decide +kernel
theorem dX2_measureForests_1 : decode cX2_measureForests 1 = .ok (.getfield 48, 3) := by decide +kernel
theorem dX2_measureForests_4 : decode cX2_measureForests 4 = .ok (.aload_n 1, 1) := by decide +kernel
theorem dX2_measureForests_5 : decode cX2_measureForests 5 = .ok (.getfield 52, 3) := by decide +kernel
theorem dX2_measureForests_8 : decode cX2_measureForests 8 = .ok (.iadd, 1) := by decide +kernel
theorem dX2_measureForests_9 : decode cX2_measureForests 9 = .ok (.iconst 1, 1) := by decide +kernel
theorem dX2_measureForests_10 : decode cX2_measureForests 10 = .ok (.iadd, 1) := by decide +kernel
theorem dX2_measureForests_11 : decode cX2_measureForests 11 = .ok (.istore_n 3, 1) := by decide +kernel
theorem dX2_measureForests_12 : decode cX2_measureForests 12 = .ok (.aload_n 2, 1) := by decide +kernel
theorem dX2_measureForests_13 : decode cX2_measureForests 13 = .ok (.getfield 48, 3) := by decide +kernel
theorem dX2_measureForests_16 : decode cX2_measureForests 16 = .ok (.aload_n 2, 1) := by decide +kernel
theorem dX2_measureForests_17 : decode cX2_measureForests 17 = .ok (.getfield 52, 3) := by decide +kernel
theorem dX2_measureForests_20 : decode cX2_measureForests 20 = .ok (.iadd, 1) := by decide +kernel
theorem dX2_measureForests_21 : decode cX2_measureForests 21 = .ok (.iconst 1, 1) := by decide +kernel
theorem dX2_measureForests_22 : decode cX2_measureForests 22 = .ok (.iadd, 1) := by decide +kernel
theorem dX2_measureForests_23 : decode cX2_measureForests 23 = .ok (.istore 4, 2) := by decide +kernel
theorem dX2_measureForests_25 : decode cX2_measureForests 25 = .ok (.iload_n 3, 1) := by decide +kernel
theorem dX2_measureForests_26 : decode cX2_measureForests 26 = .ok (.aload_n 0, 1) := by decide +kernel
theorem dX2_measureForests_27 : decode cX2_measureForests 27 = .ok (.getfield 19, 3) := by decide +kernel
theorem dX2_measureForests_30 : decode cX2_measureForests 30 = .ok (.getfield 55, 3) := by decide +kernel
theorem dX2_measureForests_33 : decode cX2_measureForests 33 = .ok (.if_icmp .gt 15, 3) := by decide +kernel
theorem dX2_measureForests_36 : decode cX2_measureForests 36 = .ok (.iload 4, 2) := by decide +kernel
theorem dX2_measureForests_38 : decode cX2_measureForests 38 = .ok (.aload_n 0, 1) := by decide +kernel
theorem dX2_measureForests_39 : decode cX2_measureForests 39 = .ok (.getfield 23, 3) := by decide +kernel
theorem dX2_measureForests_42 : decode cX2_measureForests 42 = .ok (.getfield 55, 3) := by decide +kernel
theorem dX2_measureForests_45 : decode cX2_measureForests 45 = .ok (.if_icmp .le 4, 3) := by decide +kernel
theorem dX2_measureForests_48 : decode cX2_measureForests 48 = .ok (.return_, 1) := by decide +kernel
theorem dX2_measureForests_49 : decode cX2_measureForests 49 = .ok (.aload_n 0, 1) := by decide +kernel
theorem dX2_measureForests_50 : decode cX2_measureForests 50 = .ok (.getfield 26, 3) := by decide +kernel
theorem dX2_measureForests_53 : decode cX2_measureForests 53 = .ok (.iload_n 3, 1) := by decide +kernel
theorem dX2_measureForests_54 : decode cX2_measureForests 54 = .ok (.bipush 61, 2) := by decide +kernel
theorem dX2_measureForests_56 : decode cX2_measureForests 56 = .ok (.imul, 1) := by decide +kernel
theorem dX2_measureForests_57 : decode cX2_measureForests 57 = .ok (.iload 4, 2) := by decide +kernel
theorem dX2_measureForests_59 : decode cX2_measureForests 59 = .ok (.iadd, 1) := by decide +kernel
theorem dX2_measureForests_60 : decode cX2_measureForests 60 = .ok (.iconst 0, 1) := by decide +kernel
theorem dX2_measureForests_61 : decode cX2_measureForests 61 = .ok (.iastore, 1) := by decide +kernel
theorem dX2_measureForests_62 : decode cX2_measureForests 62 = .ok (.iload 4, 2) := by decide +kernel
theorem dX2_measureForests_64 : decode cX2_measureForests 64 = .ok (.iconst 1, 1) := by decide +kernel
theorem dX2_measureForests_65 : decode cX2_measureForests 65 = .ok (.isub, 1) := by decide +kernel
theorem dX2_measureForests_66 : decode cX2_measureForests 66 = .ok (.istore 5, 2) := by decide +kernel
theorem dX2_measureForests_68 : decode cX2_measureForests 68 = .ok (.iload 5, 2) := by decide +kernel
theorem dX2_measureForests_70 : decode cX2_measureForests 70 = .ok (.aload_n 2, 1) := by decide +kernel
theorem dX2_measureForests_71 : decode cX2_measureForests 71 = .ok (.getfield 48, 3) := by decide +kernel
theorem dX2_measureForests_74 : decode cX2_measureForests 74 = .ok (.if_icmp .lt 28, 3) := by decide +kernel
theorem dX2_measureForests_77 : decode cX2_measureForests 77 = .ok (.aload_n 0, 1) := by decide +kernel
theorem dX2_measureForests_78 : decode cX2_measureForests 78 = .ok (.getfield 26, 3) := by decide +kernel
theorem dX2_measureForests_81 : decode cX2_measureForests 81 = .ok (.iload_n 3, 1) := by decide +kernel
theorem dX2_measureForests_82 : decode cX2_measureForests 82 = .ok (.bipush 61, 2) := by decide +kernel
theorem dX2_measureForests_84 : decode cX2_measureForests 84 = .ok (.imul, 1) := by decide +kernel
theorem dX2_measureForests_85 : decode cX2_measureForests 85 = .ok (.iload 5, 2) := by decide +kernel
theorem dX2_measureForests_87 : decode cX2_measureForests 87 = .ok (.iadd, 1) := by decide +kernel
theorem dX2_measureForests_88 : decode cX2_measureForests 88 = .ok (.iload 4, 2) := by decide +kernel
theorem dX2_measureForests_90 : decode cX2_measureForests 90 = .ok (.iload 5, 2) := by decide +kernel
theorem dX2_measureForests_92 : decode cX2_measureForests 92 = .ok (.isub, 1) := by decide +kernel
theorem dX2_measureForests_93 : decode cX2_measureForests 93 = .ok (.iconst 3, 1) := by decide +kernel
theorem dX2_measureForests_94 : decode cX2_measureForests 94 = .ok (.imul, 1) := by decide +kernel
theorem dX2_measureForests_95 : decode cX2_measureForests 95 = .ok (.iastore, 1) := by decide +kernel
theorem dX2_measureForests_96 : decode cX2_measureForests 96 = .ok (.iinc 5 (-1), 3) := by decide +kernel
theorem dX2_measureForests_99 : decode cX2_measureForests 99 = .ok (.goto (-31), 3) := by decide +kernel
theorem dX2_measureForests_102 : decode cX2_measureForests 102 = .ok (.iload_n 3, 1) := by decide +kernel
theorem dX2_measureForests_103 : decode cX2_measureForests 103 = .ok (.iconst 1, 1) := by decide +kernel
theorem dX2_measureForests_104 : decode cX2_measureForests 104 = .ok (.isub, 1) := by decide +kernel
theorem dX2_measureForests_105 : decode cX2_measureForests 105 = .ok (.istore 5, 2) := by decide +kernel
theorem dX2_measureForests_107 : decode cX2_measureForests 107 = .ok (.iload 5, 2) := by decide +kernel
theorem dX2_measureForests_109 : decode cX2_measureForests 109 = .ok (.aload_n 1, 1) := by decide +kernel
theorem dX2_measureForests_110 : decode cX2_measureForests 110 = .ok (.getfield 48, 3) := by decide +kernel
theorem dX2_measureForests_113 : decode cX2_measureForests 113 = .ok (.if_icmp .lt 273, 3) := by decide +kernel
theorem dX2_measureForests_116 : decode cX2_measureForests 116 = .ok (.aload_n 0, 1) := by decide +kernel
theorem dX2_measureForests_117 : decode cX2_measureForests 117 = .ok (.getfield 26, 3) := by decide +kernel
theorem dX2_measureForests_120 : decode cX2_measureForests 120 = .ok (.iload 5, 2) := by decide +kernel
theorem dX2_measureForests_122 : decode cX2_measureForests 122 = .ok (.bipush 61, 2) := by decide +kernel
theorem dX2_measureForests_124 : decode cX2_measureForests 124 = .ok (.imul, 1) := by decide +kernel
theorem dX2_measureForests_125 : decode cX2_measureForests 125 = .ok (.iload 4, 2) := by decide +kernel
theorem dX2_measureForests_127 : decode cX2_measureForests 127 = .ok (.iadd, 1) := by decide +kernel
theorem dX2_measureForests_128 : decode cX2_measureForests 128 = .ok (.iload_n 3, 1) := by decide +kernel
theorem dX2_measureForests_129 : decode cX2_measureForests 129 = .ok (.iload 5, 2) := by decide +kernel
theorem dX2_measureForests_131 : decode cX2_measureForests 131 = .ok (.isub, 1) := by decide +kernel
theorem dX2_measureForests_132 : decode cX2_measureForests 132 = .ok (.iconst 3, 1) := by decide +kernel
theorem dX2_measureForests_133 : decode cX2_measureForests 133 = .ok (.imul, 1) := by decide +kernel
theorem dX2_measureForests_134 : decode cX2_measureForests 134 = .ok (.iastore, 1) := by decide +kernel
theorem dX2_measureForests_135 : decode cX2_measureForests 135 = .ok (.aload_n 0, 1) := by decide +kernel
theorem dX2_measureForests_136 : decode cX2_measureForests 136 = .ok (.getfield 19, 3) := by decide +kernel
theorem dX2_measureForests_139 : decode cX2_measureForests 139 = .ok (.iload 5, 2) := by decide +kernel
theorem dX2_measureForests_141 : decode cX2_measureForests 141 = .ok (.invokevirtual 60, 3) := by decide +kernel
theorem dX2_measureForests_144 : decode cX2_measureForests 144 = .ok (.astore 6, 2) := by decide +kernel
theorem dX2_measureForests_146 : decode cX2_measureForests 146 = .ok (.aload 6, 2) := by decide +kernel
theorem dX2_measureForests_148 : decode cX2_measureForests 148 = .ok (.ifnull 15, 3) := by decide +kernel
theorem dX2_measureForests_151 : decode cX2_measureForests 151 = .ok (.iload 5, 2) := by decide +kernel
theorem dX2_measureForests_153 : decode cX2_measureForests 153 = .ok (.aload 6, 2) := by decide +kernel
theorem dX2_measureForests_155 : decode cX2_measureForests 155 = .ok (.getfield 52, 3) := by decide +kernel
theorem dX2_measureForests_158 : decode cX2_measureForests 158 = .ok (.iadd, 1) := by decide +kernel
theorem dX2_measureForests_159 : decode cX2_measureForests 159 = .ok (.iload_n 3, 1) := by decide +kernel
theorem dX2_measureForests_160 : decode cX2_measureForests 160 = .ok (.if_icmp .lt 4, 3) := by decide +kernel
theorem dX2_measureForests_163 : decode cX2_measureForests 163 = .ok (.return_, 1) := by decide +kernel
theorem dX2_measureForests_164 : decode cX2_measureForests 164 = .ok (.iload 5, 2) := by decide +kernel
theorem dX2_measureForests_166 : decode cX2_measureForests 166 = .ok (.aload 6, 2) := by decide +kernel
theorem dX2_measureForests_168 : decode cX2_measureForests 168 = .ok (.getfield 52, 3) := by decide +kernel
theorem dX2_measureForests_171 : decode cX2_measureForests 171 = .ok (.iadd, 1) := by decide +kernel
theorem dX2_measureForests_172 : decode cX2_measureForests 172 = .ok (.iconst 1, 1) := by decide +kernel
theorem dX2_measureForests_173 : decode cX2_measureForests 173 = .ok (.iadd, 1) := by decide +kernel
theorem dX2_measureForests_174 : decode cX2_measureForests 174 = .ok (.istore 7, 2) := by decide +kernel
theorem dX2_measureForests_176 : decode cX2_measureForests 176 = .ok (.iload 4, 2) := by decide +kernel
theorem dX2_measureForests_178 : decode cX2_measureForests 178 = .ok (.iconst 1, 1) := by decide +kernel
theorem dX2_measureForests_179 : decode cX2_measureForests 179 = .ok (.isub, 1) := by decide +kernel
theorem dX2_measureForests_180 : decode cX2_measureForests 180 = .ok (.istore 8, 2) := by decide +kernel
theorem dX2_measureForests_182 : decode cX2_measureForests 182 = .ok (.iload 8, 2) := by decide +kernel
theorem dX2_measureForests_184 : decode cX2_measureForests 184 = .ok (.aload_n 2, 1) := by decide +kernel
theorem dX2_measureForests_185 : decode cX2_measureForests 185 = .ok (.getfield 48, 3) := by decide +kernel
theorem dX2_measureForests_188 : decode cX2_measureForests 188 = .ok (.if_icmp .lt 192, 3) := by decide +kernel
theorem dX2_measureForests_191 : decode cX2_measureForests 191 = .ok (.aload_n 0, 1) := by decide +kernel
theorem dX2_measureForests_192 : decode cX2_measureForests 192 = .ok (.getfield 23, 3) := by decide +kernel
theorem dX2_measureForests_195 : decode cX2_measureForests 195 = .ok (.iload 8, 2) := by decide +kernel
theorem dX2_measureForests_197 : decode cX2_measureForests 197 = .ok (.invokevirtual 60, 3) := by decide +kernel
theorem dX2_measureForests_200 : decode cX2_measureForests 200 = .ok (.astore 9, 2) := by decide +kernel
theorem dX2_measureForests_202 : decode cX2_measureForests 202 = .ok (.aload 9, 2) := by decide +kernel
theorem dX2_measureForests_204 : decode cX2_measureForests 204 = .ok (.ifnull 16, 3) := by decide +kernel
theorem dX2_measureForests_207 : decode cX2_measureForests 207 = .ok (.iload 8, 2) := by decide +kernel
theorem dX2_measureForests_209 : decode cX2_measureForests 209 = .ok (.aload 9, 2) := by decide +kernel
theorem dX2_measureForests_211 : decode cX2_measureForests 211 = .ok (.getfield 52, 3) := by decide +kernel
theorem dX2_measureForests_214 : decode cX2_measureForests 214 = .ok (.iadd, 1) := by decide +kernel
theorem dX2_measureForests_215 : decode cX2_measureForests 215 = .ok (.iload 4, 2) := by decide +kernel
theorem dX2_measureForests_217 : decode cX2_measureForests 217 = .ok (.if_icmp .lt 4, 3) := by decide +kernel
theorem dX2_measureForests_220 : decode cX2_measureForests 220 = .ok (.return_, 1) := by decide +kernel
theorem dX2_measureForests_221 : decode cX2_measureForests 221 = .ok (.iload 8, 2) := by decide +kernel
theorem dX2_measureForests_223 : decode cX2_measureForests 223 = .ok (.aload 9, 2) := by decide +kernel
theorem dX2_measureForests_225 : decode cX2_measureForests 225 = .ok (.getfield 52, 3) := by decide +kernel
theorem dX2_measureForests_228 : decode cX2_measureForests 228 = .ok (.iadd, 1) := by decide +kernel
theorem dX2_measureForests_229 : decode cX2_measureForests 229 = .ok (.iconst 1, 1) := by decide +kernel
theorem dX2_measureForests_230 : decode cX2_measureForests 230 = .ok (.iadd, 1) := by decide +kernel
theorem dX2_measureForests_231 : decode cX2_measureForests 231 = .ok (.istore 10, 2) := by decide +kernel
theorem dX2_measureForests_233 : decode cX2_measureForests 233 = .ok (.iload 5, 2) := by decide +kernel
theorem dX2_measureForests_235 : decode cX2_measureForests 235 = .ok (.bipush 61, 2) := by decide +kernel
theorem dX2_measureForests_237 : decode cX2_measureForests 237 = .ok (.imul, 1) := by decide +kernel
theorem dX2_measureForests_238 : decode cX2_measureForests 238 = .ok (.iload 8, 2) := by decide +kernel
theorem dX2_measureForests_240 : decode cX2_measureForests 240 = .ok (.iadd, 1) := by decide +kernel
theorem dX2_measureForests_241 : decode cX2_measureForests 241 = .ok (.istore 11, 2) := by decide +kernel
theorem dX2_measureForests_243 : decode cX2_measureForests 243 = .ok (.aload_n 0, 1) := by decide +kernel
theorem dX2_measureForests_244 : decode cX2_measureForests 244 = .ok (.getfield 26, 3) := by decide +kernel
theorem dX2_measureForests_247 : decode cX2_measureForests 247 = .ok (.iload 11, 2) := by decide +kernel
theorem dX2_measureForests_249 : decode cX2_measureForests 249 = .ok (.bipush 61, 2) := by decide +kernel
theorem dX2_measureForests_251 : decode cX2_measureForests 251 = .ok (.iadd, 1) := by decide +kernel
theorem dX2_measureForests_252 : decode cX2_measureForests 252 = .ok (.iaload, 1) := by decide +kernel
theorem dX2_measureForests_253 : decode cX2_measureForests 253 = .ok (.aload_n 0, 1) := by decide +kernel
theorem dX2_measureForests_254 : decode cX2_measureForests 254 = .ok (.getfield 26, 3) := by decide +kernel
theorem dX2_measureForests_257 : decode cX2_measureForests 257 = .ok (.iload 11, 2) := by decide +kernel
theorem dX2_measureForests_259 : decode cX2_measureForests 259 = .ok (.iconst 1, 1) := by decide +kernel
theorem dX2_measureForests_260 : decode cX2_measureForests 260 = .ok (.iadd, 1) := by decide +kernel
theorem dX2_measureForests_261 : decode cX2_measureForests 261 = .ok (.iaload, 1) := by decide +kernel
theorem dX2_measureForests_262 : decode cX2_measureForests 262 = .ok (.invokestatic 72, 3) := by decide +kernel
theorem dX2_measureForests_265 : decode cX2_measureForests 265 = .ok (.iconst 3, 1) := by decide +kernel
theorem dX2_measureForests_266 : decode cX2_measureForests 266 = .ok (.iadd, 1) := by decide +kernel
theorem dX2_measureForests_267 : decode cX2_measureForests 267 = .ok (.istore 12, 2) := by decide +kernel
theorem dX2_measureForests_269 : decode cX2_measureForests 269 = .ok (.iload 7, 2) := by decide +kernel
theorem dX2_measureForests_271 : decode cX2_measureForests 271 = .ok (.iload_n 3, 1) := by decide +kernel
theorem dX2_measureForests_272 : decode cX2_measureForests 272 = .ok (.if_icmp .ne 55, 3) := by decide +kernel
theorem dX2_measureForests_275 : decode cX2_measureForests 275 = .ok (.iload 10, 2) := by decide +kernel
theorem dX2_measureForests_277 : decode cX2_measureForests 277 = .ok (.iload 4, 2) := by decide +kernel
theorem dX2_measureForests_279 : decode cX2_measureForests 279 = .ok (.if_icmp .ne 48, 3) := by decide +kernel
theorem dX2_measureForests_282 : decode cX2_measureForests 282 = .ok (.iload 12, 2) := by decide +kernel
theorem dX2_measureForests_284 : decode cX2_measureForests 284 = .ok (.aload_n 0, 1) := by decide +kernel
theorem dX2_measureForests_285 : decode cX2_measureForests 285 = .ok (.getfield 26, 3) := by decide +kernel
theorem dX2_measureForests_288 : decode cX2_measureForests 288 = .ok (.iload 11, 2) := by decide +kernel
theorem dX2_measureForests_290 : decode cX2_measureForests 290 = .ok (.bipush 61, 2) := by decide +kernel
theorem dX2_measureForests_292 : decode cX2_measureForests 292 = .ok (.iadd, 1) := by decide +kernel
theorem dX2_measureForests_293 : decode cX2_measureForests 293 = .ok (.iconst 1, 1) := by decide +kernel
theorem dX2_measureForests_294 : decode cX2_measureForests 294 = .ok (.iadd, 1) := by decide +kernel
theorem dX2_measureForests_295 : decode cX2_measureForests 295 = .ok (.iaload, 1) := by decide +kernel
theorem dX2_measureForests_296 : decode cX2_measureForests 296 = .ok (.aload 6, 2) := by decide +kernel
theorem dX2_measureForests_298 : decode cX2_measureForests 298 = .ok (.aload 9, 2) := by decide +kernel
theorem dX2_measureForests_300 : decode cX2_measureForests 300 = .ok (.invokestatic 78, 3) := by decide +kernel
theorem dX2_measureForests_303 : decode cX2_measureForests 303 = .ok (.iadd, 1) := by decide +kernel
theorem dX2_measureForests_304 : decode cX2_measureForests 304 = .ok (.invokestatic 72, 3) := by decide +kernel
theorem dX2_measureForests_307 : decode cX2_measureForests 307 = .ok (.istore 12, 2) := by decide +kernel
theorem dX2_measureForests_309 : decode cX2_measureForests 309 = .ok (.aload_n 0, 1) := by decide +kernel
theorem dX2_measureForests_310 : decode cX2_measureForests 310 = .ok (.getfield 9, 3) := by decide +kernel
theorem dX2_measureForests_313 : decode cX2_measureForests 313 = .ok (.iload 5, 2) := by decide +kernel
theorem dX2_measureForests_315 : decode cX2_measureForests 315 = .ok (.bipush 60, 2) := by decide +kernel
theorem dX2_measureForests_317 : decode cX2_measureForests 317 = .ok (.imul, 1) := by decide +kernel
theorem dX2_measureForests_318 : decode cX2_measureForests 318 = .ok (.iload 8, 2) := by decide +kernel
theorem dX2_measureForests_320 : decode cX2_measureForests 320 = .ok (.iadd, 1) := by decide +kernel
theorem dX2_measureForests_321 : decode cX2_measureForests 321 = .ok (.iload 12, 2) := by decide +kernel
theorem dX2_measureForests_323 : decode cX2_measureForests 323 = .ok (.iastore, 1) := by decide +kernel
theorem dX2_measureForests_324 : decode cX2_measureForests 324 = .ok (.goto 41, 3) := by decide +kernel
theorem dX2_measureForests_327 : decode cX2_measureForests 327 = .ok (.aload_n 0, 1) := by decide +kernel
theorem dX2_measureForests_328 : decode cX2_measureForests 328 = .ok (.getfield 26, 3) := by decide +kernel
theorem dX2_measureForests_331 : decode cX2_measureForests 331 = .ok (.iload 7, 2) := by decide +kernel
theorem dX2_measureForests_333 : decode cX2_measureForests 333 = .ok (.bipush 61, 2) := by decide +kernel
theorem dX2_measureForests_335 : decode cX2_measureForests 335 = .ok (.imul, 1) := by decide +kernel
theorem dX2_measureForests_336 : decode cX2_measureForests 336 = .ok (.iload 10, 2) := by decide +kernel
theorem dX2_measureForests_338 : decode cX2_measureForests 338 = .ok (.iadd, 1) := by decide +kernel
theorem dX2_measureForests_339 : decode cX2_measureForests 339 = .ok (.iaload, 1) := by decide +kernel
theorem dX2_measureForests_340 : decode cX2_measureForests 340 = .ok (.aload_n 0, 1) := by decide +kernel
theorem dX2_measureForests_341 : decode cX2_measureForests 341 = .ok (.getfield 9, 3) := by decide +kernel
theorem dX2_measureForests_344 : decode cX2_measureForests 344 = .ok (.iload 5, 2) := by decide +kernel
theorem dX2_measureForests_346 : decode cX2_measureForests 346 = .ok (.bipush 60, 2) := by decide +kernel
theorem dX2_measureForests_348 : decode cX2_measureForests 348 = .ok (.imul, 1) := by decide +kernel
theorem dX2_measureForests_349 : decode cX2_measureForests 349 = .ok (.iload 8, 2) := by decide +kernel
theorem dX2_measureForests_351 : decode cX2_measureForests 351 = .ok (.iadd, 1) := by decide +kernel
theorem dX2_measureForests_352 : decode cX2_measureForests 352 = .ok (.iaload, 1) := by decide +kernel
theorem dX2_measureForests_353 : decode cX2_measureForests 353 = .ok (.iadd, 1) := by decide +kernel
theorem dX2_measureForests_354 : decode cX2_measureForests 354 = .ok (.istore 13, 2) := by decide +kernel
theorem dX2_measureForests_356 : decode cX2_measureForests 356 = .ok (.iload 12, 2) := by decide +kernel
theorem dX2_measureForests_358 : decode cX2_measureForests 358 = .ok (.iload 13, 2) := by decide +kernel
theorem dX2_measureForests_360 : decode cX2_measureForests 360 = .ok (.invokestatic 72, 3) := by decide +kernel
theorem dX2_measureForests_363 : decode cX2_measureForests 363 = .ok (.istore 12, 2) := by decide +kernel
theorem dX2_measureForests_365 : decode cX2_measureForests 365 = .ok (.aload_n 0, 1) := by decide +kernel
theorem dX2_measureForests_366 : decode cX2_measureForests 366 = .ok (.getfield 26, 3) := by decide +kernel
theorem dX2_measureForests_369 : decode cX2_measureForests 369 = .ok (.iload 11, 2) := by decide +kernel
theorem dX2_measureForests_371 : decode cX2_measureForests 371 = .ok (.iload 12, 2) := by decide +kernel
theorem dX2_measureForests_373 : decode cX2_measureForests 373 = .ok (.iastore, 1) := by decide +kernel
theorem dX2_measureForests_374 : decode cX2_measureForests 374 = .ok (.iinc 8 (-1), 3) := by decide +kernel
theorem dX2_measureForests_377 : decode cX2_measureForests 377 = .ok (.goto (-195), 3) := by decide +kernel
theorem dX2_measureForests_380 : decode cX2_measureForests 380 = .ok (.iinc 5 (-1), 3) := by decide +kernel
theorem dX2_measureForests_383 : decode cX2_measureForests 383 = .ok (.goto (-276), 3) := by decide +kernel
theorem dX2_measureForests_386 : decode cX2_measureForests 386 = .ok (.return_, 1) := by decide +kernel
theorem dX2_change_0 : decode cX2_change 0 = .ok (.aload_n 0, 1) := by decide +kernel
theorem dX2_change_1 : decode cX2_change 1 = .ok (.getfield 81, 3) := by decide +kernel
theorem dX2_change_4 : decode cX2_change 4 = .ok (.aload_n 1, 1) := by decide +kernel
theorem dX2_change_5 : decode cX2_change 5 = .ok (.getfield 81, 3) := by decide +kernel
theorem dX2_change_8 : decode cX2_change 8 = .ok (.lcmp, 1) := by decide +kernel
theorem dX2_change_9 : decode cX2_change 9 = .ok (.ifCond .ne 7, 3) := by decide +kernel
theorem dX2_change_12 : decode cX2_change 12 = .ok (.iconst 0, 1) := by decide +kernel
theorem dX2_change_13 : decode cX2_change 13 = .ok (.goto 4, 3) := by decide +kernel
theorem dX2_change_16 : decode cX2_change 16 = .ok (.iconst 4, 1) := by decide +kernel
theorem dX2_change_17 : decode cX2_change 17 = .ok (.aload_n 0, 1) := by decide +kernel
theorem dX2_change_18 : decode cX2_change 18 = .ok (.getfield 85, 3) := by decide +kernel
theorem dX2_change_21 : decode cX2_change 21 = .ok (.aload_n 1, 1) := by decide +kernel
theorem dX2_change_22 : decode cX2_change 22 = .ok (.getfield 85, 3) := by decide +kernel
theorem dX2_change_25 : decode cX2_change 25 = .ok (.lcmp, 1) := by decide +kernel
theorem dX2_change_26 : decode cX2_change 26 = .ok (.ifCond .ne 7, 3) := by decide +kernel
theorem dX2_change_29 : decode cX2_change 29 = .ok (.iconst 0, 1) := by decide +kernel
theorem dX2_change_30 : decode cX2_change 30 = .ok (.goto 4, 3) := by decide +kernel
theorem dX2_change_33 : decode cX2_change 33 = .ok (.iconst 2, 1) := by decide +kernel
theorem dX2_change_34 : decode cX2_change 34 = .ok (.iadd, 1) := by decide +kernel
theorem dX2_change_35 : decode cX2_change 35 = .ok (.aload_n 0, 1) := by decide +kernel
theorem dX2_change_36 : decode cX2_change 36 = .ok (.aload_n 1, 1) := by decide +kernel
theorem dX2_change_37 : decode cX2_change 37 = .ok (.invokevirtual 88, 3) := by decide +kernel
theorem dX2_change_40 : decode cX2_change 40 = .ok (.ifCond .eq 7, 3) := by decide +kernel
theorem dX2_change_43 : decode cX2_change 43 = .ok (.iconst 0, 1) := by decide +kernel
theorem dX2_change_44 : decode cX2_change 44 = .ok (.goto 4, 3) := by decide +kernel
theorem dX2_change_47 : decode cX2_change 47 = .ok (.iconst 1, 1) := by decide +kernel
theorem dX2_change_48 : decode cX2_change 48 = .ok (.iadd, 1) := by decide +kernel
theorem dX2_change_49 : decode cX2_change 49 = .ok (.ireturn, 1) := by decide +kernel
theorem dX2_changeAlone_0 : decode cX2_changeAlone 0 = .ok (.aload_n 0, 1) := by decide +kernel
theorem dX2_changeAlone_1 : decode cX2_changeAlone 1 = .ok (.ifnull 7, 3) := by decide +kernel
theorem dX2_changeAlone_4 : decode cX2_changeAlone 4 = .ok (.aload_n 1, 1) := by decide +kernel
theorem dX2_changeAlone_5 : decode cX2_changeAlone 5 = .ok (.ifnonnull 14, 3) := by decide +kernel
theorem dX2_changeAlone_8 : decode cX2_changeAlone 8 = .ok (.aload_n 0, 1) := by decide +kernel
theorem dX2_changeAlone_9 : decode cX2_changeAlone 9 = .ok (.aload_n 1, 1) := by decide +kernel
theorem dX2_changeAlone_10 : decode cX2_changeAlone 10 = .ok (.if_acmp .ne 7, 3) := by decide +kernel
theorem dX2_changeAlone_13 : decode cX2_changeAlone 13 = .ok (.iconst 0, 1) := by decide +kernel
theorem dX2_changeAlone_14 : decode cX2_changeAlone 14 = .ok (.goto 4, 3) := by decide +kernel
theorem dX2_changeAlone_17 : decode cX2_changeAlone 17 = .ok (.iconst 3, 1) := by decide +kernel
theorem dX2_changeAlone_18 : decode cX2_changeAlone 18 = .ok (.ireturn, 1) := by decide +kernel
theorem dX2_changeAlone_19 : decode cX2_changeAlone 19 = .ok (.aload_n 0, 1) := by decide +kernel
theorem dX2_changeAlone_20 : decode cX2_changeAlone 20 = .ok (.aload_n 1, 1) := by decide +kernel
theorem dX2_changeAlone_21 : decode cX2_changeAlone 21 = .ok (.invokestatic 78, 3) := by decide +kernel
theorem dX2_changeAlone_24 : decode cX2_changeAlone 24 = .ok (.ireturn, 1) := by decide +kernel
theorem dX3_init_0 : decode cX3_init 0 = .ok (.aload_n 0, 1) := by decide +kernel
theorem dX3_init_1 : decode cX3_init 1 = .ok (.invokespecial 3, 3) := by decide +kernel
theorem dX3_init_4 : decode cX3_init 4 = .ok (.aload_n 0, 1) := by decide +kernel
theorem dX3_init_5 : decode cX3_init 5 = .ok (.aload_n 1, 1) := by decide +kernel
theorem dX3_init_6 : decode cX3_init 6 = .ok (.putfield 9, 3) := by decide +kernel
theorem dX3_init_9 : decode cX3_init 9 = .ok (.aload_n 0, 1) := by decide +kernel
theorem dX3_init_10 : decode cX3_init 10 = .ok (.iload_n 2, 1) := by decide +kernel
theorem dX3_init_11 : decode cX3_init 11 = .ok (.putfield 15, 3) := by decide +kernel
theorem dX3_init_14 : decode cX3_init 14 = .ok (.aload_n 0, 1) := by decide +kernel
theorem dX3_init_15 : decode cX3_init 15 = .ok (.iload_n 3, 1) := by decide +kernel
theorem dX3_init_16 : decode cX3_init 16 = .ok (.putfield 19, 3) := by decide +kernel
theorem dX3_init_19 : decode cX3_init 19 = .ok (.aload_n 0, 1) := by decide +kernel
theorem dX3_init_20 : decode cX3_init 20 = .ok (.iload 4, 2) := by decide +kernel
theorem dX3_init_22 : decode cX3_init 22 = .ok (.putfield 22, 3) := by decide +kernel
theorem dX3_init_25 : decode cX3_init 25 = .ok (.return_, 1) := by decide +kernel
theorem dX3_of_0 : decode cX3_of 0 = .ok (.aload_n 0, 1) := by decide +kernel
theorem dX3_of_1 : decode cX3_of 1 = .ok (.getfield 25, 3) := by decide +kernel
theorem dX3_of_4 : decode cX3_of 4 = .ok (.aload_n 1, 1) := by decide +kernel
theorem dX3_of_5 : decode cX3_of 5 = .ok (.getfield 25, 3) := by decide +kernel
theorem dX3_of_8 : decode cX3_of 8 = .ok (.if_icmp .eq 5, 3) := by decide +kernel
theorem dX3_of_11 : decode cX3_of 11 = .ok (.aconst_null, 1) := by decide +kernel
theorem dX3_of_12 : decode cX3_of 12 = .ok (.areturn, 1) := by decide +kernel
theorem dX3_of_13 : decode cX3_of 13 = .ok (.aconst_null, 1) := by decide +kernel
theorem dX3_of_14 : decode cX3_of 14 = .ok (.astore_n 2, 1) := by decide +kernel
theorem dX3_of_15 : decode cX3_of 15 = .ok (.aconst_null, 1) := by decide +kernel
theorem dX3_of_16 : decode cX3_of 16 = .ok (.astore_n 3, 1) := by decide +kernel
theorem dX3_of_17 : decode cX3_of 17 = .ok (.aload_n 0, 1) := by decide +kernel
theorem dX3_of_18 : decode cX3_of 18 = .ok (.astore 4, 2) := by decide +kernel
theorem dX3_of_20 : decode cX3_of 20 = .ok (.aload_n 1, 1) := by decide +kernel
theorem dX3_of_21 : decode cX3_of 21 = .ok (.astore 5, 2) := by decide +kernel
theorem dX3_of_23 : decode cX3_of 23 = .ok (.aload 4, 2) := by decide +kernel
theorem dX3_of_25 : decode cX3_of 25 = .ok (.ifnull 81, 3) := by decide +kernel
theorem dX3_of_28 : decode cX3_of 28 = .ok (.aload 5, 2) := by decide +kernel
theorem dX3_of_30 : decode cX3_of 30 = .ok (.ifnull 76, 3) := by decide +kernel
theorem dX3_of_33 : decode cX3_of 33 = .ok (.aload 4, 2) := by decide +kernel
theorem dX3_of_35 : decode cX3_of 35 = .ok (.getfield 30, 3) := by decide +kernel
theorem dX3_of_38 : decode cX3_of 38 = .ok (.aload 5, 2) := by decide +kernel
theorem dX3_of_40 : decode cX3_of 40 = .ok (.getfield 30, 3) := by decide +kernel
theorem dX3_of_43 : decode cX3_of 43 = .ok (.if_icmp .eq 7, 3) := by decide +kernel
theorem dX3_of_46 : decode cX3_of 46 = .ok (.iconst 1, 1) := by decide +kernel
theorem dX3_of_47 : decode cX3_of 47 = .ok (.goto 4, 3) := by decide +kernel
theorem dX3_of_50 : decode cX3_of 50 = .ok (.iconst 0, 1) := by decide +kernel
theorem dX3_of_51 : decode cX3_of 51 = .ok (.istore 6, 2) := by decide +kernel
theorem dX3_of_53 : decode cX3_of 53 = .ok (.aload 4, 2) := by decide +kernel
theorem dX3_of_55 : decode cX3_of 55 = .ok (.getfield 33, 3) := by decide +kernel
theorem dX3_of_58 : decode cX3_of 58 = .ok (.aload 5, 2) := by decide +kernel
theorem dX3_of_60 : decode cX3_of 60 = .ok (.getfield 33, 3) := by decide +kernel
theorem dX3_of_63 : decode cX3_of 63 = .ok (.lcmp, 1) := by decide +kernel
theorem dX3_of_64 : decode cX3_of 64 = .ok (.ifCond .ne 12, 3) := by decide +kernel
theorem dX3_of_67 : decode cX3_of 67 = .ok (.iload 6, 2) := by decide +kernel
theorem dX3_of_69 : decode cX3_of 69 = .ok (.ifCond .eq 9, 3) := by decide +kernel
theorem dX3_of_72 : decode cX3_of 72 = .ok (.aload_n 2, 1) := by decide +kernel
theorem dX3_of_73 : decode cX3_of 73 = .ok (.ifnull 5, 3) := by decide +kernel
theorem dX3_of_76 : decode cX3_of 76 = .ok (.aconst_null, 1) := by decide +kernel
theorem dX3_of_77 : decode cX3_of 77 = .ok (.areturn, 1) := by decide +kernel
theorem dX3_of_78 : decode cX3_of 78 = .ok (.iload 6, 2) := by decide +kernel
theorem dX3_of_80 : decode cX3_of 80 = .ok (.ifCond .eq 9, 3) := by decide +kernel
theorem dX3_of_83 : decode cX3_of 83 = .ok (.aload 4, 2) := by decide +kernel
theorem dX3_of_85 : decode cX3_of 85 = .ok (.astore_n 2, 1) := by decide +kernel
theorem dX3_of_86 : decode cX3_of 86 = .ok (.aload 5, 2) := by decide +kernel
theorem dX3_of_88 : decode cX3_of 88 = .ok (.astore_n 3, 1) := by decide +kernel
theorem dX3_of_89 : decode cX3_of 89 = .ok (.aload 4, 2) := by decide +kernel
theorem dX3_of_91 : decode cX3_of 91 = .ok (.getfield 37, 3) := by decide +kernel
theorem dX3_of_94 : decode cX3_of 94 = .ok (.astore 4, 2) := by decide +kernel
theorem dX3_of_96 : decode cX3_of 96 = .ok (.aload 5, 2) := by decide +kernel
theorem dX3_of_98 : decode cX3_of 98 = .ok (.getfield 37, 3) := by decide +kernel
theorem dX3_of_101 : decode cX3_of 101 = .ok (.astore 5, 2) := by decide +kernel
theorem dX3_of_103 : decode cX3_of 103 = .ok (.goto (-80), 3) := by decide +kernel
theorem dX3_of_106 : decode cX3_of 106 = .ok (.aload_n 2, 1) := by decide +kernel
theorem dX3_of_107 : decode cX3_of 107 = .ok (.ifnull 7, 3) := by decide +kernel
theorem dX3_of_110 : decode cX3_of 110 = .ok (.aload_n 3, 1) := by decide +kernel
theorem dX3_of_111 : decode cX3_of 111 = .ok (.ifnonnull 5, 3) := by decide +kernel
theorem dX3_of_114 : decode cX3_of 114 = .ok (.aconst_null, 1) := by decide +kernel
theorem dX3_of_115 : decode cX3_of 115 = .ok (.areturn, 1) := by decide +kernel
theorem dX3_of_116 : decode cX3_of 116 = .ok (.aload_n 2, 1) := by decide +kernel
theorem dX3_of_117 : decode cX3_of 117 = .ok (.getfield 30, 3) := by decide +kernel
theorem dX3_of_120 : decode cX3_of 120 = .ok (.aload_n 3, 1) := by decide +kernel
theorem dX3_of_121 : decode cX3_of 121 = .ok (.getfield 30, 3) := by decide +kernel
theorem dX3_of_124 : decode cX3_of 124 = .ok (.invokestatic 40, 3) := by decide +kernel
theorem dX3_of_127 : decode cX3_of 127 = .ok (.istore 6, 2) := by decide +kernel
theorem dX3_of_129 : decode cX3_of 129 = .ok (.new 10, 3) := by decide +kernel
theorem dX3_of_132 : decode cX3_of 132 = .ok (.dup, 1) := by decide +kernel
theorem dX3_of_133 : decode cX3_of 133 = .ok (.aload_n 0, 1) := by decide +kernel
theorem dX3_of_134 : decode cX3_of 134 = .ok (.aload_n 2, 1) := by decide +kernel
theorem dX3_of_135 : decode cX3_of 135 = .ok (.getfield 25, 3) := by decide +kernel
theorem dX3_of_138 : decode cX3_of 138 = .ok (.iload 6, 2) := by decide +kernel
theorem dX3_of_140 : decode cX3_of 140 = .ok (.aload_n 2, 1) := by decide +kernel
theorem dX3_of_141 : decode cX3_of 141 = .ok (.getfield 30, 3) := by decide +kernel
theorem dX3_of_144 : decode cX3_of 144 = .ok (.aload_n 3, 1) := by decide +kernel
theorem dX3_of_145 : decode cX3_of 145 = .ok (.getfield 30, 3) := by decide +kernel
theorem dX3_of_148 : decode cX3_of 148 = .ok (.isub, 1) := by decide +kernel
theorem dX3_of_149 : decode cX3_of 149 = .ok (.invokestatic 46, 3) := by decide +kernel
theorem dX3_of_152 : decode cX3_of 152 = .ok (.invokespecial 50, 3) := by decide +kernel
theorem dX3_of_155 : decode cX3_of 155 = .ok (.areturn, 1) := by decide +kernel
theorem dX3_stepOn_0 : decode cX3_stepOn 0 = .ok (.aload_n 0, 1) := by decide +kernel
theorem dX3_stepOn_1 : decode cX3_stepOn 1 = .ok (.getfield 19, 3) := by decide +kernel
theorem dX3_stepOn_4 : decode cX3_stepOn 4 = .ok (.iload_n 2, 1) := by decide +kernel
theorem dX3_stepOn_5 : decode cX3_stepOn 5 = .ok (.aload_n 0, 1) := by decide +kernel
theorem dX3_stepOn_6 : decode cX3_stepOn 6 = .ok (.getfield 22, 3) := by decide +kernel
theorem dX3_stepOn_9 : decode cX3_stepOn 9 = .ok (.imul, 1) := by decide +kernel
theorem dX3_stepOn_10 : decode cX3_stepOn 10 = .ok (.iadd, 1) := by decide +kernel
theorem dX3_stepOn_11 : decode cX3_stepOn 11 = .ok (.istore_n 3, 1) := by decide +kernel
theorem dX3_stepOn_12 : decode cX3_stepOn 12 = .ok (.iconst 0, 1) := by decide +kernel
theorem dX3_stepOn_13 : decode cX3_stepOn 13 = .ok (.istore 4, 2) := by decide +kernel
theorem dX3_stepOn_15 : decode cX3_stepOn 15 = .ok (.iload 4, 2) := by decide +kernel
theorem dX3_stepOn_17 : decode cX3_stepOn 17 = .ok (.aload_n 1, 1) := by decide +kernel
theorem dX3_stepOn_18 : decode cX3_stepOn 18 = .ok (.getfield 53, 3) := by decide +kernel
theorem dX3_stepOn_21 : decode cX3_stepOn 21 = .ok (.if_icmp .ge 42, 3) := by decide +kernel
theorem dX3_stepOn_24 : decode cX3_stepOn 24 = .ok (.aload_n 1, 1) := by decide +kernel
theorem dX3_stepOn_25 : decode cX3_stepOn 25 = .ok (.iload 4, 2) := by decide +kernel
theorem dX3_stepOn_27 : decode cX3_stepOn 27 = .ok (.invokevirtual 58, 3) := by decide +kernel
theorem dX3_stepOn_30 : decode cX3_stepOn 30 = .ok (.astore 5, 2) := by decide +kernel
theorem dX3_stepOn_32 : decode cX3_stepOn 32 = .ok (.aload 5, 2) := by decide +kernel
theorem dX3_stepOn_34 : decode cX3_stepOn 34 = .ok (.ifnull 23, 3) := by decide +kernel
theorem dX3_stepOn_37 : decode cX3_stepOn 37 = .ok (.aload 5, 2) := by decide +kernel
theorem dX3_stepOn_39 : decode cX3_stepOn 39 = .ok (.aload_n 0, 1) := by decide +kernel
theorem dX3_stepOn_40 : decode cX3_stepOn 40 = .ok (.getfield 9, 3) := by decide +kernel
theorem dX3_stepOn_43 : decode cX3_stepOn 43 = .ok (.aload_n 0, 1) := by decide +kernel
theorem dX3_stepOn_44 : decode cX3_stepOn 44 = .ok (.getfield 15, 3) := by decide +kernel
theorem dX3_stepOn_47 : decode cX3_stepOn 47 = .ok (.iload_n 3, 1) := by decide +kernel
theorem dX3_stepOn_48 : decode cX3_stepOn 48 = .ok (.invokevirtual 62, 3) := by decide +kernel
theorem dX3_stepOn_51 : decode cX3_stepOn 51 = .ok (.ifCond .eq 6, 3) := by decide +kernel
theorem dX3_stepOn_54 : decode cX3_stepOn 54 = .ok (.aload 5, 2) := by decide +kernel
theorem dX3_stepOn_56 : decode cX3_stepOn 56 = .ok (.areturn, 1) := by decide +kernel
theorem dX3_stepOn_57 : decode cX3_stepOn 57 = .ok (.iinc 4 1, 3) := by decide +kernel
theorem dX3_stepOn_60 : decode cX3_stepOn 60 = .ok (.goto (-45), 3) := by decide +kernel
theorem dX3_stepOn_63 : decode cX3_stepOn 63 = .ok (.aconst_null, 1) := by decide +kernel
theorem dX3_stepOn_64 : decode cX3_stepOn 64 = .ok (.areturn, 1) := by decide +kernel
theorem dX3_countRows_0 : decode cX3_countRows 0 = .ok (.iconst 0, 1) := by decide +kernel
theorem dX3_countRows_1 : decode cX3_countRows 1 = .ok (.istore_n 2, 1) := by decide +kernel
theorem dX3_countRows_2 : decode cX3_countRows 2 = .ok (.iload_n 2, 1) := by decide +kernel
theorem dX3_countRows_3 : decode cX3_countRows 3 = .ok (.bipush 60, 2) := by decide +kernel
theorem dX3_countRows_5 : decode cX3_countRows 5 = .ok (.if_icmp .ge 18, 3) := by decide +kernel
theorem dX3_countRows_8 : decode cX3_countRows 8 = .ok (.aload_n 0, 1) := by decide +kernel
theorem dX3_countRows_9 : decode cX3_countRows 9 = .ok (.aload_n 1, 1) := by decide +kernel
theorem dX3_countRows_10 : decode cX3_countRows 10 = .ok (.iload_n 2, 1) := by decide +kernel
theorem dX3_countRows_11 : decode cX3_countRows 11 = .ok (.invokevirtual 66, 3) := by decide +kernel
theorem dX3_countRows_14 : decode cX3_countRows 14 = .ok (.ifnull 9, 3) := by decide +kernel
theorem dX3_countRows_17 : decode cX3_countRows 17 = .ok (.iinc 2 1, 3) := by decide +kernel
theorem dX3_countRows_20 : decode cX3_countRows 20 = .ok (.goto (-18), 3) := by decide +kernel
theorem dX3_countRows_23 : decode cX3_countRows 23 = .ok (.iload_n 2, 1) := by decide +kernel
theorem dX3_countRows_24 : decode cX3_countRows 24 = .ok (.ireturn, 1) := by decide +kernel
theorem dX3_rowOn_0 : decode cX3_rowOn 0 = .ok (.iconst 0, 1) := by decide +kernel
theorem dX3_rowOn_1 : decode cX3_rowOn 1 = .ok (.istore_n 3, 1) := by decide +kernel
theorem dX3_rowOn_2 : decode cX3_rowOn 2 = .ok (.iload_n 3, 1) := by decide +kernel
theorem dX3_rowOn_3 : decode cX3_rowOn 3 = .ok (.bipush 60, 2) := by decide +kernel
theorem dX3_rowOn_5 : decode cX3_rowOn 5 = .ok (.if_icmp .ge 35, 3) := by decide +kernel
theorem dX3_rowOn_8 : decode cX3_rowOn 8 = .ok (.iload_n 3, 1) := by decide +kernel
theorem dX3_rowOn_9 : decode cX3_rowOn 9 = .ok (.iload_n 2, 1) := by decide +kernel
theorem dX3_rowOn_10 : decode cX3_rowOn 10 = .ok (.if_icmp .gt 30, 3) := by decide +kernel
theorem dX3_rowOn_13 : decode cX3_rowOn 13 = .ok (.aload_n 0, 1) := by decide +kernel
theorem dX3_rowOn_14 : decode cX3_rowOn 14 = .ok (.aload_n 1, 1) := by decide +kernel
theorem dX3_rowOn_15 : decode cX3_rowOn 15 = .ok (.iload_n 3, 1) := by decide +kernel
theorem dX3_rowOn_16 : decode cX3_rowOn 16 = .ok (.invokevirtual 66, 3) := by decide +kernel
theorem dX3_rowOn_19 : decode cX3_rowOn 19 = .ok (.astore 4, 2) := by decide +kernel
theorem dX3_rowOn_21 : decode cX3_rowOn 21 = .ok (.aload 4, 2) := by decide +kernel
theorem dX3_rowOn_23 : decode cX3_rowOn 23 = .ok (.ifnull 8, 3) := by decide +kernel
theorem dX3_rowOn_26 : decode cX3_rowOn 26 = .ok (.iload_n 3, 1) := by decide +kernel
theorem dX3_rowOn_27 : decode cX3_rowOn 27 = .ok (.iload_n 2, 1) := by decide +kernel
theorem dX3_rowOn_28 : decode cX3_rowOn 28 = .ok (.if_icmp .ne 6, 3) := by decide +kernel
theorem dX3_rowOn_31 : decode cX3_rowOn 31 = .ok (.aload 4, 2) := by decide +kernel
theorem dX3_rowOn_33 : decode cX3_rowOn 33 = .ok (.areturn, 1) := by decide +kernel
theorem dX3_rowOn_34 : decode cX3_rowOn 34 = .ok (.iinc 3 1, 3) := by decide +kernel
theorem dX3_rowOn_37 : decode cX3_rowOn 37 = .ok (.goto (-35), 3) := by decide +kernel
theorem dX3_rowOn_40 : decode cX3_rowOn 40 = .ok (.aconst_null, 1) := by decide +kernel
theorem dX3_rowOn_41 : decode cX3_rowOn 41 = .ok (.areturn, 1) := by decide +kernel
theorem dX4_init_0 : decode cX4_init 0 = .ok (.aload_n 0, 1) := by decide +kernel
theorem dX4_init_1 : decode cX4_init 1 = .ok (.invokespecial 3, 3) := by decide +kernel
theorem dX4_init_4 : decode cX4_init 4 = .ok (.aload_n 0, 1) := by decide +kernel
theorem dX4_init_5 : decode cX4_init 5 = .ok (.bipush 60, 2) := by decide +kernel
theorem dX4_init_7 : decode cX4_init 7 = .ok (.anewarray 9, 3) := by decide +kernel
theorem dX4_init_10 : decode cX4_init 10 = .ok (.putfield 11, 3) := by decide +kernel
theorem dX4_init_13 : decode cX4_init 13 = .ok (.aload_n 0, 1) := by decide +kernel
theorem dX4_init_14 : decode cX4_init 14 = .ok (.iconst 0, 1) := by decide +kernel
theorem dX4_init_15 : decode cX4_init 15 = .ok (.putfield 17, 3) := by decide +kernel
theorem dX4_init_18 : decode cX4_init 18 = .ok (.return_, 1) := by decide +kernel
theorem dX4_at_0 : decode cX4_at 0 = .ok (.iload_n 1, 1) := by decide +kernel
theorem dX4_at_1 : decode cX4_at 1 = .ok (.ifCond .lt 11, 3) := by decide +kernel
theorem dX4_at_4 : decode cX4_at 4 = .ok (.iload_n 1, 1) := by decide +kernel
theorem dX4_at_5 : decode cX4_at 5 = .ok (.aload_n 0, 1) := by decide +kernel
theorem dX4_at_6 : decode cX4_at 6 = .ok (.getfield 17, 3) := by decide +kernel
theorem dX4_at_9 : decode cX4_at 9 = .ok (.if_icmp .lt 7, 3) := by decide +kernel
theorem dX4_at_12 : decode cX4_at 12 = .ok (.aconst_null, 1) := by decide +kernel
theorem dX4_at_13 : decode cX4_at 13 = .ok (.goto 9, 3) := by decide +kernel
theorem dX4_at_16 : decode cX4_at 16 = .ok (.aload_n 0, 1) := by decide +kernel
theorem dX4_at_17 : decode cX4_at 17 = .ok (.getfield 11, 3) := by decide +kernel
theorem dX4_at_20 : decode cX4_at 20 = .ok (.iload_n 1, 1) := by decide +kernel
theorem dX4_at_21 : decode cX4_at 21 = .ok (.aaload, 1) := by decide +kernel
theorem dX4_at_22 : decode cX4_at 22 = .ok (.areturn, 1) := by decide +kernel
theorem dX4_add_0 : decode cX4_add 0 = .ok (.aload_n 0, 1) := by decide +kernel
theorem dX4_add_1 : decode cX4_add 1 = .ok (.getfield 17, 3) := by decide +kernel
theorem dX4_add_4 : decode cX4_add 4 = .ok (.bipush 60, 2) := by decide +kernel
theorem dX4_add_6 : decode cX4_add 6 = .ok (.if_icmp .lt 5, 3) := by decide +kernel
theorem dX4_add_9 : decode cX4_add 9 = .ok (.aconst_null, 1) := by decide +kernel
theorem dX4_add_10 : decode cX4_add 10 = .ok (.areturn, 1) := by decide +kernel
theorem dX4_add_11 : decode cX4_add 11 = .ok (.new 9, 3) := by decide +kernel
theorem dX4_add_14 : decode cX4_add 14 = .ok (.dup, 1) := by decide +kernel
theorem dX4_add_15 : decode cX4_add 15 = .ok (.aload_n 0, 1) := by decide +kernel
theorem dX4_add_16 : decode cX4_add 16 = .ok (.lload_n 1, 1) := by decide +kernel
theorem dX4_add_17 : decode cX4_add 17 = .ok (.aload_n 3, 1) := by decide +kernel
theorem dX4_add_18 : decode cX4_add 18 = .ok (.aload 4, 2) := by decide +kernel
theorem dX4_add_20 : decode cX4_add 20 = .ok (.invokespecial 21, 3) := by decide +kernel
theorem dX4_add_23 : decode cX4_add 23 = .ok (.astore 5, 2) := by decide +kernel
theorem dX4_add_25 : decode cX4_add 25 = .ok (.aload 4, 2) := by decide +kernel
theorem dX4_add_27 : decode cX4_add 27 = .ok (.ifnull 10, 3) := by decide +kernel
theorem dX4_add_30 : decode cX4_add 30 = .ok (.aload 4, 2) := by decide +kernel
theorem dX4_add_32 : decode cX4_add 32 = .ok (.aload 5, 2) := by decide +kernel
theorem dX4_add_34 : decode cX4_add 34 = .ok (.putfield 24, 3) := by decide +kernel
theorem dX4_add_37 : decode cX4_add 37 = .ok (.aload_n 3, 1) := by decide +kernel
theorem dX4_add_38 : decode cX4_add 38 = .ok (.astore 6, 2) := by decide +kernel
theorem dX4_add_40 : decode cX4_add 40 = .ok (.aload 6, 2) := by decide +kernel
theorem dX4_add_42 : decode cX4_add 42 = .ok (.ifnull 24, 3) := by decide +kernel
theorem dX4_add_45 : decode cX4_add 45 = .ok (.aload 6, 2) := by decide +kernel
theorem dX4_add_47 : decode cX4_add 47 = .ok (.dup, 1) := by decide +kernel
theorem dX4_add_48 : decode cX4_add 48 = .ok (.getfield 28, 3) := by decide +kernel
theorem dX4_add_51 : decode cX4_add 51 = .ok (.iconst 1, 1) := by decide +kernel
theorem dX4_add_52 : decode cX4_add 52 = .ok (.iadd, 1) := by decide +kernel
theorem dX4_add_53 : decode cX4_add 53 = .ok (.putfield 28, 3) := by decide +kernel
theorem dX4_add_56 : decode cX4_add 56 = .ok (.aload 6, 2) := by decide +kernel
theorem dX4_add_58 : decode cX4_add 58 = .ok (.getfield 31, 3) := by decide +kernel
theorem dX4_add_61 : decode cX4_add 61 = .ok (.astore 6, 2) := by decide +kernel
theorem dX4_add_63 : decode cX4_add 63 = .ok (.goto (-23), 3) := by decide +kernel
theorem dX4_add_66 : decode cX4_add 66 = .ok (.aload_n 0, 1) := by decide +kernel
theorem dX4_add_67 : decode cX4_add 67 = .ok (.getfield 11, 3) := by decide +kernel
theorem dX4_add_70 : decode cX4_add 70 = .ok (.aload_n 0, 1) := by decide +kernel
theorem dX4_add_71 : decode cX4_add 71 = .ok (.getfield 17, 3) := by decide +kernel
theorem dX4_add_74 : decode cX4_add 74 = .ok (.aload 5, 2) := by decide +kernel
theorem dX4_add_76 : decode cX4_add 76 = .ok (.aastore, 1) := by decide +kernel
theorem dX4_add_77 : decode cX4_add 77 = .ok (.aload_n 0, 1) := by decide +kernel
theorem dX4_add_78 : decode cX4_add 78 = .ok (.dup, 1) := by decide +kernel
theorem dX4_add_79 : decode cX4_add 79 = .ok (.getfield 17, 3) := by decide +kernel
theorem dX4_add_82 : decode cX4_add 82 = .ok (.iconst 1, 1) := by decide +kernel
theorem dX4_add_83 : decode cX4_add 83 = .ok (.iadd, 1) := by decide +kernel
theorem dX4_add_84 : decode cX4_add 84 = .ok (.putfield 17, 3) := by decide +kernel
theorem dX4_add_87 : decode cX4_add 87 = .ok (.aload 5, 2) := by decide +kernel
theorem dX4_add_89 : decode cX4_add 89 = .ok (.areturn, 1) := by decide +kernel
theorem dX4_countFitting_0 : decode cX4_countFitting 0 = .ok (.iconst 0, 1) := by decide +kernel
theorem dX4_countFitting_1 : decode cX4_countFitting 1 = .ok (.istore_n 3, 1) := by decide +kernel
theorem dX4_countFitting_2 : decode cX4_countFitting 2 = .ok (.iconst 0, 1) := by decide +kernel
theorem dX4_countFitting_3 : decode cX4_countFitting 3 = .ok (.istore 4, 2) := by decide +kernel
theorem dX4_countFitting_5 : decode cX4_countFitting 5 = .ok (.iload 4, 2) := by decide +kernel
theorem dX4_countFitting_7 : decode cX4_countFitting 7 = .ok (.aload_n 0, 1) := by decide +kernel
theorem dX4_countFitting_8 : decode cX4_countFitting 8 = .ok (.getfield 17, 3) := by decide +kernel
theorem dX4_countFitting_11 : decode cX4_countFitting 11 = .ok (.if_icmp .ge 35, 3) := by decide +kernel
theorem dX4_countFitting_14 : decode cX4_countFitting 14 = .ok (.aload_n 0, 1) := by decide +kernel
theorem dX4_countFitting_15 : decode cX4_countFitting 15 = .ok (.iload 4, 2) := by decide +kernel
theorem dX4_countFitting_17 : decode cX4_countFitting 17 = .ok (.invokevirtual 34, 3) := by decide +kernel
theorem dX4_countFitting_20 : decode cX4_countFitting 20 = .ok (.astore 5, 2) := by decide +kernel
theorem dX4_countFitting_22 : decode cX4_countFitting 22 = .ok (.aload 5, 2) := by decide +kernel
theorem dX4_countFitting_24 : decode cX4_countFitting 24 = .ok (.ifnull 16, 3) := by decide +kernel
theorem dX4_countFitting_27 : decode cX4_countFitting 27 = .ok (.aload 5, 2) := by decide +kernel
theorem dX4_countFitting_29 : decode cX4_countFitting 29 = .ok (.aload_n 1, 1) := by decide +kernel
theorem dX4_countFitting_30 : decode cX4_countFitting 30 = .ok (.iload_n 2, 1) := by decide +kernel
theorem dX4_countFitting_31 : decode cX4_countFitting 31 = .ok (.invokevirtual 38, 3) := by decide +kernel
theorem dX4_countFitting_34 : decode cX4_countFitting 34 = .ok (.ifCond .eq 6, 3) := by decide +kernel
theorem dX4_countFitting_37 : decode cX4_countFitting 37 = .ok (.iinc 3 1, 3) := by decide +kernel
theorem dX4_countFitting_40 : decode cX4_countFitting 40 = .ok (.iinc 4 1, 3) := by decide +kernel
theorem dX4_countFitting_43 : decode cX4_countFitting 43 = .ok (.goto (-38), 3) := by decide +kernel
theorem dX4_countFitting_46 : decode cX4_countFitting 46 = .ok (.iload_n 3, 1) := by decide +kernel
theorem dX4_countFitting_47 : decode cX4_countFitting 47 = .ok (.ireturn, 1) := by decide +kernel
theorem dX4_fitting_0 : decode cX4_fitting 0 = .ok (.iload_n 3, 1) := by decide +kernel
theorem dX4_fitting_1 : decode cX4_fitting 1 = .ok (.istore 4, 2) := by decide +kernel
theorem dX4_fitting_3 : decode cX4_fitting 3 = .ok (.iconst 0, 1) := by decide +kernel
theorem dX4_fitting_4 : decode cX4_fitting 4 = .ok (.istore 5, 2) := by decide +kernel
theorem dX4_fitting_6 : decode cX4_fitting 6 = .ok (.iload 5, 2) := by decide +kernel
theorem dX4_fitting_8 : decode cX4_fitting 8 = .ok (.aload_n 0, 1) := by decide +kernel
theorem dX4_fitting_9 : decode cX4_fitting 9 = .ok (.getfield 17, 3) := by decide +kernel
theorem dX4_fitting_12 : decode cX4_fitting 12 = .ok (.if_icmp .ge 48, 3) := by decide +kernel
theorem dX4_fitting_15 : decode cX4_fitting 15 = .ok (.iload 4, 2) := by decide +kernel
theorem dX4_fitting_17 : decode cX4_fitting 17 = .ok (.ifCond .lt 43, 3) := by decide +kernel
theorem dX4_fitting_20 : decode cX4_fitting 20 = .ok (.aload_n 0, 1) := by decide +kernel
theorem dX4_fitting_21 : decode cX4_fitting 21 = .ok (.iload 5, 2) := by decide +kernel
theorem dX4_fitting_23 : decode cX4_fitting 23 = .ok (.invokevirtual 34, 3) := by decide +kernel
theorem dX4_fitting_26 : decode cX4_fitting 26 = .ok (.astore 6, 2) := by decide +kernel
theorem dX4_fitting_28 : decode cX4_fitting 28 = .ok (.aload 6, 2) := by decide +kernel
theorem dX4_fitting_30 : decode cX4_fitting 30 = .ok (.ifnull 24, 3) := by decide +kernel
theorem dX4_fitting_33 : decode cX4_fitting 33 = .ok (.aload 6, 2) := by decide +kernel
theorem dX4_fitting_35 : decode cX4_fitting 35 = .ok (.aload_n 1, 1) := by decide +kernel
theorem dX4_fitting_36 : decode cX4_fitting 36 = .ok (.iload_n 2, 1) := by decide +kernel
theorem dX4_fitting_37 : decode cX4_fitting 37 = .ok (.invokevirtual 38, 3) := by decide +kernel
theorem dX4_fitting_40 : decode cX4_fitting 40 = .ok (.ifCond .eq 14, 3) := by decide +kernel
theorem dX4_fitting_43 : decode cX4_fitting 43 = .ok (.iload 4, 2) := by decide +kernel
theorem dX4_fitting_45 : decode cX4_fitting 45 = .ok (.ifCond .ne 6, 3) := by decide +kernel
theorem dX4_fitting_48 : decode cX4_fitting 48 = .ok (.aload 6, 2) := by decide +kernel
theorem dX4_fitting_50 : decode cX4_fitting 50 = .ok (.areturn, 1) := by decide +kernel
theorem dX4_fitting_51 : decode cX4_fitting 51 = .ok (.iinc 4 (-1), 3) := by decide +kernel
theorem dX4_fitting_54 : decode cX4_fitting 54 = .ok (.iinc 5 1, 3) := by decide +kernel
theorem dX4_fitting_57 : decode cX4_fitting 57 = .ok (.goto (-51), 3) := by decide +kernel
theorem dX4_fitting_60 : decode cX4_fitting 60 = .ok (.aconst_null, 1) := by decide +kernel
theorem dX4_fitting_61 : decode cX4_fitting 61 = .ok (.areturn, 1) := by decide +kernel
theorem dX5_init_0 : decode cX5_init 0 = .ok (.aload_n 0, 1) := by decide +kernel
theorem dX5_init_1 : decode cX5_init 1 = .ok (.invokespecial 3, 3) := by decide +kernel
theorem dX5_init_4 : decode cX5_init 4 = .ok (.aload_n 0, 1) := by decide +kernel
theorem dX5_init_5 : decode cX5_init 5 = .ok (.aconst_null, 1) := by decide +kernel
theorem dX5_init_6 : decode cX5_init 6 = .ok (.putfield 9, 3) := by decide +kernel
theorem dX5_init_9 : decode cX5_init 9 = .ok (.aload_n 0, 1) := by decide +kernel
theorem dX5_init_10 : decode cX5_init 10 = .ok (.iconst 0, 1) := by decide +kernel
theorem dX5_init_11 : decode cX5_init 11 = .ok (.putfield 15, 3) := by decide +kernel
theorem dX5_init_14 : decode cX5_init 14 = .ok (.aload_n 0, 1) := by decide +kernel
theorem dX5_init_15 : decode cX5_init 15 = .ok (.lconst 0, 1) := by decide +kernel
theorem dX5_init_16 : decode cX5_init 16 = .ok (.putfield 19, 3) := by decide +kernel
theorem dX5_init_19 : decode cX5_init 19 = .ok (.aload_n 0, 1) := by decide +kernel
theorem dX5_init_20 : decode cX5_init 20 = .ok (.lconst 0, 1) := by decide +kernel
theorem dX5_init_21 : decode cX5_init 21 = .ok (.putfield 23, 3) := by decide +kernel
theorem dX5_init_24 : decode cX5_init 24 = .ok (.aload_n 0, 1) := by decide +kernel
theorem dX5_init_25 : decode cX5_init 25 = .ok (.lconst 0, 1) := by decide +kernel
theorem dX5_init_26 : decode cX5_init 26 = .ok (.putfield 26, 3) := by decide +kernel
theorem dX5_init_29 : decode cX5_init 29 = .ok (.aload_n 0, 1) := by decide +kernel
theorem dX5_init_30 : decode cX5_init 30 = .ok (.iconst (-1), 1) := by decide +kernel
theorem dX5_init_31 : decode cX5_init 31 = .ok (.putfield 29, 3) := by decide +kernel
theorem dX5_init_34 : decode cX5_init 34 = .ok (.aload_n 0, 1) := by decide +kernel
theorem dX5_init_35 : decode cX5_init 35 = .ok (.iconst 0, 1) := by decide +kernel
theorem dX5_init_36 : decode cX5_init 36 = .ok (.putfield 32, 3) := by decide +kernel
theorem dX5_init_39 : decode cX5_init 39 = .ok (.aload_n 0, 1) := by decide +kernel
theorem dX5_init_40 : decode cX5_init 40 = .ok (.iconst 0, 1) := by decide +kernel
theorem dX5_init_41 : decode cX5_init 41 = .ok (.putfield 36, 3) := by decide +kernel
theorem dX5_init_44 : decode cX5_init 44 = .ok (.aload_n 0, 1) := by decide +kernel
theorem dX5_init_45 : decode cX5_init 45 = .ok (.iconst 0, 1) := by decide +kernel
theorem dX5_init_46 : decode cX5_init 46 = .ok (.putfield 39, 3) := by decide +kernel
theorem dX5_init_49 : decode cX5_init 49 = .ok (.aload_n 0, 1) := by decide +kernel
theorem dX5_init_50 : decode cX5_init 50 = .ok (.aload_n 1, 1) := by decide +kernel
theorem dX5_init_51 : decode cX5_init 51 = .ok (.putfield 42, 3) := by decide +kernel
theorem dX5_init_54 : decode cX5_init 54 = .ok (.aload_n 0, 1) := by decide +kernel
theorem dX5_init_55 : decode cX5_init 55 = .ok (.lload_n 2, 1) := by decide +kernel
theorem dX5_init_56 : decode cX5_init 56 = .ok (.putfield 46, 3) := by decide +kernel
theorem dX5_init_59 : decode cX5_init 59 = .ok (.aload_n 0, 1) := by decide +kernel
theorem dX5_init_60 : decode cX5_init 60 = .ok (.aload 4, 2) := by decide +kernel
theorem dX5_init_62 : decode cX5_init 62 = .ok (.putfield 49, 3) := by decide +kernel
theorem dX5_init_65 : decode cX5_init 65 = .ok (.aload_n 0, 1) := by decide +kernel
theorem dX5_init_66 : decode cX5_init 66 = .ok (.aload 5, 2) := by decide +kernel
theorem dX5_init_68 : decode cX5_init 68 = .ok (.putfield 52, 3) := by decide +kernel
theorem dX5_init_71 : decode cX5_init 71 = .ok (.aload_n 0, 1) := by decide +kernel
theorem dX5_init_72 : decode cX5_init 72 = .ok (.aload_n 1, 1) := by decide +kernel
theorem dX5_init_73 : decode cX5_init 73 = .ok (.getfield 55, 3) := by decide +kernel
theorem dX5_init_76 : decode cX5_init 76 = .ok (.putfield 60, 3) := by decide +kernel
theorem dX5_init_79 : decode cX5_init 79 = .ok (.aload_n 0, 1) := by decide +kernel
theorem dX5_init_80 : decode cX5_init 80 = .ok (.aload_n 1, 1) := by decide +kernel
theorem dX5_init_81 : decode cX5_init 81 = .ok (.aload_n 1, 1) := by decide +kernel
theorem dX5_init_82 : decode cX5_init 82 = .ok (.getfield 55, 3) := by decide +kernel
theorem dX5_init_85 : decode cX5_init 85 = .ok (.iconst 1, 1) := by decide +kernel
theorem dX5_init_86 : decode cX5_init 86 = .ok (.isub, 1) := by decide +kernel
theorem dX5_init_87 : decode cX5_init 87 = .ok (.invokevirtual 63, 3) := by decide +kernel
theorem dX5_init_90 : decode cX5_init 90 = .ok (.invokestatic 67, 3) := by decide +kernel
theorem dX5_init_93 : decode cX5_init 93 = .ok (.putfield 71, 3) := by decide +kernel
theorem dX5_init_96 : decode cX5_init 96 = .ok (.aload_n 0, 1) := by decide +kernel
theorem dX5_init_97 : decode cX5_init 97 = .ok (.aload 5, 2) := by decide +kernel
theorem dX5_init_99 : decode cX5_init 99 = .ok (.lload_n 2, 1) := by decide +kernel
theorem dX5_init_100 : decode cX5_init 100 = .ok (.invokestatic 74, 3) := by decide +kernel
theorem dX5_init_103 : decode cX5_init 103 = .ok (.putfield 78, 3) := by decide +kernel
theorem dX5_init_106 : decode cX5_init 106 = .ok (.aload_n 0, 1) := by decide +kernel
theorem dX5_init_107 : decode cX5_init 107 = .ok (.aload 4, 2) := by decide +kernel
theorem dX5_init_109 : decode cX5_init 109 = .ok (.ifnonnull 7, 3) := by decide +kernel
theorem dX5_init_112 : decode cX5_init 112 = .ok (.iconst 0, 1) := by decide +kernel
theorem dX5_init_113 : decode cX5_init 113 = .ok (.goto 10, 3) := by decide +kernel
theorem dX5_init_116 : decode cX5_init 116 = .ok (.aload 4, 2) := by decide +kernel
theorem dX5_init_118 : decode cX5_init 118 = .ok (.getfield 81, 3) := by decide +kernel
theorem dX5_init_121 : decode cX5_init 121 = .ok (.iconst 1, 1) := by decide +kernel
theorem dX5_init_122 : decode cX5_init 122 = .ok (.iadd, 1) := by decide +kernel
theorem dX5_init_123 : decode cX5_init 123 = .ok (.putfield 81, 3) := by decide +kernel
theorem dX5_init_126 : decode cX5_init 126 = .ok (.return_, 1) := by decide +kernel
theorem dX5_labelBehind_0 : decode cX5_labelBehind 0 = .ok (.aload_n 0, 1) := by decide +kernel
theorem dX5_labelBehind_1 : decode cX5_labelBehind 1 = .ok (.ifnonnull 5, 3) := by decide +kernel
theorem dX5_labelBehind_4 : decode cX5_labelBehind 4 = .ok (.aconst_null, 1) := by decide +kernel
theorem dX5_labelBehind_5 : decode cX5_labelBehind 5 = .ok (.areturn, 1) := by decide +kernel
theorem dX5_labelBehind_6 : decode cX5_labelBehind 6 = .ok (.aload_n 0, 1) := by decide +kernel
theorem dX5_labelBehind_7 : decode cX5_labelBehind 7 = .ok (.getfield 46, 3) := by decide +kernel
theorem dX5_labelBehind_10 : decode cX5_labelBehind 10 = .ok (.ldc2_w 84, 3) := by decide +kernel
theorem dX5_labelBehind_13 : decode cX5_labelBehind 13 = .ok (.lcmp, 1) := by decide +kernel
theorem dX5_labelBehind_14 : decode cX5_labelBehind 14 = .ok (.ifCond .ne 14, 3) := by decide +kernel
theorem dX5_labelBehind_17 : decode cX5_labelBehind 17 = .ok (.aload_n 0, 1) := by decide +kernel
theorem dX5_labelBehind_18 : decode cX5_labelBehind 18 = .ok (.getfield 29, 3) := by decide +kernel
theorem dX5_labelBehind_21 : decode cX5_labelBehind 21 = .ok (.ifCond .le 7, 3) := by decide +kernel
theorem dX5_labelBehind_24 : decode cX5_labelBehind 24 = .ok (.aload_n 0, 1) := by decide +kernel
theorem dX5_labelBehind_25 : decode cX5_labelBehind 25 = .ok (.goto 7, 3) := by decide +kernel
theorem dX5_labelBehind_28 : decode cX5_labelBehind 28 = .ok (.aload_n 0, 1) := by decide +kernel
theorem dX5_labelBehind_29 : decode cX5_labelBehind 29 = .ok (.getfield 71, 3) := by decide +kernel
theorem dX5_labelBehind_32 : decode cX5_labelBehind 32 = .ok (.areturn, 1) := by decide +kernel
theorem dX5_turnBehind_0 : decode cX5_turnBehind 0 = .ok (.aload_n 0, 1) := by decide +kernel
theorem dX5_turnBehind_1 : decode cX5_turnBehind 1 = .ok (.astore_n 3, 1) := by decide +kernel
theorem dX5_turnBehind_2 : decode cX5_turnBehind 2 = .ok (.aload_n 3, 1) := by decide +kernel
theorem dX5_turnBehind_3 : decode cX5_turnBehind 3 = .ok (.ifnull 27, 3) := by decide +kernel
theorem dX5_turnBehind_6 : decode cX5_turnBehind 6 = .ok (.aload_n 3, 1) := by decide +kernel
theorem dX5_turnBehind_7 : decode cX5_turnBehind 7 = .ok (.getfield 46, 3) := by decide +kernel
theorem dX5_turnBehind_10 : decode cX5_turnBehind 10 = .ok (.lload_n 1, 1) := by decide +kernel
theorem dX5_turnBehind_11 : decode cX5_turnBehind 11 = .ok (.lcmp, 1) := by decide +kernel
theorem dX5_turnBehind_12 : decode cX5_turnBehind 12 = .ok (.ifCond .ne 10, 3) := by decide +kernel
theorem dX5_turnBehind_15 : decode cX5_turnBehind 15 = .ok (.aload_n 3, 1) := by decide +kernel
theorem dX5_turnBehind_16 : decode cX5_turnBehind 16 = .ok (.getfield 78, 3) := by decide +kernel
theorem dX5_turnBehind_19 : decode cX5_turnBehind 19 = .ok (.iconst 1, 1) := by decide +kernel
theorem dX5_turnBehind_20 : decode cX5_turnBehind 20 = .ok (.iadd, 1) := by decide +kernel
theorem dX5_turnBehind_21 : decode cX5_turnBehind 21 = .ok (.ireturn, 1) := by decide +kernel
theorem dX5_turnBehind_22 : decode cX5_turnBehind 22 = .ok (.aload_n 3, 1) := by decide +kernel
theorem dX5_turnBehind_23 : decode cX5_turnBehind 23 = .ok (.getfield 52, 3) := by decide +kernel
theorem dX5_turnBehind_26 : decode cX5_turnBehind 26 = .ok (.astore_n 3, 1) := by decide +kernel
theorem dX5_turnBehind_27 : decode cX5_turnBehind 27 = .ok (.goto (-25), 3) := by decide +kernel
theorem dX5_turnBehind_30 : decode cX5_turnBehind 30 = .ok (.iconst 0, 1) := by decide +kernel
theorem dX5_turnBehind_31 : decode cX5_turnBehind 31 = .ok (.ireturn, 1) := by decide +kernel
theorem dX5_textByte_0 : decode cX5_textByte 0 = .ok (.iload_n 1, 1) := by decide +kernel
theorem dX5_textByte_1 : decode cX5_textByte 1 = .ok (.ifCond .lt 11, 3) := by decide +kernel
theorem dX5_textByte_4 : decode cX5_textByte 4 = .ok (.iload_n 1, 1) := by decide +kernel
theorem dX5_textByte_5 : decode cX5_textByte 5 = .ok (.aload_n 0, 1) := by decide +kernel
theorem dX5_textByte_6 : decode cX5_textByte 6 = .ok (.getfield 29, 3) := by decide +kernel
theorem dX5_textByte_9 : decode cX5_textByte 9 = .ok (.if_icmp .lt 5, 3) := by decide +kernel
theorem dX5_textByte_12 : decode cX5_textByte 12 = .ok (.iconst (-1), 1) := by decide +kernel
theorem dX5_textByte_13 : decode cX5_textByte 13 = .ok (.ireturn, 1) := by decide +kernel
theorem dX5_textByte_14 : decode cX5_textByte 14 = .ok (.iload_n 1, 1) := by decide +kernel
theorem dX5_textByte_15 : decode cX5_textByte 15 = .ok (.bipush 8, 2) := by decide +kernel
theorem dX5_textByte_17 : decode cX5_textByte 17 = .ok (.if_icmp .ge 7, 3) := by decide +kernel
theorem dX5_textByte_20 : decode cX5_textByte 20 = .ok (.iconst 1, 1) := by decide +kernel
theorem dX5_textByte_21 : decode cX5_textByte 21 = .ok (.goto 4, 3) := by decide +kernel
theorem dX5_textByte_24 : decode cX5_textByte 24 = .ok (.iconst 0, 1) := by decide +kernel
theorem dX5_textByte_25 : decode cX5_textByte 25 = .ok (.istore_n 2, 1) := by decide +kernel
theorem dX5_textByte_26 : decode cX5_textByte 26 = .ok (.iload_n 2, 1) := by decide +kernel
theorem dX5_textByte_27 : decode cX5_textByte 27 = .ok (.ifCond .eq 10, 3) := by decide +kernel
theorem dX5_textByte_30 : decode cX5_textByte 30 = .ok (.aload_n 0, 1) := by decide +kernel
theorem dX5_textByte_31 : decode cX5_textByte 31 = .ok (.getfield 23, 3) := by decide +kernel
theorem dX5_textByte_34 : decode cX5_textByte 34 = .ok (.goto 7, 3) := by decide +kernel
theorem dX5_textByte_37 : decode cX5_textByte 37 = .ok (.aload_n 0, 1) := by decide +kernel
theorem dX5_textByte_38 : decode cX5_textByte 38 = .ok (.getfield 26, 3) := by decide +kernel
theorem dX5_textByte_41 : decode cX5_textByte 41 = .ok (.lstore_n 3, 1) := by decide +kernel
theorem dX5_textByte_42 : decode cX5_textByte 42 = .ok (.lload_n 3, 1) := by decide +kernel
theorem dX5_textByte_43 : decode cX5_textByte 43 = .ok (.bipush 8, 2) := by decide +kernel
theorem dX5_textByte_45 : decode cX5_textByte 45 = .ok (.iload_n 2, 1) := by decide +kernel
theorem dX5_textByte_46 : decode cX5_textByte 46 = .ok (.ifCond .eq 7, 3) := by decide +kernel
theorem dX5_textByte_49 : decode cX5_textByte 49 = .ok (.iload_n 1, 1) := by decide +kernel
theorem dX5_textByte_50 : decode cX5_textByte 50 = .ok (.goto 7, 3) := by decide +kernel
theorem dX5_textByte_53 : decode cX5_textByte 53 = .ok (.iload_n 1, 1) := by decide +kernel
theorem dX5_textByte_54 : decode cX5_textByte 54 = .ok (.bipush 8, 2) := by decide +kernel
theorem dX5_textByte_56 : decode cX5_textByte 56 = .ok (.isub, 1) := by decide +kernel
theorem dX5_textByte_57 : decode cX5_textByte 57 = .ok (.imul, 1) := by decide +kernel
theorem dX5_textByte_58 : decode cX5_textByte 58 = .ok (.lshr, 1) := by decide +kernel
theorem dX5_textByte_59 : decode cX5_textByte 59 = .ok (.l2i, 1) := by decide +kernel
theorem dX5_textByte_60 : decode cX5_textByte 60 = .ok (.sipush 255, 3) := by decide +kernel
theorem dX5_textByte_63 : decode cX5_textByte 63 = .ok (.iand, 1) := by decide +kernel
theorem dX5_textByte_64 : decode cX5_textByte 64 = .ok (.ireturn, 1) := by decide +kernel
theorem dX5_isHarmful_0 : decode cX5_isHarmful 0 = .ok (.aload_n 0, 1) := by decide +kernel
theorem dX5_isHarmful_1 : decode cX5_isHarmful 1 = .ok (.astore_n 1, 1) := by decide +kernel
theorem dX5_isHarmful_2 : decode cX5_isHarmful 2 = .ok (.aload_n 1, 1) := by decide +kernel
theorem dX5_isHarmful_3 : decode cX5_isHarmful 3 = .ok (.ifnull 20, 3) := by decide +kernel
theorem dX5_isHarmful_6 : decode cX5_isHarmful 6 = .ok (.aload_n 1, 1) := by decide +kernel
theorem dX5_isHarmful_7 : decode cX5_isHarmful 7 = .ok (.getfield 32, 3) := by decide +kernel
theorem dX5_isHarmful_10 : decode cX5_isHarmful 10 = .ok (.ifCond .eq 5, 3) := by decide +kernel
theorem dX5_isHarmful_13 : decode cX5_isHarmful 13 = .ok (.iconst 1, 1) := by decide +kernel
theorem dX5_isHarmful_14 : decode cX5_isHarmful 14 = .ok (.ireturn, 1) := by decide +kernel
theorem dX5_isHarmful_15 : decode cX5_isHarmful 15 = .ok (.aload_n 1, 1) := by decide +kernel
theorem dX5_isHarmful_16 : decode cX5_isHarmful 16 = .ok (.getfield 49, 3) := by decide +kernel
theorem dX5_isHarmful_19 : decode cX5_isHarmful 19 = .ok (.astore_n 1, 1) := by decide +kernel
theorem dX5_isHarmful_20 : decode cX5_isHarmful 20 = .ok (.goto (-18), 3) := by decide +kernel
theorem dX5_isHarmful_23 : decode cX5_isHarmful 23 = .ok (.iconst 0, 1) := by decide +kernel
theorem dX5_isHarmful_24 : decode cX5_isHarmful 24 = .ok (.ireturn, 1) := by decide +kernel
theorem dX5_hasTextOf_0 : decode cX5_hasTextOf 0 = .ok (.aload_n 0, 1) := by decide +kernel
theorem dX5_hasTextOf_1 : decode cX5_hasTextOf 1 = .ok (.getfield 29, 3) := by decide +kernel
theorem dX5_hasTextOf_4 : decode cX5_hasTextOf 4 = .ok (.aload_n 1, 1) := by decide +kernel
theorem dX5_hasTextOf_5 : decode cX5_hasTextOf 5 = .ok (.getfield 29, 3) := by decide +kernel
theorem dX5_hasTextOf_8 : decode cX5_hasTextOf 8 = .ok (.if_icmp .ne 31, 3) := by decide +kernel
theorem dX5_hasTextOf_11 : decode cX5_hasTextOf 11 = .ok (.aload_n 0, 1) := by decide +kernel
theorem dX5_hasTextOf_12 : decode cX5_hasTextOf 12 = .ok (.getfield 23, 3) := by decide +kernel
theorem dX5_hasTextOf_15 : decode cX5_hasTextOf 15 = .ok (.aload_n 1, 1) := by decide +kernel
theorem dX5_hasTextOf_16 : decode cX5_hasTextOf 16 = .ok (.getfield 23, 3) := by decide +kernel
theorem dX5_hasTextOf_19 : decode cX5_hasTextOf 19 = .ok (.lcmp, 1) := by decide +kernel
theorem dX5_hasTextOf_20 : decode cX5_hasTextOf 20 = .ok (.ifCond .ne 19, 3) := by decide +kernel
theorem dX5_hasTextOf_23 : decode cX5_hasTextOf 23 = .ok (.aload_n 0, 1) := by decide +kernel
theorem dX5_hasTextOf_24 : decode cX5_hasTextOf 24 = .ok (.getfield 26, 3) := by decide +kernel
theorem dX5_hasTextOf_27 : decode cX5_hasTextOf 27 = .ok (.aload_n 1, 1) := by decide +kernel
theorem dX5_hasTextOf_28 : decode cX5_hasTextOf 28 = .ok (.getfield 26, 3) := by decide +kernel
theorem dX5_hasTextOf_31 : decode cX5_hasTextOf 31 = .ok (.lcmp, 1) := by decide +kernel
theorem dX5_hasTextOf_32 : decode cX5_hasTextOf 32 = .ok (.ifCond .ne 7, 3) := by decide +kernel
theorem dX5_hasTextOf_35 : decode cX5_hasTextOf 35 = .ok (.iconst 1, 1) := by decide +kernel
theorem dX5_hasTextOf_36 : decode cX5_hasTextOf 36 = .ok (.goto 4, 3) := by decide +kernel
theorem dX5_hasTextOf_39 : decode cX5_hasTextOf 39 = .ok (.iconst 0, 1) := by decide +kernel
theorem dX5_hasTextOf_40 : decode cX5_hasTextOf 40 = .ok (.ireturn, 1) := by decide +kernel
theorem dX5_hasPathOf_0 : decode cX5_hasPathOf 0 = .ok (.aload_n 0, 1) := by decide +kernel
theorem dX5_hasPathOf_1 : decode cX5_hasPathOf 1 = .ok (.astore 4, 2) := by decide +kernel
theorem dX5_hasPathOf_3 : decode cX5_hasPathOf 3 = .ok (.aload_n 1, 1) := by decide +kernel
theorem dX5_hasPathOf_4 : decode cX5_hasPathOf 4 = .ok (.astore 5, 2) := by decide +kernel
theorem dX5_hasPathOf_6 : decode cX5_hasPathOf 6 = .ok (.aload 4, 2) := by decide +kernel
theorem dX5_hasPathOf_8 : decode cX5_hasPathOf 8 = .ok (.ifnull 71, 3) := by decide +kernel
theorem dX5_hasPathOf_11 : decode cX5_hasPathOf 11 = .ok (.aload 5, 2) := by decide +kernel
theorem dX5_hasPathOf_13 : decode cX5_hasPathOf 13 = .ok (.ifnull 66, 3) := by decide +kernel
theorem dX5_hasPathOf_16 : decode cX5_hasPathOf 16 = .ok (.aload 5, 2) := by decide +kernel
theorem dX5_hasPathOf_18 : decode cX5_hasPathOf 18 = .ok (.getfield 81, 3) := by decide +kernel
theorem dX5_hasPathOf_21 : decode cX5_hasPathOf 21 = .ok (.iload_n 2, 1) := by decide +kernel
theorem dX5_hasPathOf_22 : decode cX5_hasPathOf 22 = .ok (.if_icmp .ne 7, 3) := by decide +kernel
theorem dX5_hasPathOf_25 : decode cX5_hasPathOf 25 = .ok (.iload_n 3, 1) := by decide +kernel
theorem dX5_hasPathOf_26 : decode cX5_hasPathOf 26 = .ok (.goto 8, 3) := by decide +kernel
theorem dX5_hasPathOf_29 : decode cX5_hasPathOf 29 = .ok (.aload 5, 2) := by decide +kernel
theorem dX5_hasPathOf_31 : decode cX5_hasPathOf 31 = .ok (.getfield 78, 3) := by decide +kernel
theorem dX5_hasPathOf_34 : decode cX5_hasPathOf 34 = .ok (.istore 6, 2) := by decide +kernel
theorem dX5_hasPathOf_36 : decode cX5_hasPathOf 36 = .ok (.aload 4, 2) := by decide +kernel
theorem dX5_hasPathOf_38 : decode cX5_hasPathOf 38 = .ok (.getfield 46, 3) := by decide +kernel
theorem dX5_hasPathOf_41 : decode cX5_hasPathOf 41 = .ok (.aload 5, 2) := by decide +kernel
theorem dX5_hasPathOf_43 : decode cX5_hasPathOf 43 = .ok (.getfield 46, 3) := by decide +kernel
theorem dX5_hasPathOf_46 : decode cX5_hasPathOf 46 = .ok (.lcmp, 1) := by decide +kernel
theorem dX5_hasPathOf_47 : decode cX5_hasPathOf 47 = .ok (.ifCond .ne 13, 3) := by decide +kernel
theorem dX5_hasPathOf_50 : decode cX5_hasPathOf 50 = .ok (.aload 4, 2) := by decide +kernel
theorem dX5_hasPathOf_52 : decode cX5_hasPathOf 52 = .ok (.getfield 78, 3) := by decide +kernel
theorem dX5_hasPathOf_55 : decode cX5_hasPathOf 55 = .ok (.iload 6, 2) := by decide +kernel
theorem dX5_hasPathOf_57 : decode cX5_hasPathOf 57 = .ok (.if_icmp .eq 5, 3) := by decide +kernel
theorem dX5_hasPathOf_60 : decode cX5_hasPathOf 60 = .ok (.iconst 0, 1) := by decide +kernel
theorem dX5_hasPathOf_61 : decode cX5_hasPathOf 61 = .ok (.ireturn, 1) := by decide +kernel
theorem dX5_hasPathOf_62 : decode cX5_hasPathOf 62 = .ok (.aload 4, 2) := by decide +kernel
theorem dX5_hasPathOf_64 : decode cX5_hasPathOf 64 = .ok (.getfield 49, 3) := by decide +kernel
theorem dX5_hasPathOf_67 : decode cX5_hasPathOf 67 = .ok (.astore 4, 2) := by decide +kernel
theorem dX5_hasPathOf_69 : decode cX5_hasPathOf 69 = .ok (.aload 5, 2) := by decide +kernel
theorem dX5_hasPathOf_71 : decode cX5_hasPathOf 71 = .ok (.getfield 49, 3) := by decide +kernel
theorem dX5_hasPathOf_74 : decode cX5_hasPathOf 74 = .ok (.astore 5, 2) := by decide +kernel
theorem dX5_hasPathOf_76 : decode cX5_hasPathOf 76 = .ok (.goto (-70), 3) := by decide +kernel
theorem dX5_hasPathOf_79 : decode cX5_hasPathOf 79 = .ok (.aload 4, 2) := by decide +kernel
theorem dX5_hasPathOf_81 : decode cX5_hasPathOf 81 = .ok (.ifnonnull 12, 3) := by decide +kernel
theorem dX5_hasPathOf_84 : decode cX5_hasPathOf 84 = .ok (.aload 5, 2) := by decide +kernel
theorem dX5_hasPathOf_86 : decode cX5_hasPathOf 86 = .ok (.ifnonnull 7, 3) := by decide +kernel
theorem dX5_hasPathOf_89 : decode cX5_hasPathOf 89 = .ok (.iconst 1, 1) := by decide +kernel
theorem dX5_hasPathOf_90 : decode cX5_hasPathOf 90 = .ok (.goto 4, 3) := by decide +kernel
theorem dX5_hasPathOf_93 : decode cX5_hasPathOf 93 = .ok (.iconst 0, 1) := by decide +kernel
theorem dX5_hasPathOf_94 : decode cX5_hasPathOf 94 = .ok (.ireturn, 1) := by decide +kernel
theorem dX5_marksSharedWith_0 : decode cX5_marksSharedWith 0 = .ok (.iconst 0, 1) := by decide +kernel
theorem dX5_marksSharedWith_1 : decode cX5_marksSharedWith 1 = .ok (.istore_n 2, 1) := by decide +kernel
theorem dX5_marksSharedWith_2 : decode cX5_marksSharedWith 2 = .ok (.iload_n 2, 1) := by decide +kernel
theorem dX5_marksSharedWith_3 : decode cX5_marksSharedWith 3 = .ok (.aload_n 0, 1) := by decide +kernel
theorem dX5_marksSharedWith_4 : decode cX5_marksSharedWith 4 = .ok (.getfield 19, 3) := by decide +kernel
theorem dX5_marksSharedWith_7 : decode cX5_marksSharedWith 7 = .ok (.aload_n 1, 1) := by decide +kernel
theorem dX5_marksSharedWith_8 : decode cX5_marksSharedWith 8 = .ok (.getfield 19, 3) := by decide +kernel
theorem dX5_marksSharedWith_11 : decode cX5_marksSharedWith 11 = .ok (.lcmp, 1) := by decide +kernel
theorem dX5_marksSharedWith_12 : decode cX5_marksSharedWith 12 = .ok (.ifCond .ne 7, 3) := by decide +kernel
theorem dX5_marksSharedWith_15 : decode cX5_marksSharedWith 15 = .ok (.iconst 1, 1) := by decide +kernel
theorem dX5_marksSharedWith_16 : decode cX5_marksSharedWith 16 = .ok (.goto 4, 3) := by decide +kernel
theorem dX5_marksSharedWith_19 : decode cX5_marksSharedWith 19 = .ok (.iconst 0, 1) := by decide +kernel
theorem dX5_marksSharedWith_20 : decode cX5_marksSharedWith 20 = .ok (.ior, 1) := by decide +kernel
theorem dX5_marksSharedWith_21 : decode cX5_marksSharedWith 21 = .ok (.istore_n 2, 1) := by decide +kernel
theorem dX5_marksSharedWith_22 : decode cX5_marksSharedWith 22 = .ok (.iload_n 2, 1) := by decide +kernel
theorem dX5_marksSharedWith_23 : decode cX5_marksSharedWith 23 = .ok (.aload_n 0, 1) := by decide +kernel
theorem dX5_marksSharedWith_24 : decode cX5_marksSharedWith 24 = .ok (.aload_n 1, 1) := by decide +kernel
theorem dX5_marksSharedWith_25 : decode cX5_marksSharedWith 25 = .ok (.invokevirtual 88, 3) := by decide +kernel
theorem dX5_marksSharedWith_28 : decode cX5_marksSharedWith 28 = .ok (.ifCond .eq 7, 3) := by decide +kernel
theorem dX5_marksSharedWith_31 : decode cX5_marksSharedWith 31 = .ok (.iconst 2, 1) := by decide +kernel
theorem dX5_marksSharedWith_32 : decode cX5_marksSharedWith 32 = .ok (.goto 4, 3) := by decide +kernel
theorem dX5_marksSharedWith_35 : decode cX5_marksSharedWith 35 = .ok (.iconst 0, 1) := by decide +kernel
theorem dX5_marksSharedWith_36 : decode cX5_marksSharedWith 36 = .ok (.ior, 1) := by decide +kernel
theorem dX5_marksSharedWith_37 : decode cX5_marksSharedWith 37 = .ok (.istore_n 2, 1) := by decide +kernel
theorem dX5_marksSharedWith_38 : decode cX5_marksSharedWith 38 = .ok (.iload_n 2, 1) := by decide +kernel
theorem dX5_marksSharedWith_39 : decode cX5_marksSharedWith 39 = .ok (.aload_n 0, 1) := by decide +kernel
theorem dX5_marksSharedWith_40 : decode cX5_marksSharedWith 40 = .ok (.getfield 46, 3) := by decide +kernel
theorem dX5_marksSharedWith_43 : decode cX5_marksSharedWith 43 = .ok (.aload_n 1, 1) := by decide +kernel
theorem dX5_marksSharedWith_44 : decode cX5_marksSharedWith 44 = .ok (.getfield 46, 3) := by decide +kernel
theorem dX5_marksSharedWith_47 : decode cX5_marksSharedWith 47 = .ok (.lcmp, 1) := by decide +kernel
theorem dX5_marksSharedWith_48 : decode cX5_marksSharedWith 48 = .ok (.ifCond .ne 7, 3) := by decide +kernel
theorem dX5_marksSharedWith_51 : decode cX5_marksSharedWith 51 = .ok (.iconst 4, 1) := by decide +kernel
theorem dX5_marksSharedWith_52 : decode cX5_marksSharedWith 52 = .ok (.goto 4, 3) := by decide +kernel
theorem dX5_marksSharedWith_55 : decode cX5_marksSharedWith 55 = .ok (.iconst 0, 1) := by decide +kernel
theorem dX5_marksSharedWith_56 : decode cX5_marksSharedWith 56 = .ok (.ior, 1) := by decide +kernel
theorem dX5_marksSharedWith_57 : decode cX5_marksSharedWith 57 = .ok (.istore_n 2, 1) := by decide +kernel
theorem dX5_marksSharedWith_58 : decode cX5_marksSharedWith 58 = .ok (.iload_n 2, 1) := by decide +kernel
theorem dX5_marksSharedWith_59 : decode cX5_marksSharedWith 59 = .ok (.aload_n 0, 1) := by decide +kernel
theorem dX5_marksSharedWith_60 : decode cX5_marksSharedWith 60 = .ok (.getfield 78, 3) := by decide +kernel
theorem dX5_marksSharedWith_63 : decode cX5_marksSharedWith 63 = .ok (.aload_n 1, 1) := by decide +kernel
theorem dX5_marksSharedWith_64 : decode cX5_marksSharedWith 64 = .ok (.getfield 78, 3) := by decide +kernel
theorem dX5_marksSharedWith_67 : decode cX5_marksSharedWith 67 = .ok (.if_icmp .ne 8, 3) := by decide +kernel
theorem dX5_marksSharedWith_70 : decode cX5_marksSharedWith 70 = .ok (.bipush 8, 2) := by decide +kernel
theorem dX5_marksSharedWith_72 : decode cX5_marksSharedWith 72 = .ok (.goto 4, 3) := by decide +kernel
theorem dX5_marksSharedWith_75 : decode cX5_marksSharedWith 75 = .ok (.iconst 0, 1) := by decide +kernel
theorem dX5_marksSharedWith_76 : decode cX5_marksSharedWith 76 = .ok (.ior, 1) := by decide +kernel
theorem dX5_marksSharedWith_77 : decode cX5_marksSharedWith 77 = .ok (.istore_n 2, 1) := by decide +kernel
theorem dX5_marksSharedWith_78 : decode cX5_marksSharedWith 78 = .ok (.iload_n 2, 1) := by decide +kernel
theorem dX5_marksSharedWith_79 : decode cX5_marksSharedWith 79 = .ok (.aload_n 0, 1) := by decide +kernel
theorem dX5_marksSharedWith_80 : decode cX5_marksSharedWith 80 = .ok (.getfield 49, 3) := by decide +kernel
theorem dX5_marksSharedWith_83 : decode cX5_marksSharedWith 83 = .ok (.invokestatic 92, 3) := by decide +kernel
theorem dX5_marksSharedWith_86 : decode cX5_marksSharedWith 86 = .ok (.aload_n 1, 1) := by decide +kernel
theorem dX5_marksSharedWith_87 : decode cX5_marksSharedWith 87 = .ok (.getfield 49, 3) := by decide +kernel
theorem dX5_marksSharedWith_90 : decode cX5_marksSharedWith 90 = .ok (.invokestatic 92, 3) := by decide +kernel
theorem dX5_marksSharedWith_93 : decode cX5_marksSharedWith 93 = .ok (.lcmp, 1) := by decide +kernel
theorem dX5_marksSharedWith_94 : decode cX5_marksSharedWith 94 = .ok (.ifCond .ne 8, 3) := by decide +kernel
theorem dX5_marksSharedWith_97 : decode cX5_marksSharedWith 97 = .ok (.bipush 16, 2) := by decide +kernel
theorem dX5_marksSharedWith_99 : decode cX5_marksSharedWith 99 = .ok (.goto 4, 3) := by decide +kernel
theorem dX5_marksSharedWith_102 : decode cX5_marksSharedWith 102 = .ok (.iconst 0, 1) := by decide +kernel
theorem dX5_marksSharedWith_103 : decode cX5_marksSharedWith 103 = .ok (.ior, 1) := by decide +kernel
theorem dX5_marksSharedWith_104 : decode cX5_marksSharedWith 104 = .ok (.istore_n 2, 1) := by decide +kernel
theorem dX5_marksSharedWith_105 : decode cX5_marksSharedWith 105 = .ok (.iload_n 2, 1) := by decide +kernel
theorem dX5_marksSharedWith_106 : decode cX5_marksSharedWith 106 = .ok (.aload_n 0, 1) := by decide +kernel
theorem dX5_marksSharedWith_107 : decode cX5_marksSharedWith 107 = .ok (.getfield 49, 3) := by decide +kernel
theorem dX5_marksSharedWith_110 : decode cX5_marksSharedWith 110 = .ok (.invokestatic 96, 3) := by decide +kernel
theorem dX5_marksSharedWith_113 : decode cX5_marksSharedWith 113 = .ok (.aload_n 1, 1) := by decide +kernel
theorem dX5_marksSharedWith_114 : decode cX5_marksSharedWith 114 = .ok (.getfield 49, 3) := by decide +kernel
theorem dX5_marksSharedWith_117 : decode cX5_marksSharedWith 117 = .ok (.invokestatic 96, 3) := by decide +kernel
theorem dX5_marksSharedWith_120 : decode cX5_marksSharedWith 120 = .ok (.lcmp, 1) := by decide +kernel
theorem dX5_marksSharedWith_121 : decode cX5_marksSharedWith 121 = .ok (.ifCond .ne 8, 3) := by decide +kernel
theorem dX5_marksSharedWith_124 : decode cX5_marksSharedWith 124 = .ok (.bipush 32, 2) := by decide +kernel
theorem dX5_marksSharedWith_126 : decode cX5_marksSharedWith 126 = .ok (.goto 4, 3) := by decide +kernel
theorem dX5_marksSharedWith_129 : decode cX5_marksSharedWith 129 = .ok (.iconst 0, 1) := by decide +kernel
theorem dX5_marksSharedWith_130 : decode cX5_marksSharedWith 130 = .ok (.ior, 1) := by decide +kernel
theorem dX5_marksSharedWith_131 : decode cX5_marksSharedWith 131 = .ok (.istore_n 2, 1) := by decide +kernel
theorem dX5_marksSharedWith_132 : decode cX5_marksSharedWith 132 = .ok (.iload_n 2, 1) := by decide +kernel
theorem dX5_marksSharedWith_133 : decode cX5_marksSharedWith 133 = .ok (.aload_n 0, 1) := by decide +kernel
theorem dX5_marksSharedWith_134 : decode cX5_marksSharedWith 134 = .ok (.getfield 71, 3) := by decide +kernel
theorem dX5_marksSharedWith_137 : decode cX5_marksSharedWith 137 = .ok (.aload_n 1, 1) := by decide +kernel
theorem dX5_marksSharedWith_138 : decode cX5_marksSharedWith 138 = .ok (.getfield 71, 3) := by decide +kernel
theorem dX5_marksSharedWith_141 : decode cX5_marksSharedWith 141 = .ok (.invokestatic 99, 3) := by decide +kernel
theorem dX5_marksSharedWith_144 : decode cX5_marksSharedWith 144 = .ok (.ifCond .eq 8, 3) := by decide +kernel
theorem dX5_marksSharedWith_147 : decode cX5_marksSharedWith 147 = .ok (.bipush 64, 2) := by decide +kernel
theorem dX5_marksSharedWith_149 : decode cX5_marksSharedWith 149 = .ok (.goto 4, 3) := by decide +kernel
theorem dX5_marksSharedWith_152 : decode cX5_marksSharedWith 152 = .ok (.iconst 0, 1) := by decide +kernel
theorem dX5_marksSharedWith_153 : decode cX5_marksSharedWith 153 = .ok (.ior, 1) := by decide +kernel
theorem dX5_marksSharedWith_154 : decode cX5_marksSharedWith 154 = .ok (.istore_n 2, 1) := by decide +kernel
theorem dX5_marksSharedWith_155 : decode cX5_marksSharedWith 155 = .ok (.iload_n 2, 1) := by decide +kernel
theorem dX5_marksSharedWith_156 : decode cX5_marksSharedWith 156 = .ok (.aload_n 0, 1) := by decide +kernel
theorem dX5_marksSharedWith_157 : decode cX5_marksSharedWith 157 = .ok (.aload_n 1, 1) := by decide +kernel
theorem dX5_marksSharedWith_158 : decode cX5_marksSharedWith 158 = .ok (.iconst (-1), 1) := by decide +kernel
theorem dX5_marksSharedWith_159 : decode cX5_marksSharedWith 159 = .ok (.iconst 0, 1) := by decide +kernel
theorem dX5_marksSharedWith_160 : decode cX5_marksSharedWith 160 = .ok (.invokevirtual 103, 3) := by decide +kernel
theorem dX5_marksSharedWith_163 : decode cX5_marksSharedWith 163 = .ok (.ifCond .eq 9, 3) := by decide +kernel
theorem dX5_marksSharedWith_166 : decode cX5_marksSharedWith 166 = .ok (.sipush 128, 3) := by decide +kernel
theorem dX5_marksSharedWith_169 : decode cX5_marksSharedWith 169 = .ok (.goto 4, 3) := by decide +kernel
theorem dX5_marksSharedWith_172 : decode cX5_marksSharedWith 172 = .ok (.iconst 0, 1) := by decide +kernel
theorem dX5_marksSharedWith_173 : decode cX5_marksSharedWith 173 = .ok (.ior, 1) := by decide +kernel
theorem dX5_marksSharedWith_174 : decode cX5_marksSharedWith 174 = .ok (.istore_n 2, 1) := by decide +kernel
theorem dX5_marksSharedWith_175 : decode cX5_marksSharedWith 175 = .ok (.iload_n 2, 1) := by decide +kernel
theorem dX5_marksSharedWith_176 : decode cX5_marksSharedWith 176 = .ok (.ireturn, 1) := by decide +kernel
theorem dX5_fitsMarksOf_0 : decode cX5_fitsMarksOf 0 = .ok (.aload_n 0, 1) := by decide +kernel
theorem dX5_fitsMarksOf_1 : decode cX5_fitsMarksOf 1 = .ok (.aload_n 1, 1) := by decide +kernel
theorem dX5_fitsMarksOf_2 : decode cX5_fitsMarksOf 2 = .ok (.invokevirtual 107, 3) := by decide +kernel
theorem dX5_fitsMarksOf_5 : decode cX5_fitsMarksOf 5 = .ok (.iload_n 2, 1) := by decide +kernel
theorem dX5_fitsMarksOf_6 : decode cX5_fitsMarksOf 6 = .ok (.iand, 1) := by decide +kernel
theorem dX5_fitsMarksOf_7 : decode cX5_fitsMarksOf 7 = .ok (.iload_n 2, 1) := by decide +kernel
theorem dX5_fitsMarksOf_8 : decode cX5_fitsMarksOf 8 = .ok (.if_icmp .ne 7, 3) := by decide +kernel
theorem dX5_fitsMarksOf_11 : decode cX5_fitsMarksOf 11 = .ok (.iconst 1, 1) := by decide +kernel
theorem dX5_fitsMarksOf_12 : decode cX5_fitsMarksOf 12 = .ok (.goto 4, 3) := by decide +kernel
theorem dX5_fitsMarksOf_15 : decode cX5_fitsMarksOf 15 = .ok (.iconst 0, 1) := by decide +kernel
theorem dX5_fitsMarksOf_16 : decode cX5_fitsMarksOf 16 = .ok (.ireturn, 1) := by decide +kernel
theorem dX5_kindOf_0 : decode cX5_kindOf 0 = .ok (.aload_n 0, 1) := by decide +kernel
theorem dX5_kindOf_1 : decode cX5_kindOf 1 = .ok (.ifnonnull 7, 3) := by decide +kernel
theorem dX5_kindOf_4 : decode cX5_kindOf 4 = .ok (.lconst 0, 1) := by decide +kernel
theorem dX5_kindOf_5 : decode cX5_kindOf 5 = .ok (.goto 7, 3) := by decide +kernel
theorem dX5_kindOf_8 : decode cX5_kindOf 8 = .ok (.aload_n 0, 1) := by decide +kernel
theorem dX5_kindOf_9 : decode cX5_kindOf 9 = .ok (.getfield 46, 3) := by decide +kernel
theorem dX5_kindOf_12 : decode cX5_kindOf 12 = .ok (.lreturn, 1) := by decide +kernel
theorem dX5_nameOf_0 : decode cX5_nameOf 0 = .ok (.aload_n 0, 1) := by decide +kernel
theorem dX5_nameOf_1 : decode cX5_nameOf 1 = .ok (.ifnonnull 7, 3) := by decide +kernel
theorem dX5_nameOf_4 : decode cX5_nameOf 4 = .ok (.lconst 0, 1) := by decide +kernel
theorem dX5_nameOf_5 : decode cX5_nameOf 5 = .ok (.goto 7, 3) := by decide +kernel
theorem dX5_nameOf_8 : decode cX5_nameOf 8 = .ok (.aload_n 0, 1) := by decide +kernel
theorem dX5_nameOf_9 : decode cX5_nameOf 9 = .ok (.getfield 19, 3) := by decide +kernel
theorem dX5_nameOf_12 : decode cX5_nameOf 12 = .ok (.lreturn, 1) := by decide +kernel
theorem dX5_sameLabel_0 : decode cX5_sameLabel 0 = .ok (.aload_n 0, 1) := by decide +kernel
theorem dX5_sameLabel_1 : decode cX5_sameLabel 1 = .ok (.ifnull 7, 3) := by decide +kernel
theorem dX5_sameLabel_4 : decode cX5_sameLabel 4 = .ok (.aload_n 1, 1) := by decide +kernel
theorem dX5_sameLabel_5 : decode cX5_sameLabel 5 = .ok (.ifnonnull 16, 3) := by decide +kernel
theorem dX5_sameLabel_8 : decode cX5_sameLabel 8 = .ok (.aload_n 0, 1) := by decide +kernel
theorem dX5_sameLabel_9 : decode cX5_sameLabel 9 = .ok (.aload_n 1, 1) := by decide +kernel
theorem dX5_sameLabel_10 : decode cX5_sameLabel 10 = .ok (.if_acmp .ne 7, 3) := by decide +kernel
theorem dX5_sameLabel_13 : decode cX5_sameLabel 13 = .ok (.iconst 1, 1) := by decide +kernel
theorem dX5_sameLabel_14 : decode cX5_sameLabel 14 = .ok (.goto 12, 3) := by decide +kernel
theorem dX5_sameLabel_17 : decode cX5_sameLabel 17 = .ok (.iconst 0, 1) := by decide +kernel
theorem dX5_sameLabel_18 : decode cX5_sameLabel 18 = .ok (.goto 8, 3) := by decide +kernel
theorem dX5_sameLabel_21 : decode cX5_sameLabel 21 = .ok (.aload_n 0, 1) := by decide +kernel
theorem dX5_sameLabel_22 : decode cX5_sameLabel 22 = .ok (.aload_n 1, 1) := by decide +kernel
theorem dX5_sameLabel_23 : decode cX5_sameLabel 23 = .ok (.invokevirtual 88, 3) := by decide +kernel
theorem dX5_sameLabel_26 : decode cX5_sameLabel 26 = .ok (.ireturn, 1) := by decide +kernel
theorem dX6_init_0 : decode cX6_init 0 = .ok (.aload_n 0, 1) := by decide +kernel
theorem dX6_init_1 : decode cX6_init 1 = .ok (.invokespecial 3, 3) := by decide +kernel
theorem dX6_init_4 : decode cX6_init 4 = .ok (.aload_n 0, 1) := by decide +kernel
theorem dX6_init_5 : decode cX6_init 5 = .ok (.iconst 0, 1) := by decide +kernel
theorem dX6_init_6 : decode cX6_init 6 = .ok (.putfield 11, 3) := by decide +kernel
theorem dX6_init_9 : decode cX6_init 9 = .ok (.aload_n 0, 1) := by decide +kernel
theorem dX6_init_10 : decode cX6_init 10 = .ok (.iconst (-1), 1) := by decide +kernel
theorem dX6_init_11 : decode cX6_init 11 = .ok (.putfield 15, 3) := by decide +kernel
theorem dX6_init_14 : decode cX6_init 14 = .ok (.aload_n 0, 1) := by decide +kernel
theorem dX6_init_15 : decode cX6_init 15 = .ok (.iconst 0, 1) := by decide +kernel
theorem dX6_init_16 : decode cX6_init 16 = .ok (.putfield 18, 3) := by decide +kernel
theorem dX6_init_19 : decode cX6_init 19 = .ok (.aload_n 0, 1) := by decide +kernel
theorem dX6_init_20 : decode cX6_init 20 = .ok (.aconst_null, 1) := by decide +kernel
theorem dX6_init_21 : decode cX6_init 21 = .ok (.putfield 21, 3) := by decide +kernel
theorem dX6_init_24 : decode cX6_init 24 = .ok (.aload_n 0, 1) := by decide +kernel
theorem dX6_init_25 : decode cX6_init 25 = .ok (.aconst_null, 1) := by decide +kernel
theorem dX6_init_26 : decode cX6_init 26 = .ok (.putfield 25, 3) := by decide +kernel
theorem dX6_init_29 : decode cX6_init 29 = .ok (.aload_n 0, 1) := by decide +kernel
theorem dX6_init_30 : decode cX6_init 30 = .ok (.new 28, 3) := by decide +kernel
theorem dX6_init_33 : decode cX6_init 33 = .ok (.dup, 1) := by decide +kernel
theorem dX6_init_34 : decode cX6_init 34 = .ok (.aload_n 1, 1) := by decide +kernel
theorem dX6_init_35 : decode cX6_init 35 = .ok (.invokespecial 30, 3) := by decide +kernel
theorem dX6_init_38 : decode cX6_init 38 = .ok (.putfield 33, 3) := by decide +kernel
theorem dX6_init_41 : decode cX6_init 41 = .ok (.return_, 1) := by decide +kernel
theorem dX6_readPage_0 : decode cX6_readPage 0 = .ok (.new 37, 3) := by decide +kernel
theorem dX6_readPage_3 : decode cX6_readPage 3 = .ok (.dup, 1) := by decide +kernel
theorem dX6_readPage_4 : decode cX6_readPage 4 = .ok (.invokespecial 39, 3) := by decide +kernel
theorem dX6_readPage_7 : decode cX6_readPage 7 = .ok (.astore_n 1, 1) := by decide +kernel
theorem dX6_readPage_8 : decode cX6_readPage 8 = .ok (.aload_n 0, 1) := by decide +kernel
theorem dX6_readPage_9 : decode cX6_readPage 9 = .ok (.getfield 33, 3) := by decide +kernel
theorem dX6_readPage_12 : decode cX6_readPage 12 = .ok (.invokevirtual 40, 3) := by decide +kernel
theorem dX6_readPage_15 : decode cX6_readPage 15 = .ok (.aload_n 0, 1) := by decide +kernel
theorem dX6_readPage_16 : decode cX6_readPage 16 = .ok (.iconst 0, 1) := by decide +kernel
theorem dX6_readPage_17 : decode cX6_readPage 17 = .ok (.putfield 11, 3) := by decide +kernel
theorem dX6_readPage_20 : decode cX6_readPage 20 = .ok (.aload_n 0, 1) := by decide +kernel
theorem dX6_readPage_21 : decode cX6_readPage 21 = .ok (.iconst (-1), 1) := by decide +kernel
theorem dX6_readPage_22 : decode cX6_readPage 22 = .ok (.putfield 15, 3) := by decide +kernel
theorem dX6_readPage_25 : decode cX6_readPage 25 = .ok (.aload_n 0, 1) := by decide +kernel
theorem dX6_readPage_26 : decode cX6_readPage 26 = .ok (.iconst 0, 1) := by decide +kernel
theorem dX6_readPage_27 : decode cX6_readPage 27 = .ok (.putfield 18, 3) := by decide +kernel
theorem dX6_readPage_30 : decode cX6_readPage 30 = .ok (.aload_n 0, 1) := by decide +kernel
theorem dX6_readPage_31 : decode cX6_readPage 31 = .ok (.aconst_null, 1) := by decide +kernel
theorem dX6_readPage_32 : decode cX6_readPage 32 = .ok (.putfield 21, 3) := by decide +kernel
theorem dX6_readPage_35 : decode cX6_readPage 35 = .ok (.aload_n 0, 1) := by decide +kernel
theorem dX6_readPage_36 : decode cX6_readPage 36 = .ok (.aconst_null, 1) := by decide +kernel
theorem dX6_readPage_37 : decode cX6_readPage 37 = .ok (.putfield 25, 3) := by decide +kernel
theorem dX6_readPage_40 : decode cX6_readPage 40 = .ok (.iconst 0, 1) := by decide +kernel
theorem dX6_readPage_41 : decode cX6_readPage 41 = .ok (.istore_n 2, 1) := by decide +kernel
theorem dX6_readPage_42 : decode cX6_readPage 42 = .ok (.iload_n 2, 1) := by decide +kernel
theorem dX6_readPage_43 : decode cX6_readPage 43 = .ok (.sipush 1600, 3) := by decide +kernel
theorem dX6_readPage_46 : decode cX6_readPage 46 = .ok (.if_icmp .gt 54, 3) := by decide +kernel
theorem dX6_readPage_49 : decode cX6_readPage 49 = .ok (.aload_n 0, 1) := by decide +kernel
theorem dX6_readPage_50 : decode cX6_readPage 50 = .ok (.getfield 33, 3) := by decide +kernel
theorem dX6_readPage_53 : decode cX6_readPage 53 = .ok (.invokevirtual 43, 3) := by decide +kernel
theorem dX6_readPage_56 : decode cX6_readPage 56 = .ok (.aload_n 0, 1) := by decide +kernel
theorem dX6_readPage_57 : decode cX6_readPage 57 = .ok (.getfield 33, 3) := by decide +kernel
theorem dX6_readPage_60 : decode cX6_readPage 60 = .ok (.getfield 46, 3) := by decide +kernel
theorem dX6_readPage_63 : decode cX6_readPage 63 = .ok (.ifCond .ne 20, 3) := by decide +kernel
theorem dX6_readPage_66 : decode cX6_readPage 66 = .ok (.aload_n 0, 1) := by decide +kernel
theorem dX6_readPage_67 : decode cX6_readPage 67 = .ok (.getfield 18, 3) := by decide +kernel
theorem dX6_readPage_70 : decode cX6_readPage 70 = .ok (.iconst 2, 1) := by decide +kernel
theorem dX6_readPage_71 : decode cX6_readPage 71 = .ok (.if_icmp .lt 12, 3) := by decide +kernel
theorem dX6_readPage_74 : decode cX6_readPage 74 = .ok (.aload_n 0, 1) := by decide +kernel
theorem dX6_readPage_75 : decode cX6_readPage 75 = .ok (.getfield 21, 3) := by decide +kernel
theorem dX6_readPage_78 : decode cX6_readPage 78 = .ok (.ifnonnull 5, 3) := by decide +kernel
theorem dX6_readPage_81 : decode cX6_readPage 81 = .ok (.aload_n 1, 1) := by decide +kernel
theorem dX6_readPage_82 : decode cX6_readPage 82 = .ok (.areturn, 1) := by decide +kernel
theorem dX6_readPage_83 : decode cX6_readPage 83 = .ok (.aload_n 0, 1) := by decide +kernel
theorem dX6_readPage_84 : decode cX6_readPage 84 = .ok (.aload_n 1, 1) := by decide +kernel
theorem dX6_readPage_85 : decode cX6_readPage 85 = .ok (.invokevirtual 49, 3) := by decide +kernel
theorem dX6_readPage_88 : decode cX6_readPage 88 = .ok (.ifCond .ne 6, 3) := by decide +kernel
theorem dX6_readPage_91 : decode cX6_readPage 91 = .ok (.goto 9, 3) := by decide +kernel
theorem dX6_readPage_94 : decode cX6_readPage 94 = .ok (.iinc 2 1, 3) := by decide +kernel
theorem dX6_readPage_97 : decode cX6_readPage 97 = .ok (.goto (-55), 3) := by decide +kernel
theorem dX6_readPage_100 : decode cX6_readPage 100 = .ok (.aload_n 0, 1) := by decide +kernel
theorem dX6_readPage_101 : decode cX6_readPage 101 = .ok (.aload_n 0, 1) := by decide +kernel
theorem dX6_readPage_102 : decode cX6_readPage 102 = .ok (.getfield 33, 3) := by decide +kernel
theorem dX6_readPage_105 : decode cX6_readPage 105 = .ok (.getfield 46, 3) := by decide +kernel
theorem dX6_readPage_108 : decode cX6_readPage 108 = .ok (.bipush 7, 2) := by decide +kernel
theorem dX6_readPage_110 : decode cX6_readPage 110 = .ok (.if_icmp .ne 7, 3) := by decide +kernel
theorem dX6_readPage_113 : decode cX6_readPage 113 = .ok (.iconst 1, 1) := by decide +kernel
theorem dX6_readPage_114 : decode cX6_readPage 114 = .ok (.goto 4, 3) := by decide +kernel
theorem dX6_readPage_117 : decode cX6_readPage 117 = .ok (.iconst 2, 1) := by decide +kernel
theorem dX6_readPage_118 : decode cX6_readPage 118 = .ok (.putfield 11, 3) := by decide +kernel
theorem dX6_readPage_121 : decode cX6_readPage 121 = .ok (.aload_n 0, 1) := by decide +kernel
theorem dX6_readPage_122 : decode cX6_readPage 122 = .ok (.aload_n 0, 1) := by decide +kernel
theorem dX6_readPage_123 : decode cX6_readPage 123 = .ok (.getfield 33, 3) := by decide +kernel
theorem dX6_readPage_126 : decode cX6_readPage 126 = .ok (.getfield 53, 3) := by decide +kernel
theorem dX6_readPage_129 : decode cX6_readPage 129 = .ok (.putfield 15, 3) := by decide +kernel
theorem dX6_readPage_132 : decode cX6_readPage 132 = .ok (.aconst_null, 1) := by decide +kernel
theorem dX6_readPage_133 : decode cX6_readPage 133 = .ok (.areturn, 1) := by decide +kernel
theorem dX6_takeToken_0 : decode cX6_takeToken 0 = .ok (.aload_n 0, 1) := by decide +kernel
theorem dX6_takeToken_1 : decode cX6_takeToken 1 = .ok (.getfield 33, 3) := by decide +kernel
theorem dX6_takeToken_4 : decode cX6_takeToken 4 = .ok (.getfield 46, 3) := by decide +kernel
theorem dX6_takeToken_7 : decode cX6_takeToken 7 = .ok (.tableswitch 85 1 6 #[37, 65, 58, 70, 75, 80], 37) := by decide +kernel
theorem dX6_takeToken_44 : decode cX6_takeToken 44 = .ok (.aload_n 0, 1) := by decide +kernel
theorem dX6_takeToken_45 : decode cX6_takeToken 45 = .ok (.getfield 18, 3) := by decide +kernel
theorem dX6_takeToken_48 : decode cX6_takeToken 48 = .ok (.iconst 1, 1) := by decide +kernel
theorem dX6_takeToken_49 : decode cX6_takeToken 49 = .ok (.if_icmp .ne 10, 3) := by decide +kernel
theorem dX6_takeToken_52 : decode cX6_takeToken 52 = .ok (.aload_n 0, 1) := by decide +kernel
theorem dX6_takeToken_53 : decode cX6_takeToken 53 = .ok (.invokevirtual 56, 3) := by decide +kernel
theorem dX6_takeToken_56 : decode cX6_takeToken 56 = .ok (.goto 8, 3) := by decide +kernel
theorem dX6_takeToken_59 : decode cX6_takeToken 59 = .ok (.aload_n 0, 1) := by decide +kernel
theorem dX6_takeToken_60 : decode cX6_takeToken 60 = .ok (.aload_n 1, 1) := by decide +kernel
theorem dX6_takeToken_61 : decode cX6_takeToken 61 = .ok (.invokevirtual 60, 3) := by decide +kernel
theorem dX6_takeToken_64 : decode cX6_takeToken 64 = .ok (.ireturn, 1) := by decide +kernel
theorem dX6_takeToken_65 : decode cX6_takeToken 65 = .ok (.aload_n 0, 1) := by decide +kernel
theorem dX6_takeToken_66 : decode cX6_takeToken 66 = .ok (.iconst 2, 1) := by decide +kernel
theorem dX6_takeToken_67 : decode cX6_takeToken 67 = .ok (.iconst 1, 1) := by decide +kernel
theorem dX6_takeToken_68 : decode cX6_takeToken 68 = .ok (.invokevirtual 63, 3) := by decide +kernel
theorem dX6_takeToken_71 : decode cX6_takeToken 71 = .ok (.ireturn, 1) := by decide +kernel
theorem dX6_takeToken_72 : decode cX6_takeToken 72 = .ok (.aload_n 0, 1) := by decide +kernel
theorem dX6_takeToken_73 : decode cX6_takeToken 73 = .ok (.invokevirtual 67, 3) := by decide +kernel
theorem dX6_takeToken_76 : decode cX6_takeToken 76 = .ok (.ireturn, 1) := by decide +kernel
theorem dX6_takeToken_77 : decode cX6_takeToken 77 = .ok (.aload_n 0, 1) := by decide +kernel
theorem dX6_takeToken_78 : decode cX6_takeToken 78 = .ok (.invokevirtual 70, 3) := by decide +kernel
theorem dX6_takeToken_81 : decode cX6_takeToken 81 = .ok (.ireturn, 1) := by decide +kernel
theorem dX6_takeToken_82 : decode cX6_takeToken 82 = .ok (.aload_n 0, 1) := by decide +kernel
theorem dX6_takeToken_83 : decode cX6_takeToken 83 = .ok (.invokevirtual 73, 3) := by decide +kernel
theorem dX6_takeToken_86 : decode cX6_takeToken 86 = .ok (.ireturn, 1) := by decide +kernel
theorem dX6_takeToken_87 : decode cX6_takeToken 87 = .ok (.aload_n 0, 1) := by decide +kernel
theorem dX6_takeToken_88 : decode cX6_takeToken 88 = .ok (.invokevirtual 76, 3) := by decide +kernel
theorem dX6_takeToken_91 : decode cX6_takeToken 91 = .ok (.ireturn, 1) := by decide +kernel
theorem dX6_takeToken_92 : decode cX6_takeToken 92 = .ok (.iconst 0, 1) := by decide +kernel
theorem dX6_takeToken_93 : decode cX6_takeToken 93 = .ok (.ireturn, 1) := by decide +kernel
theorem dX6_move_0 : decode cX6_move 0 = .ok (.aload_n 0, 1) := by decide +kernel
theorem dX6_move_1 : decode cX6_move 1 = .ok (.getfield 25, 3) := by decide +kernel
theorem dX6_move_4 : decode cX6_move 4 = .ok (.ifnull 19, 3) := by decide +kernel
theorem dX6_move_7 : decode cX6_move 7 = .ok (.aload_n 0, 1) := by decide +kernel
theorem dX6_move_8 : decode cX6_move 8 = .ok (.getfield 18, 3) := by decide +kernel
theorem dX6_move_11 : decode cX6_move 11 = .ok (.iconst 2, 1) := by decide +kernel
theorem dX6_move_12 : decode cX6_move 12 = .ok (.if_icmp .lt 11, 3) := by decide +kernel
theorem dX6_move_15 : decode cX6_move 15 = .ok (.aload_n 0, 1) := by decide +kernel
theorem dX6_move_16 : decode cX6_move 16 = .ok (.getfield 18, 3) := by decide +kernel
theorem dX6_move_19 : decode cX6_move 19 = .ok (.iload_n 1, 1) := by decide +kernel
theorem dX6_move_20 : decode cX6_move 20 = .ok (.if_icmp .le 5, 3) := by decide +kernel
theorem dX6_move_23 : decode cX6_move 23 = .ok (.iconst 0, 1) := by decide +kernel
theorem dX6_move_24 : decode cX6_move 24 = .ok (.ireturn, 1) := by decide +kernel
theorem dX6_move_25 : decode cX6_move 25 = .ok (.aload_n 0, 1) := by decide +kernel
theorem dX6_move_26 : decode cX6_move 26 = .ok (.iload_n 2, 1) := by decide +kernel
theorem dX6_move_27 : decode cX6_move 27 = .ok (.putfield 18, 3) := by decide +kernel
theorem dX6_move_30 : decode cX6_move 30 = .ok (.iconst 1, 1) := by decide +kernel
theorem dX6_move_31 : decode cX6_move 31 = .ok (.ireturn, 1) := by decide +kernel
theorem dX6_takeKind_0 : decode cX6_takeKind 0 = .ok (.aload_n 0, 1) := by decide +kernel
theorem dX6_takeKind_1 : decode cX6_takeKind 1 = .ok (.getfield 18, 3) := by decide +kernel
theorem dX6_takeKind_4 : decode cX6_takeKind 4 = .ok (.ifCond .eq 7, 3) := by decide +kernel
theorem dX6_takeKind_7 : decode cX6_takeKind 7 = .ok (.iconst 1, 1) := by decide +kernel
theorem dX6_takeKind_8 : decode cX6_takeKind 8 = .ok (.goto 4, 3) := by decide +kernel
theorem dX6_takeKind_11 : decode cX6_takeKind 11 = .ok (.iconst 0, 1) := by decide +kernel
theorem dX6_takeKind_12 : decode cX6_takeKind 12 = .ok (.istore_n 2, 1) := by decide +kernel
theorem dX6_takeKind_13 : decode cX6_takeKind 13 = .ok (.iload_n 2, 1) := by decide +kernel
theorem dX6_takeKind_14 : decode cX6_takeKind 14 = .ok (.ifCond .eq 12, 3) := by decide +kernel
theorem dX6_takeKind_17 : decode cX6_takeKind 17 = .ok (.aload_n 0, 1) := by decide +kernel
theorem dX6_takeKind_18 : decode cX6_takeKind 18 = .ok (.getfield 21, 3) := by decide +kernel
theorem dX6_takeKind_21 : decode cX6_takeKind 21 = .ok (.ifnonnull 5, 3) := by decide +kernel
theorem dX6_takeKind_24 : decode cX6_takeKind 24 = .ok (.iconst 0, 1) := by decide +kernel
theorem dX6_takeKind_25 : decode cX6_takeKind 25 = .ok (.ireturn, 1) := by decide +kernel
theorem dX6_takeKind_26 : decode cX6_takeKind 26 = .ok (.aload_n 1, 1) := by decide +kernel
theorem dX6_takeKind_27 : decode cX6_takeKind 27 = .ok (.getfield 79, 3) := by decide +kernel
theorem dX6_takeKind_30 : decode cX6_takeKind 30 = .ok (.bipush 60, 2) := by decide +kernel
theorem dX6_takeKind_32 : decode cX6_takeKind 32 = .ok (.if_icmp .ge 22, 3) := by decide +kernel
theorem dX6_takeKind_35 : decode cX6_takeKind 35 = .ok (.aload_n 0, 1) := by decide +kernel
theorem dX6_takeKind_36 : decode cX6_takeKind 36 = .ok (.getfield 21, 3) := by decide +kernel
theorem dX6_takeKind_39 : decode cX6_takeKind 39 = .ok (.ifnull 17, 3) := by decide +kernel
theorem dX6_takeKind_42 : decode cX6_takeKind 42 = .ok (.aload_n 0, 1) := by decide +kernel
theorem dX6_takeKind_43 : decode cX6_takeKind 43 = .ok (.getfield 21, 3) := by decide +kernel
theorem dX6_takeKind_46 : decode cX6_takeKind 46 = .ok (.getfield 82, 3) := by decide +kernel
theorem dX6_takeKind_49 : decode cX6_takeKind 49 = .ok (.bipush 11, 2) := by decide +kernel
theorem dX6_takeKind_51 : decode cX6_takeKind 51 = .ok (.if_icmp .lt 5, 3) := by decide +kernel
theorem dX6_takeKind_54 : decode cX6_takeKind 54 = .ok (.iconst 0, 1) := by decide +kernel
theorem dX6_takeKind_55 : decode cX6_takeKind 55 = .ok (.ireturn, 1) := by decide +kernel
theorem dX6_takeKind_56 : decode cX6_takeKind 56 = .ok (.aload_n 0, 1) := by decide +kernel
theorem dX6_takeKind_57 : decode cX6_takeKind 57 = .ok (.aload_n 1, 1) := by decide +kernel
theorem dX6_takeKind_58 : decode cX6_takeKind 58 = .ok (.aload_n 0, 1) := by decide +kernel
theorem dX6_takeKind_59 : decode cX6_takeKind 59 = .ok (.getfield 33, 3) := by decide +kernel
theorem dX6_takeKind_62 : decode cX6_takeKind 62 = .ok (.getfield 87, 3) := by decide +kernel
theorem dX6_takeKind_65 : decode cX6_takeKind 65 = .ok (.aload_n 0, 1) := by decide +kernel
theorem dX6_takeKind_66 : decode cX6_takeKind 66 = .ok (.getfield 21, 3) := by decide +kernel
theorem dX6_takeKind_69 : decode cX6_takeKind 69 = .ok (.iload_n 2, 1) := by decide +kernel
theorem dX6_takeKind_70 : decode cX6_takeKind 70 = .ok (.ifCond .eq 10, 3) := by decide +kernel
theorem dX6_takeKind_73 : decode cX6_takeKind 73 = .ok (.aload_n 0, 1) := by decide +kernel
theorem dX6_takeKind_74 : decode cX6_takeKind 74 = .ok (.getfield 25, 3) := by decide +kernel
theorem dX6_takeKind_77 : decode cX6_takeKind 77 = .ok (.goto 4, 3) := by decide +kernel
theorem dX6_takeKind_80 : decode cX6_takeKind 80 = .ok (.aconst_null, 1) := by decide +kernel
theorem dX6_takeKind_81 : decode cX6_takeKind 81 = .ok (.invokevirtual 91, 3) := by decide +kernel
theorem dX6_takeKind_84 : decode cX6_takeKind 84 = .ok (.putfield 25, 3) := by decide +kernel
theorem dX6_takeKind_87 : decode cX6_takeKind 87 = .ok (.aload_n 0, 1) := by decide +kernel
theorem dX6_takeKind_88 : decode cX6_takeKind 88 = .ok (.iconst 2, 1) := by decide +kernel
theorem dX6_takeKind_89 : decode cX6_takeKind 89 = .ok (.putfield 18, 3) := by decide +kernel
theorem dX6_takeKind_92 : decode cX6_takeKind 92 = .ok (.iconst 1, 1) := by decide +kernel
theorem dX6_takeKind_93 : decode cX6_takeKind 93 = .ok (.ireturn, 1) := by decide +kernel
theorem dX6_takeName_0 : decode cX6_takeName 0 = .ok (.aload_n 0, 1) := by decide +kernel
theorem dX6_takeName_1 : decode cX6_takeName 1 = .ok (.getfield 25, 3) := by decide +kernel
theorem dX6_takeName_4 : decode cX6_takeName 4 = .ok (.ifnonnull 5, 3) := by decide +kernel
theorem dX6_takeName_7 : decode cX6_takeName 7 = .ok (.iconst 0, 1) := by decide +kernel
theorem dX6_takeName_8 : decode cX6_takeName 8 = .ok (.ireturn, 1) := by decide +kernel
theorem dX6_takeName_9 : decode cX6_takeName 9 = .ok (.aload_n 0, 1) := by decide +kernel
theorem dX6_takeName_10 : decode cX6_takeName 10 = .ok (.getfield 25, 3) := by decide +kernel
theorem dX6_takeName_13 : decode cX6_takeName 13 = .ok (.aload_n 0, 1) := by decide +kernel
theorem dX6_takeName_14 : decode cX6_takeName 14 = .ok (.getfield 33, 3) := by decide +kernel
theorem dX6_takeName_17 : decode cX6_takeName 17 = .ok (.getfield 87, 3) := by decide +kernel
theorem dX6_takeName_20 : decode cX6_takeName 20 = .ok (.putfield 95, 3) := by decide +kernel
theorem dX6_takeName_23 : decode cX6_takeName 23 = .ok (.aload_n 0, 1) := by decide +kernel
theorem dX6_takeName_24 : decode cX6_takeName 24 = .ok (.iconst 3, 1) := by decide +kernel
theorem dX6_takeName_25 : decode cX6_takeName 25 = .ok (.putfield 18, 3) := by decide +kernel
theorem dX6_takeName_28 : decode cX6_takeName 28 = .ok (.iconst 1, 1) := by decide +kernel
theorem dX6_takeName_29 : decode cX6_takeName 29 = .ok (.ireturn, 1) := by decide +kernel
theorem dX6_takeText_0 : decode cX6_takeText 0 = .ok (.aload_n 0, 1) := by decide +kernel
theorem dX6_takeText_1 : decode cX6_takeText 1 = .ok (.iconst 3, 1) := by decide +kernel
theorem dX6_takeText_2 : decode cX6_takeText 2 = .ok (.iconst 4, 1) := by decide +kernel
theorem dX6_takeText_3 : decode cX6_takeText 3 = .ok (.invokevirtual 63, 3) := by decide +kernel
theorem dX6_takeText_6 : decode cX6_takeText 6 = .ok (.ifCond .ne 5, 3) := by decide +kernel
theorem dX6_takeText_9 : decode cX6_takeText 9 = .ok (.iconst 0, 1) := by decide +kernel
theorem dX6_takeText_10 : decode cX6_takeText 10 = .ok (.ireturn, 1) := by decide +kernel
theorem dX6_takeText_11 : decode cX6_takeText 11 = .ok (.aload_n 0, 1) := by decide +kernel
theorem dX6_takeText_12 : decode cX6_takeText 12 = .ok (.getfield 25, 3) := by decide +kernel
theorem dX6_takeText_15 : decode cX6_takeText 15 = .ok (.aload_n 0, 1) := by decide +kernel
theorem dX6_takeText_16 : decode cX6_takeText 16 = .ok (.getfield 33, 3) := by decide +kernel
theorem dX6_takeText_19 : decode cX6_takeText 19 = .ok (.getfield 98, 3) := by decide +kernel
theorem dX6_takeText_22 : decode cX6_takeText 22 = .ok (.putfield 101, 3) := by decide +kernel
theorem dX6_takeText_25 : decode cX6_takeText 25 = .ok (.aload_n 0, 1) := by decide +kernel
theorem dX6_takeText_26 : decode cX6_takeText 26 = .ok (.getfield 25, 3) := by decide +kernel
theorem dX6_takeText_29 : decode cX6_takeText 29 = .ok (.aload_n 0, 1) := by decide +kernel
theorem dX6_takeText_30 : decode cX6_takeText 30 = .ok (.getfield 33, 3) := by decide +kernel
theorem dX6_takeText_33 : decode cX6_takeText 33 = .ok (.getfield 102, 3) := by decide +kernel
theorem dX6_takeText_36 : decode cX6_takeText 36 = .ok (.putfield 105, 3) := by decide +kernel
theorem dX6_takeText_39 : decode cX6_takeText 39 = .ok (.aload_n 0, 1) := by decide +kernel
theorem dX6_takeText_40 : decode cX6_takeText 40 = .ok (.getfield 25, 3) := by decide +kernel
theorem dX6_takeText_43 : decode cX6_takeText 43 = .ok (.aload_n 0, 1) := by decide +kernel
theorem dX6_takeText_44 : decode cX6_takeText 44 = .ok (.getfield 33, 3) := by decide +kernel
theorem dX6_takeText_47 : decode cX6_takeText 47 = .ok (.getfield 106, 3) := by decide +kernel
theorem dX6_takeText_50 : decode cX6_takeText 50 = .ok (.putfield 109, 3) := by decide +kernel
theorem dX6_takeText_53 : decode cX6_takeText 53 = .ok (.iconst 1, 1) := by decide +kernel
theorem dX6_takeText_54 : decode cX6_takeText 54 = .ok (.ireturn, 1) := by decide +kernel
theorem dX6_takeHarm_0 : decode cX6_takeHarm 0 = .ok (.aload_n 0, 1) := by decide +kernel
theorem dX6_takeHarm_1 : decode cX6_takeHarm 1 = .ok (.iconst 4, 1) := by decide +kernel
theorem dX6_takeHarm_2 : decode cX6_takeHarm 2 = .ok (.iconst 5, 1) := by decide +kernel
theorem dX6_takeHarm_3 : decode cX6_takeHarm 3 = .ok (.invokevirtual 63, 3) := by decide +kernel
theorem dX6_takeHarm_6 : decode cX6_takeHarm 6 = .ok (.ifCond .ne 5, 3) := by decide +kernel
theorem dX6_takeHarm_9 : decode cX6_takeHarm 9 = .ok (.iconst 0, 1) := by decide +kernel
theorem dX6_takeHarm_10 : decode cX6_takeHarm 10 = .ok (.ireturn, 1) := by decide +kernel
theorem dX6_takeHarm_11 : decode cX6_takeHarm 11 = .ok (.aload_n 0, 1) := by decide +kernel
theorem dX6_takeHarm_12 : decode cX6_takeHarm 12 = .ok (.getfield 25, 3) := by decide +kernel
theorem dX6_takeHarm_15 : decode cX6_takeHarm 15 = .ok (.iconst 1, 1) := by decide +kernel
theorem dX6_takeHarm_16 : decode cX6_takeHarm 16 = .ok (.putfield 110, 3) := by decide +kernel
theorem dX6_takeHarm_19 : decode cX6_takeHarm 19 = .ok (.iconst 1, 1) := by decide +kernel
theorem dX6_takeHarm_20 : decode cX6_takeHarm 20 = .ok (.ireturn, 1) := by decide +kernel
theorem dX6_goDown_0 : decode cX6_goDown 0 = .ok (.aload_n 0, 1) := by decide +kernel
theorem dX6_goDown_1 : decode cX6_goDown 1 = .ok (.iconst 5, 1) := by decide +kernel
theorem dX6_goDown_2 : decode cX6_goDown 2 = .ok (.iconst 0, 1) := by decide +kernel
theorem dX6_goDown_3 : decode cX6_goDown 3 = .ok (.invokevirtual 63, 3) := by decide +kernel
theorem dX6_goDown_6 : decode cX6_goDown 6 = .ok (.ifCond .ne 5, 3) := by decide +kernel
theorem dX6_goDown_9 : decode cX6_goDown 9 = .ok (.iconst 0, 1) := by decide +kernel
theorem dX6_goDown_10 : decode cX6_goDown 10 = .ok (.ireturn, 1) := by decide +kernel
theorem dX6_goDown_11 : decode cX6_goDown 11 = .ok (.aload_n 0, 1) := by decide +kernel
theorem dX6_goDown_12 : decode cX6_goDown 12 = .ok (.aload_n 0, 1) := by decide +kernel
theorem dX6_goDown_13 : decode cX6_goDown 13 = .ok (.getfield 25, 3) := by decide +kernel
theorem dX6_goDown_16 : decode cX6_goDown 16 = .ok (.putfield 21, 3) := by decide +kernel
theorem dX6_goDown_19 : decode cX6_goDown 19 = .ok (.iconst 1, 1) := by decide +kernel
theorem dX6_goDown_20 : decode cX6_goDown 20 = .ok (.ireturn, 1) := by decide +kernel
theorem dX6_goUp_0 : decode cX6_goUp 0 = .ok (.aload_n 0, 1) := by decide +kernel
theorem dX6_goUp_1 : decode cX6_goUp 1 = .ok (.getfield 21, 3) := by decide +kernel
theorem dX6_goUp_4 : decode cX6_goUp 4 = .ok (.ifnull 14, 3) := by decide +kernel
theorem dX6_goUp_7 : decode cX6_goUp 7 = .ok (.aload_n 0, 1) := by decide +kernel
theorem dX6_goUp_8 : decode cX6_goUp 8 = .ok (.bipush 6, 2) := by decide +kernel
theorem dX6_goUp_10 : decode cX6_goUp 10 = .ok (.bipush 6, 2) := by decide +kernel
theorem dX6_goUp_12 : decode cX6_goUp 12 = .ok (.invokevirtual 63, 3) := by decide +kernel
theorem dX6_goUp_15 : decode cX6_goUp 15 = .ok (.ifCond .ne 5, 3) := by decide +kernel
theorem dX6_goUp_18 : decode cX6_goUp 18 = .ok (.iconst 0, 1) := by decide +kernel
theorem dX6_goUp_19 : decode cX6_goUp 19 = .ok (.ireturn, 1) := by decide +kernel
theorem dX6_goUp_20 : decode cX6_goUp 20 = .ok (.aload_n 0, 1) := by decide +kernel
theorem dX6_goUp_21 : decode cX6_goUp 21 = .ok (.aload_n 0, 1) := by decide +kernel
theorem dX6_goUp_22 : decode cX6_goUp 22 = .ok (.getfield 21, 3) := by decide +kernel
theorem dX6_goUp_25 : decode cX6_goUp 25 = .ok (.putfield 25, 3) := by decide +kernel
theorem dX6_goUp_28 : decode cX6_goUp 28 = .ok (.aload_n 0, 1) := by decide +kernel
theorem dX6_goUp_29 : decode cX6_goUp 29 = .ok (.aload_n 0, 1) := by decide +kernel
theorem dX6_goUp_30 : decode cX6_goUp 30 = .ok (.getfield 21, 3) := by decide +kernel
theorem dX6_goUp_33 : decode cX6_goUp 33 = .ok (.getfield 114, 3) := by decide +kernel
theorem dX6_goUp_36 : decode cX6_goUp 36 = .ok (.putfield 21, 3) := by decide +kernel
theorem dX6_goUp_39 : decode cX6_goUp 39 = .ok (.iconst 1, 1) := by decide +kernel
theorem dX6_goUp_40 : decode cX6_goUp 40 = .ok (.ireturn, 1) := by decide +kernel
theorem dX7_init_0 : decode cX7_init 0 = .ok (.aload_n 0, 1) := by decide +kernel
theorem dX7_init_1 : decode cX7_init 1 = .ok (.invokespecial 3, 3) := by decide +kernel
theorem dX7_init_4 : decode cX7_init 4 = .ok (.aload_n 0, 1) := by decide +kernel
theorem dX7_init_5 : decode cX7_init 5 = .ok (.bipush 40, 2) := by decide +kernel
theorem dX7_init_7 : decode cX7_init 7 = .ok (.anewarray 9, 3) := by decide +kernel
theorem dX7_init_10 : decode cX7_init 10 = .ok (.putfield 11, 3) := by decide +kernel
theorem dX7_init_13 : decode cX7_init 13 = .ok (.aload_n 0, 1) := by decide +kernel
theorem dX7_init_14 : decode cX7_init 14 = .ok (.iconst 0, 1) := by decide +kernel
theorem dX7_init_15 : decode cX7_init 15 = .ok (.putfield 17, 3) := by decide +kernel
theorem dX7_init_18 : decode cX7_init 18 = .ok (.aload_n 0, 1) := by decide +kernel
theorem dX7_init_19 : decode cX7_init 19 = .ok (.iconst 0, 1) := by decide +kernel
theorem dX7_init_20 : decode cX7_init 20 = .ok (.putfield 21, 3) := by decide +kernel
theorem dX7_init_23 : decode cX7_init 23 = .ok (.aload_n 0, 1) := by decide +kernel
theorem dX7_init_24 : decode cX7_init 24 = .ok (.aconst_null, 1) := by decide +kernel
theorem dX7_init_25 : decode cX7_init 25 = .ok (.putfield 24, 3) := by decide +kernel
theorem dX7_init_28 : decode cX7_init 28 = .ok (.aload_n 0, 1) := by decide +kernel
theorem dX7_init_29 : decode cX7_init 29 = .ok (.iconst 0, 1) := by decide +kernel
theorem dX7_init_30 : decode cX7_init 30 = .ok (.putfield 28, 3) := by decide +kernel
theorem dX7_init_33 : decode cX7_init 33 = .ok (.aload_n 0, 1) := by decide +kernel
theorem dX7_init_34 : decode cX7_init 34 = .ok (.iconst 0, 1) := by decide +kernel
theorem dX7_init_35 : decode cX7_init 35 = .ok (.putfield 31, 3) := by decide +kernel
theorem dX7_init_38 : decode cX7_init 38 = .ok (.return_, 1) := by decide +kernel
theorem dX7_begin_0 : decode cX7_begin 0 = .ok (.aload_n 0, 1) := by decide +kernel
theorem dX7_begin_1 : decode cX7_begin 1 = .ok (.dup, 1) := by decide +kernel
theorem dX7_begin_2 : decode cX7_begin 2 = .ok (.getfield 17, 3) := by decide +kernel
theorem dX7_begin_5 : decode cX7_begin 5 = .ok (.iconst 1, 1) := by decide +kernel
theorem dX7_begin_6 : decode cX7_begin 6 = .ok (.iadd, 1) := by decide +kernel
theorem dX7_begin_7 : decode cX7_begin 7 = .ok (.putfield 17, 3) := by decide +kernel
theorem dX7_begin_10 : decode cX7_begin 10 = .ok (.aload_n 0, 1) := by decide +kernel
theorem dX7_begin_11 : decode cX7_begin 11 = .ok (.iconst 0, 1) := by decide +kernel
theorem dX7_begin_12 : decode cX7_begin 12 = .ok (.putfield 21, 3) := by decide +kernel
theorem dX7_begin_15 : decode cX7_begin 15 = .ok (.aload_n 0, 1) := by decide +kernel
theorem dX7_begin_16 : decode cX7_begin 16 = .ok (.aconst_null, 1) := by decide +kernel
theorem dX7_begin_17 : decode cX7_begin 17 = .ok (.putfield 24, 3) := by decide +kernel
theorem dX7_begin_20 : decode cX7_begin 20 = .ok (.aload_n 0, 1) := by decide +kernel
theorem dX7_begin_21 : decode cX7_begin 21 = .ok (.iconst 0, 1) := by decide +kernel
theorem dX7_begin_22 : decode cX7_begin 22 = .ok (.putfield 28, 3) := by decide +kernel
theorem dX7_begin_25 : decode cX7_begin 25 = .ok (.aload_n 0, 1) := by decide +kernel
theorem dX7_begin_26 : decode cX7_begin 26 = .ok (.iconst 0, 1) := by decide +kernel
theorem dX7_begin_27 : decode cX7_begin 27 = .ok (.putfield 31, 3) := by decide +kernel
theorem dX7_begin_30 : decode cX7_begin 30 = .ok (.return_, 1) := by decide +kernel
theorem dX7_stop_0 : decode cX7_stop 0 = .ok (.aload_n 0, 1) := by decide +kernel
theorem dX7_stop_1 : decode cX7_stop 1 = .ok (.iload_n 1, 1) := by decide +kernel
theorem dX7_stop_2 : decode cX7_stop 2 = .ok (.putfield 21, 3) := by decide +kernel
theorem dX7_stop_5 : decode cX7_stop 5 = .ok (.aload_n 0, 1) := by decide +kernel
theorem dX7_stop_6 : decode cX7_stop 6 = .ok (.aload_n 2, 1) := by decide +kernel
theorem dX7_stop_7 : decode cX7_stop 7 = .ok (.putfield 24, 3) := by decide +kernel
theorem dX7_stop_10 : decode cX7_stop 10 = .ok (.iconst 0, 1) := by decide +kernel
theorem dX7_stop_11 : decode cX7_stop 11 = .ok (.ireturn, 1) := by decide +kernel
theorem dX7_take_0 : decode cX7_take 0 = .ok (.iload_n 2, 1) := by decide +kernel
theorem dX7_take_1 : decode cX7_take 1 = .ok (.ifCond .ne 10, 3) := by decide +kernel
theorem dX7_take_4 : decode cX7_take 4 = .ok (.aload_n 0, 1) := by decide +kernel
theorem dX7_take_5 : decode cX7_take 5 = .ok (.aload_n 1, 1) := by decide +kernel
theorem dX7_take_6 : decode cX7_take 6 = .ok (.invokevirtual 34, 3) := by decide +kernel
theorem dX7_take_9 : decode cX7_take 9 = .ok (.iconst 1, 1) := by decide +kernel
theorem dX7_take_10 : decode cX7_take 10 = .ok (.ireturn, 1) := by decide +kernel
theorem dX7_take_11 : decode cX7_take 11 = .ok (.aload_n 1, 1) := by decide +kernel
theorem dX7_take_12 : decode cX7_take 12 = .ok (.invokevirtual 38, 3) := by decide +kernel
theorem dX7_take_15 : decode cX7_take 15 = .ok (.ifCond .eq 10, 3) := by decide +kernel
theorem dX7_take_18 : decode cX7_take 18 = .ok (.aload_n 0, 1) := by decide +kernel
theorem dX7_take_19 : decode cX7_take 19 = .ok (.iconst 3, 1) := by decide +kernel
theorem dX7_take_20 : decode cX7_take 20 = .ok (.aload_n 1, 1) := by decide +kernel
theorem dX7_take_21 : decode cX7_take 21 = .ok (.invokevirtual 42, 3) := by decide +kernel
theorem dX7_take_24 : decode cX7_take 24 = .ok (.ireturn, 1) := by decide +kernel
theorem dX7_take_25 : decode cX7_take 25 = .ok (.aload_n 1, 1) := by decide +kernel
theorem dX7_take_26 : decode cX7_take 26 = .ok (.getfield 46, 3) := by decide +kernel
theorem dX7_take_29 : decode cX7_take 29 = .ok (.aload_n 0, 1) := by decide +kernel
theorem dX7_take_30 : decode cX7_take 30 = .ok (.getfield 17, 3) := by decide +kernel
theorem dX7_take_33 : decode cX7_take 33 = .ok (.if_icmp .eq 31, 3) := by decide +kernel
theorem dX7_take_36 : decode cX7_take 36 = .ok (.aload_n 1, 1) := by decide +kernel
theorem dX7_take_37 : decode cX7_take 37 = .ok (.aload_n 0, 1) := by decide +kernel
theorem dX7_take_38 : decode cX7_take 38 = .ok (.getfield 17, 3) := by decide +kernel
theorem dX7_take_41 : decode cX7_take 41 = .ok (.putfield 46, 3) := by decide +kernel
theorem dX7_take_44 : decode cX7_take 44 = .ok (.aload_n 1, 1) := by decide +kernel
theorem dX7_take_45 : decode cX7_take 45 = .ok (.dup, 1) := by decide +kernel
theorem dX7_take_46 : decode cX7_take 46 = .ok (.getfield 49, 3) := by decide +kernel
theorem dX7_take_49 : decode cX7_take 49 = .ok (.iconst 1, 1) := by decide +kernel
theorem dX7_take_50 : decode cX7_take 50 = .ok (.iadd, 1) := by decide +kernel
theorem dX7_take_51 : decode cX7_take 51 = .ok (.putfield 49, 3) := by decide +kernel
theorem dX7_take_54 : decode cX7_take 54 = .ok (.aload_n 0, 1) := by decide +kernel
theorem dX7_take_55 : decode cX7_take 55 = .ok (.dup, 1) := by decide +kernel
theorem dX7_take_56 : decode cX7_take 56 = .ok (.getfield 28, 3) := by decide +kernel
theorem dX7_take_59 : decode cX7_take 59 = .ok (.iconst 1, 1) := by decide +kernel
theorem dX7_take_60 : decode cX7_take 60 = .ok (.iadd, 1) := by decide +kernel
theorem dX7_take_61 : decode cX7_take 61 = .ok (.putfield 28, 3) := by decide +kernel
theorem dX7_take_64 : decode cX7_take 64 = .ok (.iconst 1, 1) := by decide +kernel
theorem dX7_take_65 : decode cX7_take 65 = .ok (.ireturn, 1) := by decide +kernel
theorem dX7_keep_0 : decode cX7_keep 0 = .ok (.aload_n 0, 1) := by decide +kernel
theorem dX7_keep_1 : decode cX7_keep 1 = .ok (.getfield 31, 3) := by decide +kernel
theorem dX7_keep_4 : decode cX7_keep 4 = .ok (.bipush 40, 2) := by decide +kernel
theorem dX7_keep_6 : decode cX7_keep 6 = .ok (.if_icmp .ge 13, 3) := by decide +kernel
theorem dX7_keep_9 : decode cX7_keep 9 = .ok (.aload_n 0, 1) := by decide +kernel
theorem dX7_keep_10 : decode cX7_keep 10 = .ok (.getfield 11, 3) := by decide +kernel
theorem dX7_keep_13 : decode cX7_keep 13 = .ok (.aload_n 0, 1) := by decide +kernel
theorem dX7_keep_14 : decode cX7_keep 14 = .ok (.getfield 31, 3) := by decide +kernel
theorem dX7_keep_17 : decode cX7_keep 17 = .ok (.aload_n 1, 1) := by decide +kernel
theorem dX7_keep_18 : decode cX7_keep 18 = .ok (.aastore, 1) := by decide +kernel
theorem dX7_keep_19 : decode cX7_keep 19 = .ok (.aload_n 0, 1) := by decide +kernel
theorem dX7_keep_20 : decode cX7_keep 20 = .ok (.dup, 1) := by decide +kernel
theorem dX7_keep_21 : decode cX7_keep 21 = .ok (.getfield 31, 3) := by decide +kernel
theorem dX7_keep_24 : decode cX7_keep 24 = .ok (.iconst 1, 1) := by decide +kernel
theorem dX7_keep_25 : decode cX7_keep 25 = .ok (.iadd, 1) := by decide +kernel
theorem dX7_keep_26 : decode cX7_keep 26 = .ok (.putfield 31, 3) := by decide +kernel
theorem dX7_keep_29 : decode cX7_keep 29 = .ok (.return_, 1) := by decide +kernel
theorem dX7_keptAt_0 : decode cX7_keptAt 0 = .ok (.iload_n 1, 1) := by decide +kernel
theorem dX7_keptAt_1 : decode cX7_keptAt 1 = .ok (.ifCond .lt 17, 3) := by decide +kernel
theorem dX7_keptAt_4 : decode cX7_keptAt 4 = .ok (.iload_n 1, 1) := by decide +kernel
theorem dX7_keptAt_5 : decode cX7_keptAt 5 = .ok (.aload_n 0, 1) := by decide +kernel
theorem dX7_keptAt_6 : decode cX7_keptAt 6 = .ok (.getfield 31, 3) := by decide +kernel
theorem dX7_keptAt_9 : decode cX7_keptAt 9 = .ok (.if_icmp .ge 9, 3) := by decide +kernel
theorem dX7_keptAt_12 : decode cX7_keptAt 12 = .ok (.iload_n 1, 1) := by decide +kernel
theorem dX7_keptAt_13 : decode cX7_keptAt 13 = .ok (.bipush 40, 2) := by decide +kernel
theorem dX7_keptAt_15 : decode cX7_keptAt 15 = .ok (.if_icmp .lt 7, 3) := by decide +kernel
theorem dX7_keptAt_18 : decode cX7_keptAt 18 = .ok (.aconst_null, 1) := by decide +kernel
theorem dX7_keptAt_19 : decode cX7_keptAt 19 = .ok (.goto 9, 3) := by decide +kernel
theorem dX7_keptAt_22 : decode cX7_keptAt 22 = .ok (.aload_n 0, 1) := by decide +kernel
theorem dX7_keptAt_23 : decode cX7_keptAt 23 = .ok (.getfield 11, 3) := by decide +kernel
theorem dX7_keptAt_26 : decode cX7_keptAt 26 = .ok (.iload_n 1, 1) := by decide +kernel
theorem dX7_keptAt_27 : decode cX7_keptAt 27 = .ok (.aaload, 1) := by decide +kernel
theorem dX7_keptAt_28 : decode cX7_keptAt 28 = .ok (.areturn, 1) := by decide +kernel
theorem dX8_init_0 : decode cX8_init 0 = .ok (.aload_n 0, 1) := by decide +kernel
theorem dX8_init_1 : decode cX8_init 1 = .ok (.invokespecial 3, 3) := by decide +kernel
theorem dX8_init_4 : decode cX8_init 4 = .ok (.aload_n 0, 1) := by decide +kernel
theorem dX8_init_5 : decode cX8_init 5 = .ok (.bipush 6, 2) := by decide +kernel
theorem dX8_init_7 : decode cX8_init 7 = .ok (.anewarray 9, 3) := by decide +kernel
theorem dX8_init_10 : decode cX8_init 10 = .ok (.putfield 11, 3) := by decide +kernel
theorem dX8_init_13 : decode cX8_init 13 = .ok (.aload_n 0, 1) := by decide +kernel
theorem dX8_init_14 : decode cX8_init 14 = .ok (.sipush 256, 3) := by decide +kernel
theorem dX8_init_17 : decode cX8_init 17 = .ok (.newarray .boolean, 2) := by decide +kernel
theorem dX8_init_19 : decode cX8_init 19 = .ok (.putfield 17, 3) := by decide +kernel
theorem dX8_init_22 : decode cX8_init 22 = .ok (.aload_n 0, 1) := by decide +kernel
theorem dX8_init_23 : decode cX8_init 23 = .ok (.iconst 0, 1) := by decide +kernel
theorem dX8_init_24 : decode cX8_init 24 = .ok (.putfield 21, 3) := by decide +kernel
theorem dX8_init_27 : decode cX8_init 27 = .ok (.aload_n 0, 1) := by decide +kernel
theorem dX8_init_28 : decode cX8_init 28 = .ok (.iconst 0, 1) := by decide +kernel
theorem dX8_init_29 : decode cX8_init 29 = .ok (.putfield 25, 3) := by decide +kernel
theorem dX8_init_32 : decode cX8_init 32 = .ok (.return_, 1) := by decide +kernel
theorem dX8_first_0 : decode cX8_first 0 = .ok (.aload_n 0, 1) := by decide +kernel
theorem dX8_first_1 : decode cX8_first 1 = .ok (.getfield 21, 3) := by decide +kernel
theorem dX8_first_4 : decode cX8_first 4 = .ok (.ifCond .ne 7, 3) := by decide +kernel
theorem dX8_first_7 : decode cX8_first 7 = .ok (.aconst_null, 1) := by decide +kernel
theorem dX8_first_8 : decode cX8_first 8 = .ok (.goto 9, 3) := by decide +kernel
theorem dX8_first_11 : decode cX8_first 11 = .ok (.aload_n 0, 1) := by decide +kernel
theorem dX8_first_12 : decode cX8_first 12 = .ok (.getfield 11, 3) := by decide +kernel
theorem dX8_first_15 : decode cX8_first 15 = .ok (.iconst 0, 1) := by decide +kernel
theorem dX8_first_16 : decode cX8_first 16 = .ok (.aaload, 1) := by decide +kernel
theorem dX8_first_17 : decode cX8_first 17 = .ok (.areturn, 1) := by decide +kernel
theorem dX8_add_0 : decode cX8_add 0 = .ok (.aload_n 0, 1) := by decide +kernel
theorem dX8_add_1 : decode cX8_add 1 = .ok (.getfield 21, 3) := by decide +kernel
theorem dX8_add_4 : decode cX8_add 4 = .ok (.bipush 6, 2) := by decide +kernel
theorem dX8_add_6 : decode cX8_add 6 = .ok (.if_icmp .lt 4, 3) := by decide +kernel
theorem dX8_add_9 : decode cX8_add 9 = .ok (.return_, 1) := by decide +kernel
theorem dX8_add_10 : decode cX8_add 10 = .ok (.aload_n 0, 1) := by decide +kernel
theorem dX8_add_11 : decode cX8_add 11 = .ok (.invokevirtual 28, 3) := by decide +kernel
theorem dX8_add_14 : decode cX8_add 14 = .ok (.astore_n 2, 1) := by decide +kernel
theorem dX8_add_15 : decode cX8_add 15 = .ok (.aload_n 0, 1) := by decide +kernel
theorem dX8_add_16 : decode cX8_add 16 = .ok (.aload_n 2, 1) := by decide +kernel
theorem dX8_add_17 : decode cX8_add 17 = .ok (.ifnonnull 9, 3) := by decide +kernel
theorem dX8_add_20 : decode cX8_add 20 = .ok (.sipush 255, 3) := by decide +kernel
theorem dX8_add_23 : decode cX8_add 23 = .ok (.goto 13, 3) := by decide +kernel
theorem dX8_add_26 : decode cX8_add 26 = .ok (.aload_n 0, 1) := by decide +kernel
theorem dX8_add_27 : decode cX8_add 27 = .ok (.getfield 25, 3) := by decide +kernel
theorem dX8_add_30 : decode cX8_add 30 = .ok (.aload_n 2, 1) := by decide +kernel
theorem dX8_add_31 : decode cX8_add 31 = .ok (.aload_n 1, 1) := by decide +kernel
theorem dX8_add_32 : decode cX8_add 32 = .ok (.invokevirtual 32, 3) := by decide +kernel
theorem dX8_add_35 : decode cX8_add 35 = .ok (.iand, 1) := by decide +kernel
theorem dX8_add_36 : decode cX8_add 36 = .ok (.putfield 25, 3) := by decide +kernel
theorem dX8_add_39 : decode cX8_add 39 = .ok (.aload_n 0, 1) := by decide +kernel
theorem dX8_add_40 : decode cX8_add 40 = .ok (.getfield 11, 3) := by decide +kernel
theorem dX8_add_43 : decode cX8_add 43 = .ok (.aload_n 0, 1) := by decide +kernel
theorem dX8_add_44 : decode cX8_add 44 = .ok (.getfield 21, 3) := by decide +kernel
theorem dX8_add_47 : decode cX8_add 47 = .ok (.aload_n 1, 1) := by decide +kernel
theorem dX8_add_48 : decode cX8_add 48 = .ok (.aastore, 1) := by decide +kernel
theorem dX8_add_49 : decode cX8_add 49 = .ok (.aload_n 0, 1) := by decide +kernel
theorem dX8_add_50 : decode cX8_add 50 = .ok (.dup, 1) := by decide +kernel
theorem dX8_add_51 : decode cX8_add 51 = .ok (.getfield 21, 3) := by decide +kernel
theorem dX8_add_54 : decode cX8_add 54 = .ok (.iconst 1, 1) := by decide +kernel
theorem dX8_add_55 : decode cX8_add 55 = .ok (.iadd, 1) := by decide +kernel
theorem dX8_add_56 : decode cX8_add 56 = .ok (.putfield 21, 3) := by decide +kernel
theorem dX8_add_59 : decode cX8_add 59 = .ok (.aload_n 1, 1) := by decide +kernel
theorem dX8_add_60 : decode cX8_add 60 = .ok (.getfield 36, 3) := by decide +kernel
theorem dX8_add_63 : decode cX8_add 63 = .ok (.astore_n 3, 1) := by decide +kernel
theorem dX8_add_64 : decode cX8_add 64 = .ok (.iconst 0, 1) := by decide +kernel
theorem dX8_add_65 : decode cX8_add 65 = .ok (.istore 4, 2) := by decide +kernel
theorem dX8_add_67 : decode cX8_add 67 = .ok (.iload 4, 2) := by decide +kernel
theorem dX8_add_69 : decode cX8_add 69 = .ok (.aload_n 3, 1) := by decide +kernel
theorem dX8_add_70 : decode cX8_add 70 = .ok (.getfield 40, 3) := by decide +kernel
theorem dX8_add_73 : decode cX8_add 73 = .ok (.if_icmp .ge 41, 3) := by decide +kernel
theorem dX8_add_76 : decode cX8_add 76 = .ok (.aload_n 3, 1) := by decide +kernel
theorem dX8_add_77 : decode cX8_add 77 = .ok (.iload 4, 2) := by decide +kernel
theorem dX8_add_79 : decode cX8_add 79 = .ok (.invokevirtual 43, 3) := by decide +kernel
theorem dX8_add_82 : decode cX8_add 82 = .ok (.astore 5, 2) := by decide +kernel
theorem dX8_add_84 : decode cX8_add 84 = .ok (.aload 5, 2) := by decide +kernel
theorem dX8_add_86 : decode cX8_add 86 = .ok (.ifnull 22, 3) := by decide +kernel
theorem dX8_add_89 : decode cX8_add 89 = .ok (.iload 4, 2) := by decide +kernel
theorem dX8_add_91 : decode cX8_add 91 = .ok (.aload_n 1, 1) := by decide +kernel
theorem dX8_add_92 : decode cX8_add 92 = .ok (.getfield 47, 3) := by decide +kernel
theorem dX8_add_95 : decode cX8_add 95 = .ok (.if_icmp .eq 13, 3) := by decide +kernel
theorem dX8_add_98 : decode cX8_add 98 = .ok (.aload_n 0, 1) := by decide +kernel
theorem dX8_add_99 : decode cX8_add 99 = .ok (.aload 5, 2) := by decide +kernel
theorem dX8_add_101 : decode cX8_add 101 = .ok (.aload_n 1, 1) := by decide +kernel
theorem dX8_add_102 : decode cX8_add 102 = .ok (.invokevirtual 32, 3) := by decide +kernel
theorem dX8_add_105 : decode cX8_add 105 = .ok (.invokevirtual 50, 3) := by decide +kernel
theorem dX8_add_108 : decode cX8_add 108 = .ok (.iinc 4 1, 3) := by decide +kernel
theorem dX8_add_111 : decode cX8_add 111 = .ok (.goto (-44), 3) := by decide +kernel
theorem dX8_add_114 : decode cX8_add 114 = .ok (.return_, 1) := by decide +kernel
theorem dX8_noteShared_0 : decode cX8_noteShared 0 = .ok (.iload_n 1, 1) := by decide +kernel
theorem dX8_noteShared_1 : decode cX8_noteShared 1 = .ok (.ifCond .lt 19, 3) := by decide +kernel
theorem dX8_noteShared_4 : decode cX8_noteShared 4 = .ok (.iload_n 1, 1) := by decide +kernel
theorem dX8_noteShared_5 : decode cX8_noteShared 5 = .ok (.sipush 255, 3) := by decide +kernel
theorem dX8_noteShared_8 : decode cX8_noteShared 8 = .ok (.if_icmp .gt 12, 3) := by decide +kernel
theorem dX8_noteShared_11 : decode cX8_noteShared 11 = .ok (.aload_n 0, 1) := by decide +kernel
theorem dX8_noteShared_12 : decode cX8_noteShared 12 = .ok (.getfield 17, 3) := by decide +kernel
theorem dX8_noteShared_15 : decode cX8_noteShared 15 = .ok (.iload_n 1, 1) := by decide +kernel
theorem dX8_noteShared_16 : decode cX8_noteShared 16 = .ok (.baload, 1) := by decide +kernel
theorem dX8_noteShared_17 : decode cX8_noteShared 17 = .ok (.ifCond .eq 4, 3) := by decide +kernel
theorem dX8_noteShared_20 : decode cX8_noteShared 20 = .ok (.return_, 1) := by decide +kernel
theorem dX8_noteShared_21 : decode cX8_noteShared 21 = .ok (.iload_n 1, 1) := by decide +kernel
theorem dX8_noteShared_22 : decode cX8_noteShared 22 = .ok (.istore_n 2, 1) := by decide +kernel
theorem dX8_noteShared_23 : decode cX8_noteShared 23 = .ok (.iload_n 2, 1) := by decide +kernel
theorem dX8_noteShared_24 : decode cX8_noteShared 24 = .ok (.ifCond .le 19, 3) := by decide +kernel
theorem dX8_noteShared_27 : decode cX8_noteShared 27 = .ok (.aload_n 0, 1) := by decide +kernel
theorem dX8_noteShared_28 : decode cX8_noteShared 28 = .ok (.getfield 17, 3) := by decide +kernel
theorem dX8_noteShared_31 : decode cX8_noteShared 31 = .ok (.iload_n 2, 1) := by decide +kernel
theorem dX8_noteShared_32 : decode cX8_noteShared 32 = .ok (.iconst 1, 1) := by decide +kernel
theorem dX8_noteShared_33 : decode cX8_noteShared 33 = .ok (.bastore, 1) := by decide +kernel
theorem dX8_noteShared_34 : decode cX8_noteShared 34 = .ok (.iload_n 2, 1) := by decide +kernel
theorem dX8_noteShared_35 : decode cX8_noteShared 35 = .ok (.iconst 1, 1) := by decide +kernel
theorem dX8_noteShared_36 : decode cX8_noteShared 36 = .ok (.isub, 1) := by decide +kernel
theorem dX8_noteShared_37 : decode cX8_noteShared 37 = .ok (.iload_n 1, 1) := by decide +kernel
theorem dX8_noteShared_38 : decode cX8_noteShared 38 = .ok (.iand, 1) := by decide +kernel
theorem dX8_noteShared_39 : decode cX8_noteShared 39 = .ok (.istore_n 2, 1) := by decide +kernel
theorem dX8_noteShared_40 : decode cX8_noteShared 40 = .ok (.goto (-17), 3) := by decide +kernel
theorem dX8_noteShared_43 : decode cX8_noteShared 43 = .ok (.return_, 1) := by decide +kernel
theorem dX8_dropAll_0 : decode cX8_dropAll 0 = .ok (.aload_n 0, 1) := by decide +kernel
theorem dX8_dropAll_1 : decode cX8_dropAll 1 = .ok (.iconst 0, 1) := by decide +kernel
theorem dX8_dropAll_2 : decode cX8_dropAll 2 = .ok (.putfield 21, 3) := by decide +kernel
theorem dX8_dropAll_5 : decode cX8_dropAll 5 = .ok (.aload_n 0, 1) := by decide +kernel
theorem dX8_dropAll_6 : decode cX8_dropAll 6 = .ok (.iconst 0, 1) := by decide +kernel
theorem dX8_dropAll_7 : decode cX8_dropAll 7 = .ok (.putfield 25, 3) := by decide +kernel
theorem dX8_dropAll_10 : decode cX8_dropAll 10 = .ok (.iconst 0, 1) := by decide +kernel
theorem dX8_dropAll_11 : decode cX8_dropAll 11 = .ok (.istore_n 1, 1) := by decide +kernel
theorem dX8_dropAll_12 : decode cX8_dropAll 12 = .ok (.iload_n 1, 1) := by decide +kernel
theorem dX8_dropAll_13 : decode cX8_dropAll 13 = .ok (.sipush 255, 3) := by decide +kernel
theorem dX8_dropAll_16 : decode cX8_dropAll 16 = .ok (.if_icmp .gt 16, 3) := by decide +kernel
theorem dX8_dropAll_19 : decode cX8_dropAll 19 = .ok (.aload_n 0, 1) := by decide +kernel
theorem dX8_dropAll_20 : decode cX8_dropAll 20 = .ok (.getfield 17, 3) := by decide +kernel
theorem dX8_dropAll_23 : decode cX8_dropAll 23 = .ok (.iload_n 1, 1) := by decide +kernel
theorem dX8_dropAll_24 : decode cX8_dropAll 24 = .ok (.iconst 0, 1) := by decide +kernel
theorem dX8_dropAll_25 : decode cX8_dropAll 25 = .ok (.bastore, 1) := by decide +kernel
theorem dX8_dropAll_26 : decode cX8_dropAll 26 = .ok (.iinc 1 1, 3) := by decide +kernel
theorem dX8_dropAll_29 : decode cX8_dropAll 29 = .ok (.goto (-17), 3) := by decide +kernel
theorem dX8_dropAll_32 : decode cX8_dropAll 32 = .ok (.return_, 1) := by decide +kernel
theorem dX8_leastMarks_0 : decode cX8_leastMarks 0 = .ok (.iconst (-1), 1) := by decide +kernel
theorem dX8_leastMarks_1 : decode cX8_leastMarks 1 = .ok (.istore_n 1, 1) := by decide +kernel
theorem dX8_leastMarks_2 : decode cX8_leastMarks 2 = .ok (.iconst 0, 1) := by decide +kernel
theorem dX8_leastMarks_3 : decode cX8_leastMarks 3 = .ok (.istore_n 2, 1) := by decide +kernel
theorem dX8_leastMarks_4 : decode cX8_leastMarks 4 = .ok (.iconst 1, 1) := by decide +kernel
theorem dX8_leastMarks_5 : decode cX8_leastMarks 5 = .ok (.istore_n 3, 1) := by decide +kernel
theorem dX8_leastMarks_6 : decode cX8_leastMarks 6 = .ok (.iload_n 3, 1) := by decide +kernel
theorem dX8_leastMarks_7 : decode cX8_leastMarks 7 = .ok (.sipush 255, 3) := by decide +kernel
theorem dX8_leastMarks_10 : decode cX8_leastMarks 10 = .ok (.if_icmp .gt 53, 3) := by decide +kernel
theorem dX8_leastMarks_13 : decode cX8_leastMarks 13 = .ok (.iload_n 3, 1) := by decide +kernel
theorem dX8_leastMarks_14 : decode cX8_leastMarks 14 = .ok (.aload_n 0, 1) := by decide +kernel
theorem dX8_leastMarks_15 : decode cX8_leastMarks 15 = .ok (.getfield 25, 3) := by decide +kernel
theorem dX8_leastMarks_18 : decode cX8_leastMarks 18 = .ok (.iand, 1) := by decide +kernel
theorem dX8_leastMarks_19 : decode cX8_leastMarks 19 = .ok (.iload_n 3, 1) := by decide +kernel
theorem dX8_leastMarks_20 : decode cX8_leastMarks 20 = .ok (.if_icmp .ne 37, 3) := by decide +kernel
theorem dX8_leastMarks_23 : decode cX8_leastMarks 23 = .ok (.aload_n 0, 1) := by decide +kernel
theorem dX8_leastMarks_24 : decode cX8_leastMarks 24 = .ok (.getfield 17, 3) := by decide +kernel
theorem dX8_leastMarks_27 : decode cX8_leastMarks 27 = .ok (.iload_n 3, 1) := by decide +kernel
theorem dX8_leastMarks_28 : decode cX8_leastMarks 28 = .ok (.baload, 1) := by decide +kernel
theorem dX8_leastMarks_29 : decode cX8_leastMarks 29 = .ok (.ifCond .eq 6, 3) := by decide +kernel
theorem dX8_leastMarks_32 : decode cX8_leastMarks 32 = .ok (.goto 25, 3) := by decide +kernel
theorem dX8_leastMarks_35 : decode cX8_leastMarks 35 = .ok (.iload_n 3, 1) := by decide +kernel
theorem dX8_leastMarks_36 : decode cX8_leastMarks 36 = .ok (.invokestatic 54, 3) := by decide +kernel
theorem dX8_leastMarks_39 : decode cX8_leastMarks 39 = .ok (.istore 4, 2) := by decide +kernel
theorem dX8_leastMarks_41 : decode cX8_leastMarks 41 = .ok (.iload_n 1, 1) := by decide +kernel
theorem dX8_leastMarks_42 : decode cX8_leastMarks 42 = .ok (.iconst (-1), 1) := by decide +kernel
theorem dX8_leastMarks_43 : decode cX8_leastMarks 43 = .ok (.if_icmp .eq 9, 3) := by decide +kernel
theorem dX8_leastMarks_46 : decode cX8_leastMarks 46 = .ok (.iload 4, 2) := by decide +kernel
theorem dX8_leastMarks_48 : decode cX8_leastMarks 48 = .ok (.iload_n 2, 1) := by decide +kernel
theorem dX8_leastMarks_49 : decode cX8_leastMarks 49 = .ok (.if_icmp .ge 8, 3) := by decide +kernel
theorem dX8_leastMarks_52 : decode cX8_leastMarks 52 = .ok (.iload_n 3, 1) := by decide +kernel
theorem dX8_leastMarks_53 : decode cX8_leastMarks 53 = .ok (.istore_n 1, 1) := by decide +kernel
theorem dX8_leastMarks_54 : decode cX8_leastMarks 54 = .ok (.iload 4, 2) := by decide +kernel
theorem dX8_leastMarks_56 : decode cX8_leastMarks 56 = .ok (.istore_n 2, 1) := by decide +kernel
theorem dX8_leastMarks_57 : decode cX8_leastMarks 57 = .ok (.iinc 3 1, 3) := by decide +kernel
theorem dX8_leastMarks_60 : decode cX8_leastMarks 60 = .ok (.goto (-54), 3) := by decide +kernel
theorem dX8_leastMarks_63 : decode cX8_leastMarks 63 = .ok (.iload_n 1, 1) := by decide +kernel
theorem dX8_leastMarks_64 : decode cX8_leastMarks 64 = .ok (.ireturn, 1) := by decide +kernel
theorem dX9_init_0 : decode cX9_init 0 = .ok (.aload_n 0, 1) := by decide +kernel
theorem dX9_init_1 : decode cX9_init 1 = .ok (.invokespecial 3, 3) := by decide +kernel
theorem dX9_init_4 : decode cX9_init 4 = .ok (.aload_n 0, 1) := by decide +kernel
theorem dX9_init_5 : decode cX9_init 5 = .ok (.sipush 1600, 3) := by decide +kernel
theorem dX9_init_8 : decode cX9_init 8 = .ok (.newarray .byte, 2) := by decide +kernel
theorem dX9_init_10 : decode cX9_init 10 = .ok (.putfield 9, 3) := by decide +kernel
theorem dX9_init_13 : decode cX9_init 13 = .ok (.aload_n 0, 1) := by decide +kernel
theorem dX9_init_14 : decode cX9_init 14 = .ok (.iconst 0, 1) := by decide +kernel
theorem dX9_init_15 : decode cX9_init 15 = .ok (.putfield 15, 3) := by decide +kernel
theorem dX9_init_18 : decode cX9_init 18 = .ok (.return_, 1) := by decide +kernel
theorem dX9_append_0 : decode cX9_append 0 = .ok (.bipush 24, 2) := by decide +kernel
theorem dX9_append_2 : decode cX9_append 2 = .ok (.istore_n 2, 1) := by decide +kernel
theorem dX9_append_3 : decode cX9_append 3 = .ok (.iload_n 2, 1) := by decide +kernel
theorem dX9_append_4 : decode cX9_append 4 = .ok (.ifCond .lt 42, 3) := by decide +kernel
theorem dX9_append_7 : decode cX9_append 7 = .ok (.aload_n 0, 1) := by decide +kernel
theorem dX9_append_8 : decode cX9_append 8 = .ok (.getfield 15, 3) := by decide +kernel
theorem dX9_append_11 : decode cX9_append 11 = .ok (.sipush 1600, 3) := by decide +kernel
theorem dX9_append_14 : decode cX9_append 14 = .ok (.if_icmp .ge 26, 3) := by decide +kernel
theorem dX9_append_17 : decode cX9_append 17 = .ok (.aload_n 0, 1) := by decide +kernel
theorem dX9_append_18 : decode cX9_append 18 = .ok (.getfield 9, 3) := by decide +kernel
theorem dX9_append_21 : decode cX9_append 21 = .ok (.aload_n 0, 1) := by decide +kernel
theorem dX9_append_22 : decode cX9_append 22 = .ok (.getfield 15, 3) := by decide +kernel
theorem dX9_append_25 : decode cX9_append 25 = .ok (.iload_n 1, 1) := by decide +kernel
theorem dX9_append_26 : decode cX9_append 26 = .ok (.iload_n 2, 1) := by decide +kernel
theorem dX9_append_27 : decode cX9_append 27 = .ok (.ishr, 1) := by decide +kernel
theorem dX9_append_28 : decode cX9_append 28 = .ok (.i2b, 1) := by decide +kernel
theorem dX9_append_29 : decode cX9_append 29 = .ok (.bastore, 1) := by decide +kernel
theorem dX9_append_30 : decode cX9_append 30 = .ok (.aload_n 0, 1) := by decide +kernel
theorem dX9_append_31 : decode cX9_append 31 = .ok (.dup, 1) := by decide +kernel
theorem dX9_append_32 : decode cX9_append 32 = .ok (.getfield 15, 3) := by decide +kernel
theorem dX9_append_35 : decode cX9_append 35 = .ok (.iconst 1, 1) := by decide +kernel
theorem dX9_append_36 : decode cX9_append 36 = .ok (.iadd, 1) := by decide +kernel
theorem dX9_append_37 : decode cX9_append 37 = .ok (.putfield 15, 3) := by decide +kernel
theorem dX9_append_40 : decode cX9_append 40 = .ok (.iinc 2 (-8), 3) := by decide +kernel
theorem dX9_append_43 : decode cX9_append 43 = .ok (.goto (-40), 3) := by decide +kernel
theorem dX9_append_46 : decode cX9_append 46 = .ok (.return_, 1) := by decide +kernel
theorem dX9_byteAt_0 : decode cX9_byteAt 0 = .ok (.iload_n 1, 1) := by decide +kernel
theorem dX9_byteAt_1 : decode cX9_byteAt 1 = .ok (.ifCond .lt 11, 3) := by decide +kernel
theorem dX9_byteAt_4 : decode cX9_byteAt 4 = .ok (.iload_n 1, 1) := by decide +kernel
theorem dX9_byteAt_5 : decode cX9_byteAt 5 = .ok (.aload_n 0, 1) := by decide +kernel
theorem dX9_byteAt_6 : decode cX9_byteAt 6 = .ok (.getfield 15, 3) := by decide +kernel
theorem dX9_byteAt_9 : decode cX9_byteAt 9 = .ok (.if_icmp .lt 7, 3) := by decide +kernel
theorem dX9_byteAt_12 : decode cX9_byteAt 12 = .ok (.iconst (-1), 1) := by decide +kernel
theorem dX9_byteAt_13 : decode cX9_byteAt 13 = .ok (.goto 13, 3) := by decide +kernel
theorem dX9_byteAt_16 : decode cX9_byteAt 16 = .ok (.aload_n 0, 1) := by decide +kernel
theorem dX9_byteAt_17 : decode cX9_byteAt 17 = .ok (.getfield 9, 3) := by decide +kernel
theorem dX9_byteAt_20 : decode cX9_byteAt 20 = .ok (.iload_n 1, 1) := by decide +kernel
theorem dX9_byteAt_21 : decode cX9_byteAt 21 = .ok (.baload, 1) := by decide +kernel
theorem dX9_byteAt_22 : decode cX9_byteAt 22 = .ok (.sipush 255, 3) := by decide +kernel
theorem dX9_byteAt_25 : decode cX9_byteAt 25 = .ok (.iand, 1) := by decide +kernel
theorem dX9_byteAt_26 : decode cX9_byteAt 26 = .ok (.ireturn, 1) := by decide +kernel
theorem dX10_init_0 : decode cX10_init 0 = .ok (.aload_n 0, 1) := by decide +kernel
theorem dX10_init_1 : decode cX10_init 1 = .ok (.invokespecial 1, 3) := by decide +kernel
theorem dX10_init_4 : decode cX10_init 4 = .ok (.aload_n 0, 1) := by decide +kernel
theorem dX10_init_5 : decode cX10_init 5 = .ok (.iconst 0, 1) := by decide +kernel
theorem dX10_init_6 : decode cX10_init 6 = .ok (.putfield 7, 3) := by decide +kernel
theorem dX10_init_9 : decode cX10_init 9 = .ok (.aload_n 0, 1) := by decide +kernel
theorem dX10_init_10 : decode cX10_init 10 = .ok (.iconst 0, 1) := by decide +kernel
theorem dX10_init_11 : decode cX10_init 11 = .ok (.putfield 13, 3) := by decide +kernel
theorem dX10_init_14 : decode cX10_init 14 = .ok (.aload_n 0, 1) := by decide +kernel
theorem dX10_init_15 : decode cX10_init 15 = .ok (.iconst 0, 1) := by decide +kernel
theorem dX10_init_16 : decode cX10_init 16 = .ok (.putfield 16, 3) := by decide +kernel
theorem dX10_init_19 : decode cX10_init 19 = .ok (.aload_n 0, 1) := by decide +kernel
theorem dX10_init_20 : decode cX10_init 20 = .ok (.lconst 0, 1) := by decide +kernel
theorem dX10_init_21 : decode cX10_init 21 = .ok (.putfield 19, 3) := by decide +kernel
theorem dX10_init_24 : decode cX10_init 24 = .ok (.aload_n 0, 1) := by decide +kernel
theorem dX10_init_25 : decode cX10_init 25 = .ok (.lconst 0, 1) := by decide +kernel
theorem dX10_init_26 : decode cX10_init 26 = .ok (.putfield 23, 3) := by decide +kernel
theorem dX10_init_29 : decode cX10_init 29 = .ok (.aload_n 0, 1) := by decide +kernel
theorem dX10_init_30 : decode cX10_init 30 = .ok (.lconst 0, 1) := by decide +kernel
theorem dX10_init_31 : decode cX10_init 31 = .ok (.putfield 26, 3) := by decide +kernel
theorem dX10_init_34 : decode cX10_init 34 = .ok (.aload_n 0, 1) := by decide +kernel
theorem dX10_init_35 : decode cX10_init 35 = .ok (.iconst 0, 1) := by decide +kernel
theorem dX10_init_36 : decode cX10_init 36 = .ok (.putfield 29, 3) := by decide +kernel
theorem dX10_init_39 : decode cX10_init 39 = .ok (.aload_n 0, 1) := by decide +kernel
theorem dX10_init_40 : decode cX10_init 40 = .ok (.aload_n 1, 1) := by decide +kernel
theorem dX10_init_41 : decode cX10_init 41 = .ok (.putfield 32, 3) := by decide +kernel
theorem dX10_init_44 : decode cX10_init 44 = .ok (.return_, 1) := by decide +kernel
theorem dX10_rewind_0 : decode cX10_rewind 0 = .ok (.aload_n 0, 1) := by decide +kernel
theorem dX10_rewind_1 : decode cX10_rewind 1 = .ok (.iconst 0, 1) := by decide +kernel
theorem dX10_rewind_2 : decode cX10_rewind 2 = .ok (.putfield 7, 3) := by decide +kernel
theorem dX10_rewind_5 : decode cX10_rewind 5 = .ok (.return_, 1) := by decide +kernel
theorem dX10_advance_0 : decode cX10_advance 0 = .ok (.aload_n 0, 1) := by decide +kernel
theorem dX10_advance_1 : decode cX10_advance 1 = .ok (.getfield 7, 3) := by decide +kernel
theorem dX10_advance_4 : decode cX10_advance 4 = .ok (.aload_n 0, 1) := by decide +kernel
theorem dX10_advance_5 : decode cX10_advance 5 = .ok (.getfield 32, 3) := by decide +kernel
theorem dX10_advance_8 : decode cX10_advance 8 = .ok (.getfield 36, 3) := by decide +kernel
theorem dX10_advance_11 : decode cX10_advance 11 = .ok (.if_icmp .ge 33, 3) := by decide +kernel
theorem dX10_advance_14 : decode cX10_advance 14 = .ok (.aload_n 0, 1) := by decide +kernel
theorem dX10_advance_15 : decode cX10_advance 15 = .ok (.getfield 32, 3) := by decide +kernel
theorem dX10_advance_18 : decode cX10_advance 18 = .ok (.aload_n 0, 1) := by decide +kernel
theorem dX10_advance_19 : decode cX10_advance 19 = .ok (.getfield 7, 3) := by decide +kernel
theorem dX10_advance_22 : decode cX10_advance 22 = .ok (.invokevirtual 41, 3) := by decide +kernel
theorem dX10_advance_25 : decode cX10_advance 25 = .ok (.invokestatic 45, 3) := by decide +kernel
theorem dX10_advance_28 : decode cX10_advance 28 = .ok (.ifCond .eq 16, 3) := by decide +kernel
theorem dX10_advance_31 : decode cX10_advance 31 = .ok (.aload_n 0, 1) := by decide +kernel
theorem dX10_advance_32 : decode cX10_advance 32 = .ok (.dup, 1) := by decide +kernel
theorem dX10_advance_33 : decode cX10_advance 33 = .ok (.getfield 7, 3) := by decide +kernel
theorem dX10_advance_36 : decode cX10_advance 36 = .ok (.iconst 1, 1) := by decide +kernel
theorem dX10_advance_37 : decode cX10_advance 37 = .ok (.iadd, 1) := by decide +kernel
theorem dX10_advance_38 : decode cX10_advance 38 = .ok (.putfield 7, 3) := by decide +kernel
theorem dX10_advance_41 : decode cX10_advance 41 = .ok (.goto (-41), 3) := by decide +kernel
theorem dX10_advance_44 : decode cX10_advance 44 = .ok (.aload_n 0, 1) := by decide +kernel
theorem dX10_advance_45 : decode cX10_advance 45 = .ok (.aload_n 0, 1) := by decide +kernel
theorem dX10_advance_46 : decode cX10_advance 46 = .ok (.getfield 7, 3) := by decide +kernel
theorem dX10_advance_49 : decode cX10_advance 49 = .ok (.putfield 16, 3) := by decide +kernel
theorem dX10_advance_52 : decode cX10_advance 52 = .ok (.aload_n 0, 1) := by decide +kernel
theorem dX10_advance_53 : decode cX10_advance 53 = .ok (.getfield 32, 3) := by decide +kernel
theorem dX10_advance_56 : decode cX10_advance 56 = .ok (.aload_n 0, 1) := by decide +kernel
theorem dX10_advance_57 : decode cX10_advance 57 = .ok (.getfield 7, 3) := by decide +kernel
theorem dX10_advance_60 : decode cX10_advance 60 = .ok (.invokevirtual 41, 3) := by decide +kernel
theorem dX10_advance_63 : decode cX10_advance 63 = .ok (.istore_n 1, 1) := by decide +kernel
theorem dX10_advance_64 : decode cX10_advance 64 = .ok (.iload_n 1, 1) := by decide +kernel
theorem dX10_advance_65 : decode cX10_advance 65 = .ok (.invokestatic 49, 3) := by decide +kernel
theorem dX10_advance_68 : decode cX10_advance 68 = .ok (.ifCond .eq 10, 3) := by decide +kernel
theorem dX10_advance_71 : decode cX10_advance 71 = .ok (.aload_n 0, 1) := by decide +kernel
theorem dX10_advance_72 : decode cX10_advance 72 = .ok (.invokevirtual 52, 3) := by decide +kernel
theorem dX10_advance_75 : decode cX10_advance 75 = .ok (.goto 52, 3) := by decide +kernel
theorem dX10_advance_78 : decode cX10_advance 78 = .ok (.iload_n 1, 1) := by decide +kernel
theorem dX10_advance_79 : decode cX10_advance 79 = .ok (.bipush 34, 2) := by decide +kernel
theorem dX10_advance_81 : decode cX10_advance 81 = .ok (.if_icmp .ne 10, 3) := by decide +kernel
theorem dX10_advance_84 : decode cX10_advance 84 = .ok (.aload_n 0, 1) := by decide +kernel
theorem dX10_advance_85 : decode cX10_advance 85 = .ok (.invokevirtual 55, 3) := by decide +kernel
theorem dX10_advance_88 : decode cX10_advance 88 = .ok (.goto 39, 3) := by decide +kernel
theorem dX10_advance_91 : decode cX10_advance 91 = .ok (.aload_n 0, 1) := by decide +kernel
theorem dX10_advance_92 : decode cX10_advance 92 = .ok (.aload_n 0, 1) := by decide +kernel
theorem dX10_advance_93 : decode cX10_advance 93 = .ok (.getfield 7, 3) := by decide +kernel
theorem dX10_advance_96 : decode cX10_advance 96 = .ok (.aload_n 0, 1) := by decide +kernel
theorem dX10_advance_97 : decode cX10_advance 97 = .ok (.getfield 32, 3) := by decide +kernel
theorem dX10_advance_100 : decode cX10_advance 100 = .ok (.getfield 36, 3) := by decide +kernel
theorem dX10_advance_103 : decode cX10_advance 103 = .ok (.if_icmp .lt 7, 3) := by decide +kernel
theorem dX10_advance_106 : decode cX10_advance 106 = .ok (.iconst 0, 1) := by decide +kernel
theorem dX10_advance_107 : decode cX10_advance 107 = .ok (.goto 7, 3) := by decide +kernel
theorem dX10_advance_110 : decode cX10_advance 110 = .ok (.iload_n 1, 1) := by decide +kernel
theorem dX10_advance_111 : decode cX10_advance 111 = .ok (.invokestatic 58, 3) := by decide +kernel
theorem dX10_advance_114 : decode cX10_advance 114 = .ok (.putfield 13, 3) := by decide +kernel
theorem dX10_advance_117 : decode cX10_advance 117 = .ok (.aload_n 0, 1) := by decide +kernel
theorem dX10_advance_118 : decode cX10_advance 118 = .ok (.dup, 1) := by decide +kernel
theorem dX10_advance_119 : decode cX10_advance 119 = .ok (.getfield 7, 3) := by decide +kernel
theorem dX10_advance_122 : decode cX10_advance 122 = .ok (.iconst 1, 1) := by decide +kernel
theorem dX10_advance_123 : decode cX10_advance 123 = .ok (.iadd, 1) := by decide +kernel
theorem dX10_advance_124 : decode cX10_advance 124 = .ok (.putfield 7, 3) := by decide +kernel
theorem dX10_advance_127 : decode cX10_advance 127 = .ok (.return_, 1) := by decide +kernel
theorem dX10_takeWord_0 : decode cX10_takeWord 0 = .ok (.aload_n 0, 1) := by decide +kernel
theorem dX10_takeWord_1 : decode cX10_takeWord 1 = .ok (.iconst 1, 1) := by decide +kernel
theorem dX10_takeWord_2 : decode cX10_takeWord 2 = .ok (.putfield 13, 3) := by decide +kernel
theorem dX10_takeWord_5 : decode cX10_takeWord 5 = .ok (.aload_n 0, 1) := by decide +kernel
theorem dX10_takeWord_6 : decode cX10_takeWord 6 = .ok (.lconst 0, 1) := by decide +kernel
theorem dX10_takeWord_7 : decode cX10_takeWord 7 = .ok (.putfield 19, 3) := by decide +kernel
theorem dX10_takeWord_10 : decode cX10_takeWord 10 = .ok (.iconst 0, 1) := by decide +kernel
theorem dX10_takeWord_11 : decode cX10_takeWord 11 = .ok (.istore_n 1, 1) := by decide +kernel
theorem dX10_takeWord_12 : decode cX10_takeWord 12 = .ok (.iload_n 1, 1) := by decide +kernel
theorem dX10_takeWord_13 : decode cX10_takeWord 13 = .ok (.bipush 8, 2) := by decide +kernel
theorem dX10_takeWord_15 : decode cX10_takeWord 15 = .ok (.if_icmp .ge 64, 3) := by decide +kernel
theorem dX10_takeWord_18 : decode cX10_takeWord 18 = .ok (.aload_n 0, 1) := by decide +kernel
theorem dX10_takeWord_19 : decode cX10_takeWord 19 = .ok (.getfield 32, 3) := by decide +kernel
theorem dX10_takeWord_22 : decode cX10_takeWord 22 = .ok (.aload_n 0, 1) := by decide +kernel
theorem dX10_takeWord_23 : decode cX10_takeWord 23 = .ok (.getfield 7, 3) := by decide +kernel
theorem dX10_takeWord_26 : decode cX10_takeWord 26 = .ok (.invokevirtual 41, 3) := by decide +kernel
theorem dX10_takeWord_29 : decode cX10_takeWord 29 = .ok (.invokestatic 49, 3) := by decide +kernel
theorem dX10_takeWord_32 : decode cX10_takeWord 32 = .ok (.ifCond .eq 47, 3) := by decide +kernel
theorem dX10_takeWord_35 : decode cX10_takeWord 35 = .ok (.aload_n 0, 1) := by decide +kernel
theorem dX10_takeWord_36 : decode cX10_takeWord 36 = .ok (.dup, 1) := by decide +kernel
theorem dX10_takeWord_37 : decode cX10_takeWord 37 = .ok (.getfield 19, 3) := by decide +kernel
theorem dX10_takeWord_40 : decode cX10_takeWord 40 = .ok (.aload_n 0, 1) := by decide +kernel
theorem dX10_takeWord_41 : decode cX10_takeWord 41 = .ok (.getfield 32, 3) := by decide +kernel
theorem dX10_takeWord_44 : decode cX10_takeWord 44 = .ok (.aload_n 0, 1) := by decide +kernel
theorem dX10_takeWord_45 : decode cX10_takeWord 45 = .ok (.getfield 7, 3) := by decide +kernel
theorem dX10_takeWord_48 : decode cX10_takeWord 48 = .ok (.invokevirtual 41, 3) := by decide +kernel
theorem dX10_takeWord_51 : decode cX10_takeWord 51 = .ok (.bipush 96, 2) := by decide +kernel
theorem dX10_takeWord_53 : decode cX10_takeWord 53 = .ok (.isub, 1) := by decide +kernel
theorem dX10_takeWord_54 : decode cX10_takeWord 54 = .ok (.i2l, 1) := by decide +kernel
theorem dX10_takeWord_55 : decode cX10_takeWord 55 = .ok (.iload_n 1, 1) := by decide +kernel
theorem dX10_takeWord_56 : decode cX10_takeWord 56 = .ok (.iconst 5, 1) := by decide +kernel
theorem dX10_takeWord_57 : decode cX10_takeWord 57 = .ok (.imul, 1) := by decide +kernel
theorem dX10_takeWord_58 : decode cX10_takeWord 58 = .ok (.lshl, 1) := by decide +kernel
theorem dX10_takeWord_59 : decode cX10_takeWord 59 = .ok (.lor, 1) := by decide +kernel
theorem dX10_takeWord_60 : decode cX10_takeWord 60 = .ok (.putfield 19, 3) := by decide +kernel
theorem dX10_takeWord_63 : decode cX10_takeWord 63 = .ok (.aload_n 0, 1) := by decide +kernel
theorem dX10_takeWord_64 : decode cX10_takeWord 64 = .ok (.dup, 1) := by decide +kernel
theorem dX10_takeWord_65 : decode cX10_takeWord 65 = .ok (.getfield 7, 3) := by decide +kernel
theorem dX10_takeWord_68 : decode cX10_takeWord 68 = .ok (.iconst 1, 1) := by decide +kernel
theorem dX10_takeWord_69 : decode cX10_takeWord 69 = .ok (.iadd, 1) := by decide +kernel
theorem dX10_takeWord_70 : decode cX10_takeWord 70 = .ok (.putfield 7, 3) := by decide +kernel
theorem dX10_takeWord_73 : decode cX10_takeWord 73 = .ok (.iinc 1 1, 3) := by decide +kernel
theorem dX10_takeWord_76 : decode cX10_takeWord 76 = .ok (.goto (-64), 3) := by decide +kernel
theorem dX10_takeWord_79 : decode cX10_takeWord 79 = .ok (.return_, 1) := by decide +kernel
theorem dX10_takeText_0 : decode cX10_takeText 0 = .ok (.aload_n 0, 1) := by decide +kernel
theorem dX10_takeText_1 : decode cX10_takeText 1 = .ok (.dup, 1) := by decide +kernel
theorem dX10_takeText_2 : decode cX10_takeText 2 = .ok (.getfield 7, 3) := by decide +kernel
theorem dX10_takeText_5 : decode cX10_takeText 5 = .ok (.iconst 1, 1) := by decide +kernel
theorem dX10_takeText_6 : decode cX10_takeText 6 = .ok (.iadd, 1) := by decide +kernel
theorem dX10_takeText_7 : decode cX10_takeText 7 = .ok (.putfield 7, 3) := by decide +kernel
theorem dX10_takeText_10 : decode cX10_takeText 10 = .ok (.aload_n 0, 1) := by decide +kernel
theorem dX10_takeText_11 : decode cX10_takeText 11 = .ok (.lconst 0, 1) := by decide +kernel
theorem dX10_takeText_12 : decode cX10_takeText 12 = .ok (.putfield 23, 3) := by decide +kernel
theorem dX10_takeText_15 : decode cX10_takeText 15 = .ok (.aload_n 0, 1) := by decide +kernel
theorem dX10_takeText_16 : decode cX10_takeText 16 = .ok (.lconst 0, 1) := by decide +kernel
theorem dX10_takeText_17 : decode cX10_takeText 17 = .ok (.putfield 26, 3) := by decide +kernel
theorem dX10_takeText_20 : decode cX10_takeText 20 = .ok (.aload_n 0, 1) := by decide +kernel
theorem dX10_takeText_21 : decode cX10_takeText 21 = .ok (.iconst 0, 1) := by decide +kernel
theorem dX10_takeText_22 : decode cX10_takeText 22 = .ok (.putfield 29, 3) := by decide +kernel
theorem dX10_takeText_25 : decode cX10_takeText 25 = .ok (.iconst 0, 1) := by decide +kernel
theorem dX10_takeText_26 : decode cX10_takeText 26 = .ok (.istore_n 1, 1) := by decide +kernel
theorem dX10_takeText_27 : decode cX10_takeText 27 = .ok (.iload_n 1, 1) := by decide +kernel
theorem dX10_takeText_28 : decode cX10_takeText 28 = .ok (.bipush 16, 2) := by decide +kernel
theorem dX10_takeText_30 : decode cX10_takeText 30 = .ok (.if_icmp .ge 51, 3) := by decide +kernel
theorem dX10_takeText_33 : decode cX10_takeText 33 = .ok (.aload_n 0, 1) := by decide +kernel
theorem dX10_takeText_34 : decode cX10_takeText 34 = .ok (.getfield 32, 3) := by decide +kernel
theorem dX10_takeText_37 : decode cX10_takeText 37 = .ok (.aload_n 0, 1) := by decide +kernel
theorem dX10_takeText_38 : decode cX10_takeText 38 = .ok (.getfield 7, 3) := by decide +kernel
theorem dX10_takeText_41 : decode cX10_takeText 41 = .ok (.invokevirtual 41, 3) := by decide +kernel
theorem dX10_takeText_44 : decode cX10_takeText 44 = .ok (.invokestatic 61, 3) := by decide +kernel
theorem dX10_takeText_47 : decode cX10_takeText 47 = .ok (.ifCond .eq 34, 3) := by decide +kernel
theorem dX10_takeText_50 : decode cX10_takeText 50 = .ok (.aload_n 0, 1) := by decide +kernel
theorem dX10_takeText_51 : decode cX10_takeText 51 = .ok (.aload_n 0, 1) := by decide +kernel
theorem dX10_takeText_52 : decode cX10_takeText 52 = .ok (.getfield 32, 3) := by decide +kernel
theorem dX10_takeText_55 : decode cX10_takeText 55 = .ok (.aload_n 0, 1) := by decide +kernel
theorem dX10_takeText_56 : decode cX10_takeText 56 = .ok (.getfield 7, 3) := by decide +kernel
theorem dX10_takeText_59 : decode cX10_takeText 59 = .ok (.invokevirtual 41, 3) := by decide +kernel
theorem dX10_takeText_62 : decode cX10_takeText 62 = .ok (.invokevirtual 64, 3) := by decide +kernel
theorem dX10_takeText_65 : decode cX10_takeText 65 = .ok (.aload_n 0, 1) := by decide +kernel
theorem dX10_takeText_66 : decode cX10_takeText 66 = .ok (.dup, 1) := by decide +kernel
theorem dX10_takeText_67 : decode cX10_takeText 67 = .ok (.getfield 7, 3) := by decide +kernel
theorem dX10_takeText_70 : decode cX10_takeText 70 = .ok (.iconst 1, 1) := by decide +kernel
theorem dX10_takeText_71 : decode cX10_takeText 71 = .ok (.iadd, 1) := by decide +kernel
theorem dX10_takeText_72 : decode cX10_takeText 72 = .ok (.putfield 7, 3) := by decide +kernel
theorem dX10_takeText_75 : decode cX10_takeText 75 = .ok (.iinc 1 1, 3) := by decide +kernel
theorem dX10_takeText_78 : decode cX10_takeText 78 = .ok (.goto (-51), 3) := by decide +kernel
theorem dX10_takeText_81 : decode cX10_takeText 81 = .ok (.aload_n 0, 1) := by decide +kernel
theorem dX10_takeText_82 : decode cX10_takeText 82 = .ok (.aload_n 0, 1) := by decide +kernel
theorem dX10_takeText_83 : decode cX10_takeText 83 = .ok (.getfield 32, 3) := by decide +kernel
theorem dX10_takeText_86 : decode cX10_takeText 86 = .ok (.aload_n 0, 1) := by decide +kernel
theorem dX10_takeText_87 : decode cX10_takeText 87 = .ok (.getfield 7, 3) := by decide +kernel
theorem dX10_takeText_90 : decode cX10_takeText 90 = .ok (.invokevirtual 41, 3) := by decide +kernel
theorem dX10_takeText_93 : decode cX10_takeText 93 = .ok (.bipush 34, 2) := by decide +kernel
theorem dX10_takeText_95 : decode cX10_takeText 95 = .ok (.if_icmp .ne 7, 3) := by decide +kernel
theorem dX10_takeText_98 : decode cX10_takeText 98 = .ok (.iconst 2, 1) := by decide +kernel
theorem dX10_takeText_99 : decode cX10_takeText 99 = .ok (.goto 5, 3) := by decide +kernel
theorem dX10_takeText_102 : decode cX10_takeText 102 = .ok (.bipush 7, 2) := by decide +kernel
theorem dX10_takeText_104 : decode cX10_takeText 104 = .ok (.putfield 13, 3) := by decide +kernel
theorem dX10_takeText_107 : decode cX10_takeText 107 = .ok (.aload_n 0, 1) := by decide +kernel
theorem dX10_takeText_108 : decode cX10_takeText 108 = .ok (.dup, 1) := by decide +kernel
theorem dX10_takeText_109 : decode cX10_takeText 109 = .ok (.getfield 7, 3) := by decide +kernel
theorem dX10_takeText_112 : decode cX10_takeText 112 = .ok (.iconst 1, 1) := by decide +kernel
theorem dX10_takeText_113 : decode cX10_takeText 113 = .ok (.iadd, 1) := by decide +kernel
theorem dX10_takeText_114 : decode cX10_takeText 114 = .ok (.putfield 7, 3) := by decide +kernel
theorem dX10_takeText_117 : decode cX10_takeText 117 = .ok (.return_, 1) := by decide +kernel
theorem dX10_putTextByte_0 : decode cX10_putTextByte 0 = .ok (.aload_n 0, 1) := by decide +kernel
theorem dX10_putTextByte_1 : decode cX10_putTextByte 1 = .ok (.getfield 29, 3) := by decide +kernel
theorem dX10_putTextByte_4 : decode cX10_putTextByte 4 = .ok (.bipush 8, 2) := by decide +kernel
theorem dX10_putTextByte_6 : decode cX10_putTextByte 6 = .ok (.if_icmp .ge 25, 3) := by decide +kernel
theorem dX10_putTextByte_9 : decode cX10_putTextByte 9 = .ok (.aload_n 0, 1) := by decide +kernel
theorem dX10_putTextByte_10 : decode cX10_putTextByte 10 = .ok (.dup, 1) := by decide +kernel
theorem dX10_putTextByte_11 : decode cX10_putTextByte 11 = .ok (.getfield 23, 3) := by decide +kernel
theorem dX10_putTextByte_14 : decode cX10_putTextByte 14 = .ok (.iload_n 1, 1) := by decide +kernel
theorem dX10_putTextByte_15 : decode cX10_putTextByte 15 = .ok (.i2l, 1) := by decide +kernel
theorem dX10_putTextByte_16 : decode cX10_putTextByte 16 = .ok (.bipush 8, 2) := by decide +kernel
theorem dX10_putTextByte_18 : decode cX10_putTextByte 18 = .ok (.aload_n 0, 1) := by decide +kernel
theorem dX10_putTextByte_19 : decode cX10_putTextByte 19 = .ok (.getfield 29, 3) := by decide +kernel
theorem dX10_putTextByte_22 : decode cX10_putTextByte 22 = .ok (.imul, 1) := by decide +kernel
theorem dX10_putTextByte_23 : decode cX10_putTextByte 23 = .ok (.lshl, 1) := by decide +kernel
theorem dX10_putTextByte_24 : decode cX10_putTextByte 24 = .ok (.lor, 1) := by decide +kernel
theorem dX10_putTextByte_25 : decode cX10_putTextByte 25 = .ok (.putfield 23, 3) := by decide +kernel
theorem dX10_putTextByte_28 : decode cX10_putTextByte 28 = .ok (.goto 25, 3) := by decide +kernel
theorem dX10_putTextByte_31 : decode cX10_putTextByte 31 = .ok (.aload_n 0, 1) := by decide +kernel
theorem dX10_putTextByte_32 : decode cX10_putTextByte 32 = .ok (.dup, 1) := by decide +kernel
theorem dX10_putTextByte_33 : decode cX10_putTextByte 33 = .ok (.getfield 26, 3) := by decide +kernel
theorem dX10_putTextByte_36 : decode cX10_putTextByte 36 = .ok (.iload_n 1, 1) := by decide +kernel
theorem dX10_putTextByte_37 : decode cX10_putTextByte 37 = .ok (.i2l, 1) := by decide +kernel
theorem dX10_putTextByte_38 : decode cX10_putTextByte 38 = .ok (.bipush 8, 2) := by decide +kernel
theorem dX10_putTextByte_40 : decode cX10_putTextByte 40 = .ok (.aload_n 0, 1) := by decide +kernel
theorem dX10_putTextByte_41 : decode cX10_putTextByte 41 = .ok (.getfield 29, 3) := by decide +kernel
theorem dX10_putTextByte_44 : decode cX10_putTextByte 44 = .ok (.bipush 8, 2) := by decide +kernel
theorem dX10_putTextByte_46 : decode cX10_putTextByte 46 = .ok (.isub, 1) := by decide +kernel
theorem dX10_putTextByte_47 : decode cX10_putTextByte 47 = .ok (.imul, 1) := by decide +kernel
theorem dX10_putTextByte_48 : decode cX10_putTextByte 48 = .ok (.lshl, 1) := by decide +kernel
theorem dX10_putTextByte_49 : decode cX10_putTextByte 49 = .ok (.lor, 1) := by decide +kernel
theorem dX10_putTextByte_50 : decode cX10_putTextByte 50 = .ok (.putfield 26, 3) := by decide +kernel
theorem dX10_putTextByte_53 : decode cX10_putTextByte 53 = .ok (.aload_n 0, 1) := by decide +kernel
theorem dX10_putTextByte_54 : decode cX10_putTextByte 54 = .ok (.dup, 1) := by decide +kernel
theorem dX10_putTextByte_55 : decode cX10_putTextByte 55 = .ok (.getfield 29, 3) := by decide +kernel
theorem dX10_putTextByte_58 : decode cX10_putTextByte 58 = .ok (.iconst 1, 1) := by decide +kernel
theorem dX10_putTextByte_59 : decode cX10_putTextByte 59 = .ok (.iadd, 1) := by decide +kernel
theorem dX10_putTextByte_60 : decode cX10_putTextByte 60 = .ok (.putfield 29, 3) := by decide +kernel
theorem dX10_putTextByte_63 : decode cX10_putTextByte 63 = .ok (.return_, 1) := by decide +kernel
theorem dX10_signToken_0 : decode cX10_signToken 0 = .ok (.iload_n 0, 1) := by decide +kernel
theorem dX10_signToken_1 : decode cX10_signToken 1 = .ok (.tableswitch 60 33 41 #[53, 60, 51, 60, 60, 60, 60, 55, 57], 51) := by decide +kernel
theorem dX10_signToken_52 : decode cX10_signToken 52 = .ok (.iconst 3, 1) := by decide +kernel
theorem dX10_signToken_53 : decode cX10_signToken 53 = .ok (.ireturn, 1) := by decide +kernel
theorem dX10_signToken_54 : decode cX10_signToken 54 = .ok (.iconst 4, 1) := by decide +kernel
theorem dX10_signToken_55 : decode cX10_signToken 55 = .ok (.ireturn, 1) := by decide +kernel
theorem dX10_signToken_56 : decode cX10_signToken 56 = .ok (.iconst 5, 1) := by decide +kernel
theorem dX10_signToken_57 : decode cX10_signToken 57 = .ok (.ireturn, 1) := by decide +kernel
theorem dX10_signToken_58 : decode cX10_signToken 58 = .ok (.bipush 6, 2) := by decide +kernel
theorem dX10_signToken_60 : decode cX10_signToken 60 = .ok (.ireturn, 1) := by decide +kernel
theorem dX10_signToken_61 : decode cX10_signToken 61 = .ok (.bipush 7, 2) := by decide +kernel
theorem dX10_signToken_63 : decode cX10_signToken 63 = .ok (.ireturn, 1) := by decide +kernel
theorem dX10_isBlank_0 : decode cX10_isBlank 0 = .ok (.iload_n 0, 1) := by decide +kernel
theorem dX10_isBlank_1 : decode cX10_isBlank 1 = .ok (.bipush 32, 2) := by decide +kernel
theorem dX10_isBlank_3 : decode cX10_isBlank 3 = .ok (.if_icmp .eq 9, 3) := by decide +kernel
theorem dX10_isBlank_6 : decode cX10_isBlank 6 = .ok (.iload_n 0, 1) := by decide +kernel
theorem dX10_isBlank_7 : decode cX10_isBlank 7 = .ok (.bipush 10, 2) := by decide +kernel
theorem dX10_isBlank_9 : decode cX10_isBlank 9 = .ok (.if_icmp .ne 7, 3) := by decide +kernel
theorem dX10_isBlank_12 : decode cX10_isBlank 12 = .ok (.iconst 1, 1) := by decide +kernel
theorem dX10_isBlank_13 : decode cX10_isBlank 13 = .ok (.goto 4, 3) := by decide +kernel
theorem dX10_isBlank_16 : decode cX10_isBlank 16 = .ok (.iconst 0, 1) := by decide +kernel
theorem dX10_isBlank_17 : decode cX10_isBlank 17 = .ok (.ireturn, 1) := by decide +kernel
theorem dX10_isLetter_0 : decode cX10_isLetter 0 = .ok (.iload_n 0, 1) := by decide +kernel
theorem dX10_isLetter_1 : decode cX10_isLetter 1 = .ok (.bipush 97, 2) := by decide +kernel
theorem dX10_isLetter_3 : decode cX10_isLetter 3 = .ok (.if_icmp .lt 13, 3) := by decide +kernel
theorem dX10_isLetter_6 : decode cX10_isLetter 6 = .ok (.iload_n 0, 1) := by decide +kernel
theorem dX10_isLetter_7 : decode cX10_isLetter 7 = .ok (.bipush 122, 2) := by decide +kernel
theorem dX10_isLetter_9 : decode cX10_isLetter 9 = .ok (.if_icmp .gt 7, 3) := by decide +kernel
theorem dX10_isLetter_12 : decode cX10_isLetter 12 = .ok (.iconst 1, 1) := by decide +kernel
theorem dX10_isLetter_13 : decode cX10_isLetter 13 = .ok (.goto 4, 3) := by decide +kernel
theorem dX10_isLetter_16 : decode cX10_isLetter 16 = .ok (.iconst 0, 1) := by decide +kernel
theorem dX10_isLetter_17 : decode cX10_isLetter 17 = .ok (.ireturn, 1) := by decide +kernel
theorem dX10_isTextByte_0 : decode cX10_isTextByte 0 = .ok (.iload_n 0, 1) := by decide +kernel
theorem dX10_isTextByte_1 : decode cX10_isTextByte 1 = .ok (.bipush 32, 2) := by decide +kernel
theorem dX10_isTextByte_3 : decode cX10_isTextByte 3 = .ok (.if_icmp .lt 19, 3) := by decide +kernel
theorem dX10_isTextByte_6 : decode cX10_isTextByte 6 = .ok (.iload_n 0, 1) := by decide +kernel
theorem dX10_isTextByte_7 : decode cX10_isTextByte 7 = .ok (.bipush 126, 2) := by decide +kernel
theorem dX10_isTextByte_9 : decode cX10_isTextByte 9 = .ok (.if_icmp .gt 13, 3) := by decide +kernel
theorem dX10_isTextByte_12 : decode cX10_isTextByte 12 = .ok (.iload_n 0, 1) := by decide +kernel
theorem dX10_isTextByte_13 : decode cX10_isTextByte 13 = .ok (.bipush 34, 2) := by decide +kernel
theorem dX10_isTextByte_15 : decode cX10_isTextByte 15 = .ok (.if_icmp .eq 7, 3) := by decide +kernel
theorem dX10_isTextByte_18 : decode cX10_isTextByte 18 = .ok (.iconst 1, 1) := by decide +kernel
theorem dX10_isTextByte_19 : decode cX10_isTextByte 19 = .ok (.goto 4, 3) := by decide +kernel
theorem dX10_isTextByte_22 : decode cX10_isTextByte 22 = .ok (.iconst 0, 1) := by decide +kernel
theorem dX10_isTextByte_23 : decode cX10_isTextByte 23 = .ok (.ireturn, 1) := by decide +kernel
theorem dX11_init_0 : decode cX11_init 0 = .ok (.aload_n 0, 1) := by decide +kernel
theorem dX11_init_1 : decode cX11_init 1 = .ok (.invokespecial 1, 3) := by decide +kernel
theorem dX11_init_4 : decode cX11_init 4 = .ok (.aload_n 0, 1) := by decide +kernel
theorem dX11_init_5 : decode cX11_init 5 = .ok (.new 7, 3) := by decide +kernel
theorem dX11_init_8 : decode cX11_init 8 = .ok (.dup, 1) := by decide +kernel
theorem dX11_init_9 : decode cX11_init 9 = .ok (.invokespecial 9, 3) := by decide +kernel
theorem dX11_init_12 : decode cX11_init 12 = .ok (.putfield 10, 3) := by decide +kernel
theorem dX11_init_15 : decode cX11_init 15 = .ok (.aload_n 0, 1) := by decide +kernel
theorem dX11_init_16 : decode cX11_init 16 = .ok (.new 16, 3) := by decide +kernel
theorem dX11_init_19 : decode cX11_init 19 = .ok (.dup, 1) := by decide +kernel
theorem dX11_init_20 : decode cX11_init 20 = .ok (.aload_n 0, 1) := by decide +kernel
theorem dX11_init_21 : decode cX11_init 21 = .ok (.getfield 10, 3) := by decide +kernel
theorem dX11_init_24 : decode cX11_init 24 = .ok (.invokespecial 18, 3) := by decide +kernel
theorem dX11_init_27 : decode cX11_init 27 = .ok (.putfield 21, 3) := by decide +kernel
theorem dX11_init_30 : decode cX11_init 30 = .ok (.aload_n 0, 1) := by decide +kernel
theorem dX11_init_31 : decode cX11_init 31 = .ok (.iconst 4, 1) := by decide +kernel
theorem dX11_init_32 : decode cX11_init 32 = .ok (.anewarray 25, 3) := by decide +kernel
theorem dX11_init_35 : decode cX11_init 35 = .ok (.putfield 27, 3) := by decide +kernel
theorem dX11_init_38 : decode cX11_init 38 = .ok (.aload_n 0, 1) := by decide +kernel
theorem dX11_init_39 : decode cX11_init 39 = .ok (.bipush 8, 2) := by decide +kernel
theorem dX11_init_41 : decode cX11_init 41 = .ok (.anewarray 31, 3) := by decide +kernel
theorem dX11_init_44 : decode cX11_init 44 = .ok (.putfield 33, 3) := by decide +kernel
theorem dX11_init_47 : decode cX11_init 47 = .ok (.aload_n 0, 1) := by decide +kernel
theorem dX11_init_48 : decode cX11_init 48 = .ok (.sipush 3721, 3) := by decide +kernel
theorem dX11_init_51 : decode cX11_init 51 = .ok (.newarray .int, 2) := by decide +kernel
theorem dX11_init_53 : decode cX11_init 53 = .ok (.putfield 37, 3) := by decide +kernel
theorem dX11_init_56 : decode cX11_init 56 = .ok (.aload_n 0, 1) := by decide +kernel
theorem dX11_init_57 : decode cX11_init 57 = .ok (.new 41, 3) := by decide +kernel
theorem dX11_init_60 : decode cX11_init 60 = .ok (.dup, 1) := by decide +kernel
theorem dX11_init_61 : decode cX11_init 61 = .ok (.invokespecial 43, 3) := by decide +kernel
theorem dX11_init_64 : decode cX11_init 64 = .ok (.putfield 44, 3) := by decide +kernel
theorem dX11_init_67 : decode cX11_init 67 = .ok (.aload_n 0, 1) := by decide +kernel
theorem dX11_init_68 : decode cX11_init 68 = .ok (.new 41, 3) := by decide +kernel
theorem dX11_init_71 : decode cX11_init 71 = .ok (.dup, 1) := by decide +kernel
theorem dX11_init_72 : decode cX11_init 72 = .ok (.invokespecial 43, 3) := by decide +kernel
theorem dX11_init_75 : decode cX11_init 75 = .ok (.putfield 48, 3) := by decide +kernel
theorem dX11_init_78 : decode cX11_init 78 = .ok (.aload_n 0, 1) := by decide +kernel
theorem dX11_init_79 : decode cX11_init 79 = .ok (.new 51, 3) := by decide +kernel
theorem dX11_init_82 : decode cX11_init 82 = .ok (.dup, 1) := by decide +kernel
theorem dX11_init_83 : decode cX11_init 83 = .ok (.invokespecial 53, 3) := by decide +kernel
theorem dX11_init_86 : decode cX11_init 86 = .ok (.putfield 54, 3) := by decide +kernel
theorem dX11_init_89 : decode cX11_init 89 = .ok (.aload_n 0, 1) := by decide +kernel
theorem dX11_init_90 : decode cX11_init 90 = .ok (.bipush 20, 2) := by decide +kernel
theorem dX11_init_92 : decode cX11_init 92 = .ok (.anewarray 58, 3) := by decide +kernel
theorem dX11_init_95 : decode cX11_init 95 = .ok (.putfield 60, 3) := by decide +kernel
theorem dX11_init_98 : decode cX11_init 98 = .ok (.aload_n 0, 1) := by decide +kernel
theorem dX11_init_99 : decode cX11_init 99 = .ok (.new 64, 3) := by decide +kernel
theorem dX11_init_102 : decode cX11_init 102 = .ok (.dup, 1) := by decide +kernel
theorem dX11_init_103 : decode cX11_init 103 = .ok (.invokespecial 66, 3) := by decide +kernel
theorem dX11_init_106 : decode cX11_init 106 = .ok (.putfield 67, 3) := by decide +kernel
theorem dX11_init_109 : decode cX11_init 109 = .ok (.aload_n 0, 1) := by decide +kernel
theorem dX11_init_110 : decode cX11_init 110 = .ok (.iconst 0, 1) := by decide +kernel
theorem dX11_init_111 : decode cX11_init 111 = .ok (.putfield 71, 3) := by decide +kernel
theorem dX11_init_114 : decode cX11_init 114 = .ok (.aload_n 0, 1) := by decide +kernel
theorem dX11_init_115 : decode cX11_init 115 = .ok (.iconst 0, 1) := by decide +kernel
theorem dX11_init_116 : decode cX11_init 116 = .ok (.putfield 75, 3) := by decide +kernel
theorem dX11_init_119 : decode cX11_init 119 = .ok (.aload_n 0, 1) := by decide +kernel
theorem dX11_init_120 : decode cX11_init 120 = .ok (.iconst 1, 1) := by decide +kernel
theorem dX11_init_121 : decode cX11_init 121 = .ok (.putfield 78, 3) := by decide +kernel
theorem dX11_init_124 : decode cX11_init 124 = .ok (.return_, 1) := by decide +kernel
theorem dX11_feed_0 : decode cX11_feed 0 = .ok (.aload_n 0, 1) := by decide +kernel
theorem dX11_feed_1 : decode cX11_feed 1 = .ok (.getfield 10, 3) := by decide +kernel
theorem dX11_feed_4 : decode cX11_feed 4 = .ok (.getfield 81, 3) := by decide +kernel
theorem dX11_feed_7 : decode cX11_feed 7 = .ok (.sipush 1580, 3) := by decide +kernel
theorem dX11_feed_10 : decode cX11_feed 10 = .ok (.if_icmp .le 5, 3) := by decide +kernel
theorem dX11_feed_13 : decode cX11_feed 13 = .ok (.iconst (-1), 1) := by decide +kernel
theorem dX11_feed_14 : decode cX11_feed 14 = .ok (.ireturn, 1) := by decide +kernel
theorem dX11_feed_15 : decode cX11_feed 15 = .ok (.aload_n 0, 1) := by decide +kernel
theorem dX11_feed_16 : decode cX11_feed 16 = .ok (.getfield 10, 3) := by decide +kernel
theorem dX11_feed_19 : decode cX11_feed 19 = .ok (.iload_n 1, 1) := by decide +kernel
theorem dX11_feed_20 : decode cX11_feed 20 = .ok (.invokevirtual 84, 3) := by decide +kernel
theorem dX11_feed_23 : decode cX11_feed 23 = .ok (.aload_n 0, 1) := by decide +kernel
theorem dX11_feed_24 : decode cX11_feed 24 = .ok (.getfield 10, 3) := by decide +kernel
theorem dX11_feed_27 : decode cX11_feed 27 = .ok (.iload_n 2, 1) := by decide +kernel
theorem dX11_feed_28 : decode cX11_feed 28 = .ok (.invokevirtual 84, 3) := by decide +kernel
theorem dX11_feed_31 : decode cX11_feed 31 = .ok (.aload_n 0, 1) := by decide +kernel
theorem dX11_feed_32 : decode cX11_feed 32 = .ok (.getfield 10, 3) := by decide +kernel
theorem dX11_feed_35 : decode cX11_feed 35 = .ok (.iload_n 3, 1) := by decide +kernel
theorem dX11_feed_36 : decode cX11_feed 36 = .ok (.invokevirtual 84, 3) := by decide +kernel
theorem dX11_feed_39 : decode cX11_feed 39 = .ok (.aload_n 0, 1) := by decide +kernel
theorem dX11_feed_40 : decode cX11_feed 40 = .ok (.getfield 10, 3) := by decide +kernel
theorem dX11_feed_43 : decode cX11_feed 43 = .ok (.iload 4, 2) := by decide +kernel
theorem dX11_feed_45 : decode cX11_feed 45 = .ok (.invokevirtual 84, 3) := by decide +kernel
theorem dX11_feed_48 : decode cX11_feed 48 = .ok (.aload_n 0, 1) := by decide +kernel
theorem dX11_feed_49 : decode cX11_feed 49 = .ok (.getfield 10, 3) := by decide +kernel
theorem dX11_feed_52 : decode cX11_feed 52 = .ok (.iload 5, 2) := by decide +kernel
theorem dX11_feed_54 : decode cX11_feed 54 = .ok (.invokevirtual 84, 3) := by decide +kernel
theorem dX11_feed_57 : decode cX11_feed 57 = .ok (.aload_n 0, 1) := by decide +kernel
theorem dX11_feed_58 : decode cX11_feed 58 = .ok (.getfield 10, 3) := by decide +kernel
theorem dX11_feed_61 : decode cX11_feed 61 = .ok (.getfield 81, 3) := by decide +kernel
theorem dX11_feed_64 : decode cX11_feed 64 = .ok (.ireturn, 1) := by decide +kernel
theorem dX11_end_0 : decode cX11_end 0 = .ok (.iload_n 1, 1) := by decide +kernel
theorem dX11_end_1 : decode cX11_end 1 = .ok (.ifCond .lt 14, 3) := by decide +kernel
theorem dX11_end_4 : decode cX11_end 4 = .ok (.iload_n 1, 1) := by decide +kernel
theorem dX11_end_5 : decode cX11_end 5 = .ok (.aload_n 0, 1) := by decide +kernel
theorem dX11_end_6 : decode cX11_end 6 = .ok (.getfield 10, 3) := by decide +kernel
theorem dX11_end_9 : decode cX11_end 9 = .ok (.getfield 81, 3) := by decide +kernel
theorem dX11_end_12 : decode cX11_end 12 = .ok (.if_icmp .le 5, 3) := by decide +kernel
theorem dX11_end_15 : decode cX11_end 15 = .ok (.iconst (-1), 1) := by decide +kernel
theorem dX11_end_16 : decode cX11_end 16 = .ok (.ireturn, 1) := by decide +kernel
theorem dX11_end_17 : decode cX11_end 17 = .ok (.aload_n 0, 1) := by decide +kernel
theorem dX11_end_18 : decode cX11_end 18 = .ok (.getfield 10, 3) := by decide +kernel
theorem dX11_end_21 : decode cX11_end 21 = .ok (.iload_n 1, 1) := by decide +kernel
theorem dX11_end_22 : decode cX11_end 22 = .ok (.putfield 81, 3) := by decide +kernel
theorem dX11_end_25 : decode cX11_end 25 = .ok (.iload_n 1, 1) := by decide +kernel
theorem dX11_end_26 : decode cX11_end 26 = .ok (.ireturn, 1) := by decide +kernel
theorem dX11_page_0 : decode cX11_page 0 = .ok (.iload_n 1, 1) := by decide +kernel
theorem dX11_page_1 : decode cX11_page 1 = .ok (.ifCond .lt 8, 3) := by decide +kernel
theorem dX11_page_4 : decode cX11_page 4 = .ok (.iload_n 1, 1) := by decide +kernel
theorem dX11_page_5 : decode cX11_page 5 = .ok (.iconst 4, 1) := by decide +kernel
theorem dX11_page_6 : decode cX11_page 6 = .ok (.if_icmp .lt 6, 3) := by decide +kernel
theorem dX11_page_9 : decode cX11_page 9 = .ok (.bipush (-2), 2) := by decide +kernel
theorem dX11_page_11 : decode cX11_page 11 = .ok (.ireturn, 1) := by decide +kernel
theorem dX11_page_12 : decode cX11_page 12 = .ok (.aload_n 0, 1) := by decide +kernel
theorem dX11_page_13 : decode cX11_page 13 = .ok (.getfield 21, 3) := by decide +kernel
theorem dX11_page_16 : decode cX11_page 16 = .ok (.invokevirtual 88, 3) := by decide +kernel
theorem dX11_page_19 : decode cX11_page 19 = .ok (.astore_n 2, 1) := by decide +kernel
theorem dX11_page_20 : decode cX11_page 20 = .ok (.aload_n 0, 1) := by decide +kernel
theorem dX11_page_21 : decode cX11_page 21 = .ok (.getfield 10, 3) := by decide +kernel
theorem dX11_page_24 : decode cX11_page 24 = .ok (.iconst 0, 1) := by decide +kernel
theorem dX11_page_25 : decode cX11_page 25 = .ok (.putfield 81, 3) := by decide +kernel
theorem dX11_page_28 : decode cX11_page 28 = .ok (.aload_n 2, 1) := by decide +kernel
theorem dX11_page_29 : decode cX11_page 29 = .ok (.ifnonnull 5, 3) := by decide +kernel
theorem dX11_page_32 : decode cX11_page 32 = .ok (.iconst (-1), 1) := by decide +kernel
theorem dX11_page_33 : decode cX11_page 33 = .ok (.ireturn, 1) := by decide +kernel
theorem dX11_page_34 : decode cX11_page 34 = .ok (.aload_n 0, 1) := by decide +kernel
theorem dX11_page_35 : decode cX11_page 35 = .ok (.getfield 27, 3) := by decide +kernel
theorem dX11_page_38 : decode cX11_page 38 = .ok (.iload_n 1, 1) := by decide +kernel
theorem dX11_page_39 : decode cX11_page 39 = .ok (.aload_n 2, 1) := by decide +kernel
theorem dX11_page_40 : decode cX11_page 40 = .ok (.aastore, 1) := by decide +kernel
theorem dX11_page_41 : decode cX11_page 41 = .ok (.aload_n 2, 1) := by decide +kernel
theorem dX11_page_42 : decode cX11_page 42 = .ok (.getfield 92, 3) := by decide +kernel
theorem dX11_page_45 : decode cX11_page 45 = .ok (.ireturn, 1) := by decide +kernel
theorem dX11_fault_0 : decode cX11_fault 0 = .ok (.iload_n 1, 1) := by decide +kernel
theorem dX11_fault_1 : decode cX11_fault 1 = .ok (.lookupswitch 43 #[(0, 27), (1, 35)], 27) := by decide +kernel
theorem dX11_fault_28 : decode cX11_fault 28 = .ok (.aload_n 0, 1) := by decide +kernel
theorem dX11_fault_29 : decode cX11_fault 29 = .ok (.getfield 21, 3) := by decide +kernel
theorem dX11_fault_32 : decode cX11_fault 32 = .ok (.getfield 95, 3) := by decide +kernel
theorem dX11_fault_35 : decode cX11_fault 35 = .ok (.ireturn, 1) := by decide +kernel
theorem dX11_fault_36 : decode cX11_fault 36 = .ok (.aload_n 0, 1) := by decide +kernel
theorem dX11_fault_37 : decode cX11_fault 37 = .ok (.getfield 21, 3) := by decide +kernel
theorem dX11_fault_40 : decode cX11_fault 40 = .ok (.getfield 98, 3) := by decide +kernel
theorem dX11_fault_43 : decode cX11_fault 43 = .ok (.ireturn, 1) := by decide +kernel
theorem dX11_fault_44 : decode cX11_fault 44 = .ok (.iconst (-1), 1) := by decide +kernel
theorem dX11_fault_45 : decode cX11_fault 45 = .ok (.ireturn, 1) := by decide +kernel
theorem dX11_part_0 : decode cX11_part 0 = .ok (.aload_n 0, 1) := by decide +kernel
theorem dX11_part_1 : decode cX11_part 1 = .ok (.iload_n 1, 1) := by decide +kernel
theorem dX11_part_2 : decode cX11_part 2 = .ok (.iload_n 2, 1) := by decide +kernel
theorem dX11_part_3 : decode cX11_part 3 = .ok (.invokevirtual 101, 3) := by decide +kernel
theorem dX11_part_6 : decode cX11_part 6 = .ok (.astore 4, 2) := by decide +kernel
theorem dX11_part_8 : decode cX11_part 8 = .ok (.aload 4, 2) := by decide +kernel
theorem dX11_part_10 : decode cX11_part 10 = .ok (.ifnonnull 5, 3) := by decide +kernel
theorem dX11_part_13 : decode cX11_part 13 = .ok (.iconst (-1), 1) := by decide +kernel
theorem dX11_part_14 : decode cX11_part 14 = .ok (.ireturn, 1) := by decide +kernel
theorem dX11_part_15 : decode cX11_part 15 = .ok (.iload_n 3, 1) := by decide +kernel
theorem dX11_part_16 : decode cX11_part 16 = .ok (.tableswitch 136 0 9 #[56, 65, 74, 83, 89, 98, 104, 118, 124, 130], 56) := by decide +kernel
theorem dX11_part_72 : decode cX11_part 72 = .ok (.aload 4, 2) := by decide +kernel
theorem dX11_part_74 : decode cX11_part 74 = .ok (.getfield 105, 3) := by decide +kernel
theorem dX11_part_77 : decode cX11_part 77 = .ok (.invokestatic 111, 3) := by decide +kernel
theorem dX11_part_80 : decode cX11_part 80 = .ok (.ireturn, 1) := by decide +kernel
theorem dX11_part_81 : decode cX11_part 81 = .ok (.aload 4, 2) := by decide +kernel
theorem dX11_part_83 : decode cX11_part 83 = .ok (.getfield 115, 3) := by decide +kernel
theorem dX11_part_86 : decode cX11_part 86 = .ok (.invokestatic 111, 3) := by decide +kernel
theorem dX11_part_89 : decode cX11_part 89 = .ok (.ireturn, 1) := by decide +kernel
theorem dX11_part_90 : decode cX11_part 90 = .ok (.aload 4, 2) := by decide +kernel
theorem dX11_part_92 : decode cX11_part 92 = .ok (.getfield 118, 3) := by decide +kernel
theorem dX11_part_95 : decode cX11_part 95 = .ok (.invokestatic 111, 3) := by decide +kernel
theorem dX11_part_98 : decode cX11_part 98 = .ok (.ireturn, 1) := by decide +kernel
theorem dX11_part_99 : decode cX11_part 99 = .ok (.aload 4, 2) := by decide +kernel
theorem dX11_part_101 : decode cX11_part 101 = .ok (.getfield 121, 3) := by decide +kernel
theorem dX11_part_104 : decode cX11_part 104 = .ok (.ireturn, 1) := by decide +kernel
theorem dX11_part_105 : decode cX11_part 105 = .ok (.aload 4, 2) := by decide +kernel
theorem dX11_part_107 : decode cX11_part 107 = .ok (.getfield 124, 3) := by decide +kernel
theorem dX11_part_110 : decode cX11_part 110 = .ok (.invokestatic 111, 3) := by decide +kernel
theorem dX11_part_113 : decode cX11_part 113 = .ok (.ireturn, 1) := by decide +kernel
theorem dX11_part_114 : decode cX11_part 114 = .ok (.aload 4, 2) := by decide +kernel
theorem dX11_part_116 : decode cX11_part 116 = .ok (.getfield 127, 3) := by decide +kernel
theorem dX11_part_119 : decode cX11_part 119 = .ok (.ireturn, 1) := by decide +kernel
theorem dX11_part_120 : decode cX11_part 120 = .ok (.aload 4, 2) := by decide +kernel
theorem dX11_part_122 : decode cX11_part 122 = .ok (.getfield 130, 3) := by decide +kernel
theorem dX11_part_125 : decode cX11_part 125 = .ok (.ifCond .eq 7, 3) := by decide +kernel
theorem dX11_part_128 : decode cX11_part 128 = .ok (.iconst 1, 1) := by decide +kernel
theorem dX11_part_129 : decode cX11_part 129 = .ok (.goto 4, 3) := by decide +kernel
theorem dX11_part_132 : decode cX11_part 132 = .ok (.iconst 0, 1) := by decide +kernel
theorem dX11_part_133 : decode cX11_part 133 = .ok (.ireturn, 1) := by decide +kernel
theorem dX11_part_134 : decode cX11_part 134 = .ok (.aload 4, 2) := by decide +kernel
theorem dX11_part_136 : decode cX11_part 136 = .ok (.getfield 134, 3) := by decide +kernel
theorem dX11_part_139 : decode cX11_part 139 = .ok (.ireturn, 1) := by decide +kernel
theorem dX11_part_140 : decode cX11_part 140 = .ok (.aload 4, 2) := by decide +kernel
theorem dX11_part_142 : decode cX11_part 142 = .ok (.getfield 137, 3) := by decide +kernel
theorem dX11_part_145 : decode cX11_part 145 = .ok (.ireturn, 1) := by decide +kernel
theorem dX11_part_146 : decode cX11_part 146 = .ok (.aload 4, 2) := by decide +kernel
theorem dX11_part_148 : decode cX11_part 148 = .ok (.getfield 140, 3) := by decide +kernel
theorem dX11_part_151 : decode cX11_part 151 = .ok (.ireturn, 1) := by decide +kernel
theorem dX11_part_152 : decode cX11_part 152 = .ok (.iconst (-1), 1) := by decide +kernel
theorem dX11_part_153 : decode cX11_part 153 = .ok (.ireturn, 1) := by decide +kernel
theorem dX11_text_0 : decode cX11_text 0 = .ok (.aload_n 0, 1) := by decide +kernel
theorem dX11_text_1 : decode cX11_text 1 = .ok (.iload_n 1, 1) := by decide +kernel
theorem dX11_text_2 : decode cX11_text 2 = .ok (.iload_n 2, 1) := by decide +kernel
theorem dX11_text_3 : decode cX11_text 3 = .ok (.invokevirtual 101, 3) := by decide +kernel
theorem dX11_text_6 : decode cX11_text 6 = .ok (.astore 5, 2) := by decide +kernel
theorem dX11_text_8 : decode cX11_text 8 = .ok (.aload 5, 2) := by decide +kernel
theorem dX11_text_10 : decode cX11_text 10 = .ok (.ifnonnull 5, 3) := by decide +kernel
theorem dX11_text_13 : decode cX11_text 13 = .ok (.iconst (-1), 1) := by decide +kernel
theorem dX11_text_14 : decode cX11_text 14 = .ok (.ireturn, 1) := by decide +kernel
theorem dX11_text_15 : decode cX11_text 15 = .ok (.iload_n 3, 1) := by decide +kernel
theorem dX11_text_16 : decode cX11_text 16 = .ok (.tableswitch 58 0 2 #[28, 39, 50], 28) := by decide +kernel
theorem dX11_text_44 : decode cX11_text 44 = .ok (.aload 5, 2) := by decide +kernel
theorem dX11_text_46 : decode cX11_text 46 = .ok (.getfield 143, 3) := by decide +kernel
theorem dX11_text_49 : decode cX11_text 49 = .ok (.iload 4, 2) := by decide +kernel
theorem dX11_text_51 : decode cX11_text 51 = .ok (.invokestatic 147, 3) := by decide +kernel
theorem dX11_text_54 : decode cX11_text 54 = .ok (.ireturn, 1) := by decide +kernel
theorem dX11_text_55 : decode cX11_text 55 = .ok (.aload 5, 2) := by decide +kernel
theorem dX11_text_57 : decode cX11_text 57 = .ok (.getfield 151, 3) := by decide +kernel
theorem dX11_text_60 : decode cX11_text 60 = .ok (.iload 4, 2) := by decide +kernel
theorem dX11_text_62 : decode cX11_text 62 = .ok (.invokestatic 147, 3) := by decide +kernel
theorem dX11_text_65 : decode cX11_text 65 = .ok (.ireturn, 1) := by decide +kernel
theorem dX11_text_66 : decode cX11_text 66 = .ok (.aload 5, 2) := by decide +kernel
theorem dX11_text_68 : decode cX11_text 68 = .ok (.iload 4, 2) := by decide +kernel
theorem dX11_text_70 : decode cX11_text 70 = .ok (.invokevirtual 154, 3) := by decide +kernel
theorem dX11_text_73 : decode cX11_text 73 = .ok (.ireturn, 1) := by decide +kernel
theorem dX11_text_74 : decode cX11_text 74 = .ok (.iconst (-1), 1) := by decide +kernel
theorem dX11_text_75 : decode cX11_text 75 = .ok (.ireturn, 1) := by decide +kernel
theorem dX11_far_0 : decode cX11_far 0 = .ok (.aload_n 0, 1) := by decide +kernel
theorem dX11_far_1 : decode cX11_far 1 = .ok (.iload_n 1, 1) := by decide +kernel
theorem dX11_far_2 : decode cX11_far 2 = .ok (.iload_n 2, 1) := by decide +kernel
theorem dX11_far_3 : decode cX11_far 3 = .ok (.invokevirtual 101, 3) := by decide +kernel
theorem dX11_far_6 : decode cX11_far 6 = .ok (.astore 5, 2) := by decide +kernel
theorem dX11_far_8 : decode cX11_far 8 = .ok (.aload_n 0, 1) := by decide +kernel
theorem dX11_far_9 : decode cX11_far 9 = .ok (.iload_n 3, 1) := by decide +kernel
theorem dX11_far_10 : decode cX11_far 10 = .ok (.iload 4, 2) := by decide +kernel
theorem dX11_far_12 : decode cX11_far 12 = .ok (.invokevirtual 101, 3) := by decide +kernel
theorem dX11_far_15 : decode cX11_far 15 = .ok (.astore 6, 2) := by decide +kernel
theorem dX11_far_17 : decode cX11_far 17 = .ok (.aload 5, 2) := by decide +kernel
theorem dX11_far_19 : decode cX11_far 19 = .ok (.ifnull 8, 3) := by decide +kernel
theorem dX11_far_22 : decode cX11_far 22 = .ok (.aload 6, 2) := by decide +kernel
theorem dX11_far_24 : decode cX11_far 24 = .ok (.ifnonnull 5, 3) := by decide +kernel
theorem dX11_far_27 : decode cX11_far 27 = .ok (.iconst (-1), 1) := by decide +kernel
theorem dX11_far_28 : decode cX11_far 28 = .ok (.ireturn, 1) := by decide +kernel
theorem dX11_far_29 : decode cX11_far 29 = .ok (.aload_n 0, 1) := by decide +kernel
theorem dX11_far_30 : decode cX11_far 30 = .ok (.aload 5, 2) := by decide +kernel
theorem dX11_far_32 : decode cX11_far 32 = .ok (.aload 6, 2) := by decide +kernel
theorem dX11_far_34 : decode cX11_far 34 = .ok (.getfield 158, 3) := by decide +kernel
theorem dX11_far_37 : decode cX11_far 37 = .ok (.invokevirtual 162, 3) := by decide +kernel
theorem dX11_far_40 : decode cX11_far 40 = .ok (.aload 5, 2) := by decide +kernel
theorem dX11_far_42 : decode cX11_far 42 = .ok (.aload 6, 2) := by decide +kernel
theorem dX11_far_44 : decode cX11_far 44 = .ok (.invokevirtual 166, 3) := by decide +kernel
theorem dX11_far_47 : decode cX11_far 47 = .ok (.ireturn, 1) := by decide +kernel
theorem dX11_cost_0 : decode cX11_cost 0 = .ok (.aload_n 0, 1) := by decide +kernel
theorem dX11_cost_1 : decode cX11_cost 1 = .ok (.iload_n 1, 1) := by decide +kernel
theorem dX11_cost_2 : decode cX11_cost 2 = .ok (.iload_n 2, 1) := by decide +kernel
theorem dX11_cost_3 : decode cX11_cost 3 = .ok (.invokevirtual 101, 3) := by decide +kernel
theorem dX11_cost_6 : decode cX11_cost 6 = .ok (.astore 5, 2) := by decide +kernel
theorem dX11_cost_8 : decode cX11_cost 8 = .ok (.aload_n 0, 1) := by decide +kernel
theorem dX11_cost_9 : decode cX11_cost 9 = .ok (.iload_n 3, 1) := by decide +kernel
theorem dX11_cost_10 : decode cX11_cost 10 = .ok (.iload 4, 2) := by decide +kernel
theorem dX11_cost_12 : decode cX11_cost 12 = .ok (.invokevirtual 101, 3) := by decide +kernel
theorem dX11_cost_15 : decode cX11_cost 15 = .ok (.astore 6, 2) := by decide +kernel
theorem dX11_cost_17 : decode cX11_cost 17 = .ok (.aload 5, 2) := by decide +kernel
theorem dX11_cost_19 : decode cX11_cost 19 = .ok (.ifnull 8, 3) := by decide +kernel
theorem dX11_cost_22 : decode cX11_cost 22 = .ok (.aload 6, 2) := by decide +kernel
theorem dX11_cost_24 : decode cX11_cost 24 = .ok (.ifnonnull 5, 3) := by decide +kernel
theorem dX11_cost_27 : decode cX11_cost 27 = .ok (.iconst (-1), 1) := by decide +kernel
theorem dX11_cost_28 : decode cX11_cost 28 = .ok (.ireturn, 1) := by decide +kernel
theorem dX11_cost_29 : decode cX11_cost 29 = .ok (.aload_n 0, 1) := by decide +kernel
theorem dX11_cost_30 : decode cX11_cost 30 = .ok (.aload 5, 2) := by decide +kernel
theorem dX11_cost_32 : decode cX11_cost 32 = .ok (.aload 6, 2) := by decide +kernel
theorem dX11_cost_34 : decode cX11_cost 34 = .ok (.getfield 158, 3) := by decide +kernel
theorem dX11_cost_37 : decode cX11_cost 37 = .ok (.invokevirtual 162, 3) := by decide +kernel
theorem dX11_cost_40 : decode cX11_cost 40 = .ok (.aload 5, 2) := by decide +kernel
theorem dX11_cost_42 : decode cX11_cost 42 = .ok (.aload 6, 2) := by decide +kernel
theorem dX11_cost_44 : decode cX11_cost 44 = .ok (.invokevirtual 170, 3) := by decide +kernel
theorem dX11_cost_47 : decode cX11_cost 47 = .ok (.ireturn, 1) := by decide +kernel
theorem dX11_gap_0 : decode cX11_gap 0 = .ok (.iload_n 1, 1) := by decide +kernel
theorem dX11_gap_1 : decode cX11_gap 1 = .ok (.ifCond .lt 9, 3) := by decide +kernel
theorem dX11_gap_4 : decode cX11_gap 4 = .ok (.iload_n 1, 1) := by decide +kernel
theorem dX11_gap_5 : decode cX11_gap 5 = .ok (.bipush 100, 2) := by decide +kernel
theorem dX11_gap_7 : decode cX11_gap 7 = .ok (.if_icmp .le 5, 3) := by decide +kernel
theorem dX11_gap_10 : decode cX11_gap 10 = .ok (.iconst 0, 1) := by decide +kernel
theorem dX11_gap_11 : decode cX11_gap 11 = .ok (.ireturn, 1) := by decide +kernel
theorem dX11_gap_12 : decode cX11_gap 12 = .ok (.aload_n 0, 1) := by decide +kernel
theorem dX11_gap_13 : decode cX11_gap 13 = .ok (.iload_n 1, 1) := by decide +kernel
theorem dX11_gap_14 : decode cX11_gap 14 = .ok (.putfield 78, 3) := by decide +kernel
theorem dX11_gap_17 : decode cX11_gap 17 = .ok (.iconst 1, 1) := by decide +kernel
theorem dX11_gap_18 : decode cX11_gap 18 = .ok (.ireturn, 1) := by decide +kernel
theorem dX11_find_0 : decode cX11_find 0 = .ok (.aload_n 0, 1) := by decide +kernel
theorem dX11_find_1 : decode cX11_find 1 = .ok (.iload_n 1, 1) := by decide +kernel
theorem dX11_find_2 : decode cX11_find 2 = .ok (.iload_n 2, 1) := by decide +kernel
theorem dX11_find_3 : decode cX11_find 3 = .ok (.invokevirtual 101, 3) := by decide +kernel
theorem dX11_find_6 : decode cX11_find 6 = .ok (.astore 4, 2) := by decide +kernel
theorem dX11_find_8 : decode cX11_find 8 = .ok (.aload_n 0, 1) := by decide +kernel
theorem dX11_find_9 : decode cX11_find 9 = .ok (.iload_n 3, 1) := by decide +kernel
theorem dX11_find_10 : decode cX11_find 10 = .ok (.invokevirtual 173, 3) := by decide +kernel
theorem dX11_find_13 : decode cX11_find 13 = .ok (.astore 5, 2) := by decide +kernel
theorem dX11_find_15 : decode cX11_find 15 = .ok (.aload 4, 2) := by decide +kernel
theorem dX11_find_17 : decode cX11_find 17 = .ok (.ifnull 8, 3) := by decide +kernel
theorem dX11_find_20 : decode cX11_find 20 = .ok (.aload 5, 2) := by decide +kernel
theorem dX11_find_22 : decode cX11_find 22 = .ok (.ifnonnull 5, 3) := by decide +kernel
theorem dX11_find_25 : decode cX11_find 25 = .ok (.iconst (-1), 1) := by decide +kernel
theorem dX11_find_26 : decode cX11_find 26 = .ok (.ireturn, 1) := by decide +kernel
theorem dX11_find_27 : decode cX11_find 27 = .ok (.aload_n 0, 1) := by decide +kernel
theorem dX11_find_28 : decode cX11_find 28 = .ok (.getfield 44, 3) := by decide +kernel
theorem dX11_find_31 : decode cX11_find 31 = .ok (.aload 4, 2) := by decide +kernel
theorem dX11_find_33 : decode cX11_find 33 = .ok (.aload 5, 2) := by decide +kernel
theorem dX11_find_35 : decode cX11_find 35 = .ok (.aload_n 0, 1) := by decide +kernel
theorem dX11_find_36 : decode cX11_find 36 = .ok (.aload 4, 2) := by decide +kernel
theorem dX11_find_38 : decode cX11_find 38 = .ok (.aload 5, 2) := by decide +kernel
theorem dX11_find_40 : decode cX11_find 40 = .ok (.invokevirtual 162, 3) := by decide +kernel
theorem dX11_find_43 : decode cX11_find 43 = .ok (.aload_n 0, 1) := by decide +kernel
theorem dX11_find_44 : decode cX11_find 44 = .ok (.getfield 78, 3) := by decide +kernel
theorem dX11_find_47 : decode cX11_find 47 = .ok (.invokevirtual 177, 3) := by decide +kernel
theorem dX11_find_50 : decode cX11_find 50 = .ok (.ireturn, 1) := by decide +kernel
theorem dX11_found_0 : decode cX11_found 0 = .ok (.iload_n 1, 1) := by decide +kernel
theorem dX11_found_1 : decode cX11_found 1 = .ok (.tableswitch 69 0 3 #[31, 42, 53, 61], 31) := by decide +kernel
theorem dX11_found_32 : decode cX11_found 32 = .ok (.aload_n 0, 1) := by decide +kernel
theorem dX11_found_33 : decode cX11_found 33 = .ok (.getfield 44, 3) := by decide +kernel
theorem dX11_found_36 : decode cX11_found 36 = .ok (.getfield 181, 3) := by decide +kernel
theorem dX11_found_39 : decode cX11_found 39 = .ok (.invokestatic 111, 3) := by decide +kernel
theorem dX11_found_42 : decode cX11_found 42 = .ok (.ireturn, 1) := by decide +kernel
theorem dX11_found_43 : decode cX11_found 43 = .ok (.aload_n 0, 1) := by decide +kernel
theorem dX11_found_44 : decode cX11_found 44 = .ok (.getfield 44, 3) := by decide +kernel
theorem dX11_found_47 : decode cX11_found 47 = .ok (.getfield 184, 3) := by decide +kernel
theorem dX11_found_50 : decode cX11_found 50 = .ok (.invokestatic 111, 3) := by decide +kernel
theorem dX11_found_53 : decode cX11_found 53 = .ok (.ireturn, 1) := by decide +kernel
theorem dX11_found_54 : decode cX11_found 54 = .ok (.aload_n 0, 1) := by decide +kernel
theorem dX11_found_55 : decode cX11_found 55 = .ok (.getfield 44, 3) := by decide +kernel
theorem dX11_found_58 : decode cX11_found 58 = .ok (.getfield 187, 3) := by decide +kernel
theorem dX11_found_61 : decode cX11_found 61 = .ok (.ireturn, 1) := by decide +kernel
theorem dX11_found_62 : decode cX11_found 62 = .ok (.aload_n 0, 1) := by decide +kernel
theorem dX11_found_63 : decode cX11_found 63 = .ok (.getfield 44, 3) := by decide +kernel
theorem dX11_found_66 : decode cX11_found 66 = .ok (.getfield 190, 3) := by decide +kernel
theorem dX11_found_69 : decode cX11_found 69 = .ok (.ireturn, 1) := by decide +kernel
theorem dX11_found_70 : decode cX11_found 70 = .ok (.iconst (-1), 1) := by decide +kernel
theorem dX11_found_71 : decode cX11_found 71 = .ok (.ireturn, 1) := by decide +kernel
theorem dX11_fits_0 : decode cX11_fits 0 = .ok (.aload_n 0, 1) := by decide +kernel
theorem dX11_fits_1 : decode cX11_fits 1 = .ok (.iload_n 1, 1) := by decide +kernel
theorem dX11_fits_2 : decode cX11_fits 2 = .ok (.iload_n 2, 1) := by decide +kernel
theorem dX11_fits_3 : decode cX11_fits 3 = .ok (.invokevirtual 101, 3) := by decide +kernel
theorem dX11_fits_6 : decode cX11_fits 6 = .ok (.astore 5, 2) := by decide +kernel
theorem dX11_fits_8 : decode cX11_fits 8 = .ok (.aload_n 0, 1) := by decide +kernel
theorem dX11_fits_9 : decode cX11_fits 9 = .ok (.iload 4, 2) := by decide +kernel
theorem dX11_fits_11 : decode cX11_fits 11 = .ok (.invokevirtual 173, 3) := by decide +kernel
theorem dX11_fits_14 : decode cX11_fits 14 = .ok (.astore 6, 2) := by decide +kernel
theorem dX11_fits_16 : decode cX11_fits 16 = .ok (.aload 5, 2) := by decide +kernel
theorem dX11_fits_18 : decode cX11_fits 18 = .ok (.ifnull 15, 3) := by decide +kernel
theorem dX11_fits_21 : decode cX11_fits 21 = .ok (.aload 6, 2) := by decide +kernel
theorem dX11_fits_23 : decode cX11_fits 23 = .ok (.ifnull 10, 3) := by decide +kernel
theorem dX11_fits_26 : decode cX11_fits 26 = .ok (.iload_n 3, 1) := by decide +kernel
theorem dX11_fits_27 : decode cX11_fits 27 = .ok (.invokestatic 193, 3) := by decide +kernel
theorem dX11_fits_30 : decode cX11_fits 30 = .ok (.ifCond .ne 5, 3) := by decide +kernel
theorem dX11_fits_33 : decode cX11_fits 33 = .ok (.iconst (-1), 1) := by decide +kernel
theorem dX11_fits_34 : decode cX11_fits 34 = .ok (.ireturn, 1) := by decide +kernel
theorem dX11_fits_35 : decode cX11_fits 35 = .ok (.aload 6, 2) := by decide +kernel
theorem dX11_fits_37 : decode cX11_fits 37 = .ok (.aload 5, 2) := by decide +kernel
theorem dX11_fits_39 : decode cX11_fits 39 = .ok (.iload_n 3, 1) := by decide +kernel
theorem dX11_fits_40 : decode cX11_fits 40 = .ok (.invokevirtual 197, 3) := by decide +kernel
theorem dX11_fits_43 : decode cX11_fits 43 = .ok (.ireturn, 1) := by decide +kernel
theorem dX11_fit_0 : decode cX11_fit 0 = .ok (.aload_n 0, 1) := by decide +kernel
theorem dX11_fit_1 : decode cX11_fit 1 = .ok (.iload_n 1, 1) := by decide +kernel
theorem dX11_fit_2 : decode cX11_fit 2 = .ok (.iload_n 2, 1) := by decide +kernel
theorem dX11_fit_3 : decode cX11_fit 3 = .ok (.invokevirtual 101, 3) := by decide +kernel
theorem dX11_fit_6 : decode cX11_fit 6 = .ok (.astore 6, 2) := by decide +kernel
theorem dX11_fit_8 : decode cX11_fit 8 = .ok (.aload_n 0, 1) := by decide +kernel
theorem dX11_fit_9 : decode cX11_fit 9 = .ok (.iload 4, 2) := by decide +kernel
theorem dX11_fit_11 : decode cX11_fit 11 = .ok (.invokevirtual 173, 3) := by decide +kernel
theorem dX11_fit_14 : decode cX11_fit 14 = .ok (.astore 7, 2) := by decide +kernel
theorem dX11_fit_16 : decode cX11_fit 16 = .ok (.aload 6, 2) := by decide +kernel
theorem dX11_fit_18 : decode cX11_fit 18 = .ok (.ifnull 15, 3) := by decide +kernel
theorem dX11_fit_21 : decode cX11_fit 21 = .ok (.aload 7, 2) := by decide +kernel
theorem dX11_fit_23 : decode cX11_fit 23 = .ok (.ifnull 10, 3) := by decide +kernel
theorem dX11_fit_26 : decode cX11_fit 26 = .ok (.iload_n 3, 1) := by decide +kernel
theorem dX11_fit_27 : decode cX11_fit 27 = .ok (.invokestatic 193, 3) := by decide +kernel
theorem dX11_fit_30 : decode cX11_fit 30 = .ok (.ifCond .ne 5, 3) := by decide +kernel
theorem dX11_fit_33 : decode cX11_fit 33 = .ok (.iconst (-1), 1) := by decide +kernel
theorem dX11_fit_34 : decode cX11_fit 34 = .ok (.ireturn, 1) := by decide +kernel
theorem dX11_fit_35 : decode cX11_fit 35 = .ok (.aload 7, 2) := by decide +kernel
theorem dX11_fit_37 : decode cX11_fit 37 = .ok (.aload 6, 2) := by decide +kernel
theorem dX11_fit_39 : decode cX11_fit 39 = .ok (.iload_n 3, 1) := by decide +kernel
theorem dX11_fit_40 : decode cX11_fit 40 = .ok (.iload 5, 2) := by decide +kernel
theorem dX11_fit_42 : decode cX11_fit 42 = .ok (.invokevirtual 201, 3) := by decide +kernel
theorem dX11_fit_45 : decode cX11_fit 45 = .ok (.invokestatic 111, 3) := by decide +kernel
theorem dX11_fit_48 : decode cX11_fit 48 = .ok (.ireturn, 1) := by decide +kernel
theorem dX11_sample_0 : decode cX11_sample 0 = .ok (.aload_n 0, 1) := by decide +kernel
theorem dX11_sample_1 : decode cX11_sample 1 = .ok (.iload_n 1, 1) := by decide +kernel
theorem dX11_sample_2 : decode cX11_sample 2 = .ok (.iload_n 2, 1) := by decide +kernel
theorem dX11_sample_3 : decode cX11_sample 3 = .ok (.invokevirtual 101, 3) := by decide +kernel
theorem dX11_sample_6 : decode cX11_sample 6 = .ok (.astore_n 3, 1) := by decide +kernel
theorem dX11_sample_7 : decode cX11_sample 7 = .ok (.aload_n 3, 1) := by decide +kernel
theorem dX11_sample_8 : decode cX11_sample 8 = .ok (.ifnull 15, 3) := by decide +kernel
theorem dX11_sample_11 : decode cX11_sample 11 = .ok (.aload_n 0, 1) := by decide +kernel
theorem dX11_sample_12 : decode cX11_sample 12 = .ok (.getfield 54, 3) := by decide +kernel
theorem dX11_sample_15 : decode cX11_sample 15 = .ok (.getfield 205, 3) := by decide +kernel
theorem dX11_sample_18 : decode cX11_sample 18 = .ok (.bipush 6, 2) := by decide +kernel
theorem dX11_sample_20 : decode cX11_sample 20 = .ok (.if_icmp .lt 5, 3) := by decide +kernel
theorem dX11_sample_23 : decode cX11_sample 23 = .ok (.iconst (-1), 1) := by decide +kernel
theorem dX11_sample_24 : decode cX11_sample 24 = .ok (.ireturn, 1) := by decide +kernel
theorem dX11_sample_25 : decode cX11_sample 25 = .ok (.aload_n 0, 1) := by decide +kernel
theorem dX11_sample_26 : decode cX11_sample 26 = .ok (.getfield 54, 3) := by decide +kernel
theorem dX11_sample_29 : decode cX11_sample 29 = .ok (.aload_n 3, 1) := by decide +kernel
theorem dX11_sample_30 : decode cX11_sample 30 = .ok (.invokevirtual 206, 3) := by decide +kernel
theorem dX11_sample_33 : decode cX11_sample 33 = .ok (.aload_n 0, 1) := by decide +kernel
theorem dX11_sample_34 : decode cX11_sample 34 = .ok (.getfield 54, 3) := by decide +kernel
theorem dX11_sample_37 : decode cX11_sample 37 = .ok (.getfield 205, 3) := by decide +kernel
theorem dX11_sample_40 : decode cX11_sample 40 = .ok (.ireturn, 1) := by decide +kernel
theorem dX11_forget_0 : decode cX11_forget 0 = .ok (.aload_n 0, 1) := by decide +kernel
theorem dX11_forget_1 : decode cX11_forget 1 = .ok (.getfield 54, 3) := by decide +kernel
theorem dX11_forget_4 : decode cX11_forget 4 = .ok (.getfield 205, 3) := by decide +kernel
theorem dX11_forget_7 : decode cX11_forget 7 = .ok (.istore_n 1, 1) := by decide +kernel
theorem dX11_forget_8 : decode cX11_forget 8 = .ok (.aload_n 0, 1) := by decide +kernel
theorem dX11_forget_9 : decode cX11_forget 9 = .ok (.getfield 54, 3) := by decide +kernel
theorem dX11_forget_12 : decode cX11_forget 12 = .ok (.invokevirtual 210, 3) := by decide +kernel
theorem dX11_forget_15 : decode cX11_forget 15 = .ok (.iload_n 1, 1) := by decide +kernel
theorem dX11_forget_16 : decode cX11_forget 16 = .ok (.ireturn, 1) := by decide +kernel
theorem dX11_stays_0 : decode cX11_stays 0 = .ok (.aload_n 0, 1) := by decide +kernel
theorem dX11_stays_1 : decode cX11_stays 1 = .ok (.getfield 54, 3) := by decide +kernel
theorem dX11_stays_4 : decode cX11_stays 4 = .ok (.getfield 213, 3) := by decide +kernel
theorem dX11_stays_7 : decode cX11_stays 7 = .ok (.ireturn, 1) := by decide +kernel
theorem dX11_learnt_0 : decode cX11_learnt 0 = .ok (.aload_n 0, 1) := by decide +kernel
theorem dX11_learnt_1 : decode cX11_learnt 1 = .ok (.getfield 54, 3) := by decide +kernel
theorem dX11_learnt_4 : decode cX11_learnt 4 = .ok (.invokevirtual 216, 3) := by decide +kernel
theorem dX11_learnt_7 : decode cX11_learnt 7 = .ok (.ireturn, 1) := by decide +kernel
theorem dX11_seen_0 : decode cX11_seen 0 = .ok (.aload_n 0, 1) := by decide +kernel
theorem dX11_seen_1 : decode cX11_seen 1 = .ok (.iload_n 1, 1) := by decide +kernel
theorem dX11_seen_2 : decode cX11_seen 2 = .ok (.invokevirtual 173, 3) := by decide +kernel
theorem dX11_seen_5 : decode cX11_seen 5 = .ok (.astore_n 2, 1) := by decide +kernel
theorem dX11_seen_6 : decode cX11_seen 6 = .ok (.aload_n 0, 1) := by decide +kernel
theorem dX11_seen_7 : decode cX11_seen 7 = .ok (.getfield 54, 3) := by decide +kernel
theorem dX11_seen_10 : decode cX11_seen 10 = .ok (.invokevirtual 220, 3) := by decide +kernel
theorem dX11_seen_13 : decode cX11_seen 13 = .ok (.astore_n 3, 1) := by decide +kernel
theorem dX11_seen_14 : decode cX11_seen 14 = .ok (.aload_n 0, 1) := by decide +kernel
theorem dX11_seen_15 : decode cX11_seen 15 = .ok (.getfield 54, 3) := by decide +kernel
theorem dX11_seen_18 : decode cX11_seen 18 = .ok (.invokevirtual 216, 3) := by decide +kernel
theorem dX11_seen_21 : decode cX11_seen 21 = .ok (.istore 4, 2) := by decide +kernel
theorem dX11_seen_23 : decode cX11_seen 23 = .ok (.aload_n 2, 1) := by decide +kernel
theorem dX11_seen_24 : decode cX11_seen 24 = .ok (.ifnull 13, 3) := by decide +kernel
theorem dX11_seen_27 : decode cX11_seen 27 = .ok (.aload_n 3, 1) := by decide +kernel
theorem dX11_seen_28 : decode cX11_seen 28 = .ok (.ifnull 9, 3) := by decide +kernel
theorem dX11_seen_31 : decode cX11_seen 31 = .ok (.iload 4, 2) := by decide +kernel
theorem dX11_seen_33 : decode cX11_seen 33 = .ok (.iconst (-1), 1) := by decide +kernel
theorem dX11_seen_34 : decode cX11_seen 34 = .ok (.if_icmp .ne 5, 3) := by decide +kernel
theorem dX11_seen_37 : decode cX11_seen 37 = .ok (.iconst (-1), 1) := by decide +kernel
theorem dX11_seen_38 : decode cX11_seen 38 = .ok (.ireturn, 1) := by decide +kernel
theorem dX11_seen_39 : decode cX11_seen 39 = .ok (.aload_n 2, 1) := by decide +kernel
theorem dX11_seen_40 : decode cX11_seen 40 = .ok (.aload_n 3, 1) := by decide +kernel
theorem dX11_seen_41 : decode cX11_seen 41 = .ok (.iload 4, 2) := by decide +kernel
theorem dX11_seen_43 : decode cX11_seen 43 = .ok (.invokevirtual 197, 3) := by decide +kernel
theorem dX11_seen_46 : decode cX11_seen 46 = .ok (.istore 5, 2) := by decide +kernel
theorem dX11_seen_48 : decode cX11_seen 48 = .ok (.iload 5, 2) := by decide +kernel
theorem dX11_seen_50 : decode cX11_seen 50 = .ok (.ifCond .ne 6, 3) := by decide +kernel
theorem dX11_seen_53 : decode cX11_seen 53 = .ok (.bipush (-3), 2) := by decide +kernel
theorem dX11_seen_55 : decode cX11_seen 55 = .ok (.ireturn, 1) := by decide +kernel
theorem dX11_seen_56 : decode cX11_seen 56 = .ok (.iload 5, 2) := by decide +kernel
theorem dX11_seen_58 : decode cX11_seen 58 = .ok (.iconst 1, 1) := by decide +kernel
theorem dX11_seen_59 : decode cX11_seen 59 = .ok (.if_icmp .le 8, 3) := by decide +kernel
theorem dX11_seen_62 : decode cX11_seen 62 = .ok (.bipush (-2), 2) := by decide +kernel
theorem dX11_seen_64 : decode cX11_seen 64 = .ok (.goto 14, 3) := by decide +kernel
theorem dX11_seen_67 : decode cX11_seen 67 = .ok (.aload_n 2, 1) := by decide +kernel
theorem dX11_seen_68 : decode cX11_seen 68 = .ok (.aload_n 3, 1) := by decide +kernel
theorem dX11_seen_69 : decode cX11_seen 69 = .ok (.iload 4, 2) := by decide +kernel
theorem dX11_seen_71 : decode cX11_seen 71 = .ok (.iconst 0, 1) := by decide +kernel
theorem dX11_seen_72 : decode cX11_seen 72 = .ok (.invokevirtual 201, 3) := by decide +kernel
theorem dX11_seen_75 : decode cX11_seen 75 = .ok (.invokestatic 111, 3) := by decide +kernel
theorem dX11_seen_78 : decode cX11_seen 78 = .ok (.ireturn, 1) := by decide +kernel
theorem dX11_rows_0 : decode cX11_rows 0 = .ok (.aload_n 0, 1) := by decide +kernel
theorem dX11_rows_1 : decode cX11_rows 1 = .ok (.iload_n 1, 1) := by decide +kernel
theorem dX11_rows_2 : decode cX11_rows 2 = .ok (.iload_n 2, 1) := by decide +kernel
theorem dX11_rows_3 : decode cX11_rows 3 = .ok (.iload_n 3, 1) := by decide +kernel
theorem dX11_rows_4 : decode cX11_rows 4 = .ok (.invokevirtual 224, 3) := by decide +kernel
theorem dX11_rows_7 : decode cX11_rows 7 = .ok (.astore 5, 2) := by decide +kernel
theorem dX11_rows_9 : decode cX11_rows 9 = .ok (.aload_n 0, 1) := by decide +kernel
theorem dX11_rows_10 : decode cX11_rows 10 = .ok (.iload 4, 2) := by decide +kernel
theorem dX11_rows_12 : decode cX11_rows 12 = .ok (.invokevirtual 173, 3) := by decide +kernel
theorem dX11_rows_15 : decode cX11_rows 15 = .ok (.astore 6, 2) := by decide +kernel
theorem dX11_rows_17 : decode cX11_rows 17 = .ok (.aload 5, 2) := by decide +kernel
theorem dX11_rows_19 : decode cX11_rows 19 = .ok (.ifnull 8, 3) := by decide +kernel
theorem dX11_rows_22 : decode cX11_rows 22 = .ok (.aload 6, 2) := by decide +kernel
theorem dX11_rows_24 : decode cX11_rows 24 = .ok (.ifnonnull 5, 3) := by decide +kernel
theorem dX11_rows_27 : decode cX11_rows 27 = .ok (.iconst (-1), 1) := by decide +kernel
theorem dX11_rows_28 : decode cX11_rows 28 = .ok (.ireturn, 1) := by decide +kernel
theorem dX11_rows_29 : decode cX11_rows 29 = .ok (.aload 5, 2) := by decide +kernel
theorem dX11_rows_31 : decode cX11_rows 31 = .ok (.aload 6, 2) := by decide +kernel
theorem dX11_rows_33 : decode cX11_rows 33 = .ok (.invokevirtual 228, 3) := by decide +kernel
theorem dX11_rows_36 : decode cX11_rows 36 = .ok (.ireturn, 1) := by decide +kernel
theorem dX11_row_0 : decode cX11_row 0 = .ok (.aload_n 0, 1) := by decide +kernel
theorem dX11_row_1 : decode cX11_row 1 = .ok (.iload_n 1, 1) := by decide +kernel
theorem dX11_row_2 : decode cX11_row 2 = .ok (.iload_n 2, 1) := by decide +kernel
theorem dX11_row_3 : decode cX11_row 3 = .ok (.iload_n 3, 1) := by decide +kernel
theorem dX11_row_4 : decode cX11_row 4 = .ok (.invokevirtual 224, 3) := by decide +kernel
theorem dX11_row_7 : decode cX11_row 7 = .ok (.astore 6, 2) := by decide +kernel
theorem dX11_row_9 : decode cX11_row 9 = .ok (.aload_n 0, 1) := by decide +kernel
theorem dX11_row_10 : decode cX11_row 10 = .ok (.iload 4, 2) := by decide +kernel
theorem dX11_row_12 : decode cX11_row 12 = .ok (.invokevirtual 173, 3) := by decide +kernel
theorem dX11_row_15 : decode cX11_row 15 = .ok (.astore 7, 2) := by decide +kernel
theorem dX11_row_17 : decode cX11_row 17 = .ok (.aload 6, 2) := by decide +kernel
theorem dX11_row_19 : decode cX11_row 19 = .ok (.ifnull 8, 3) := by decide +kernel
theorem dX11_row_22 : decode cX11_row 22 = .ok (.aload 7, 2) := by decide +kernel
theorem dX11_row_24 : decode cX11_row 24 = .ok (.ifnonnull 5, 3) := by decide +kernel
theorem dX11_row_27 : decode cX11_row 27 = .ok (.iconst (-1), 1) := by decide +kernel
theorem dX11_row_28 : decode cX11_row 28 = .ok (.ireturn, 1) := by decide +kernel
theorem dX11_row_29 : decode cX11_row 29 = .ok (.aload 6, 2) := by decide +kernel
theorem dX11_row_31 : decode cX11_row 31 = .ok (.aload 7, 2) := by decide +kernel
theorem dX11_row_33 : decode cX11_row 33 = .ok (.iload 5, 2) := by decide +kernel
theorem dX11_row_35 : decode cX11_row 35 = .ok (.invokevirtual 234, 3) := by decide +kernel
theorem dX11_row_38 : decode cX11_row 38 = .ok (.invokestatic 111, 3) := by decide +kernel
theorem dX11_row_41 : decode cX11_row 41 = .ok (.ireturn, 1) := by decide +kernel
theorem dX11_act_0 : decode cX11_act 0 = .ok (.aload_n 0, 1) := by decide +kernel
theorem dX11_act_1 : decode cX11_act 1 = .ok (.iload_n 2, 1) := by decide +kernel
theorem dX11_act_2 : decode cX11_act 2 = .ok (.iload_n 3, 1) := by decide +kernel
theorem dX11_act_3 : decode cX11_act 3 = .ok (.invokevirtual 101, 3) := by decide +kernel
theorem dX11_act_6 : decode cX11_act 6 = .ok (.astore 4, 2) := by decide +kernel
theorem dX11_act_8 : decode cX11_act 8 = .ok (.aload 4, 2) := by decide +kernel
theorem dX11_act_10 : decode cX11_act 10 = .ok (.ifnonnull 7, 3) := by decide +kernel
theorem dX11_act_13 : decode cX11_act 13 = .ok (.iconst (-1), 1) := by decide +kernel
theorem dX11_act_14 : decode cX11_act 14 = .ok (.goto 11, 3) := by decide +kernel
theorem dX11_act_17 : decode cX11_act 17 = .ok (.aload_n 0, 1) := by decide +kernel
theorem dX11_act_18 : decode cX11_act 18 = .ok (.iload_n 1, 1) := by decide +kernel
theorem dX11_act_19 : decode cX11_act 19 = .ok (.aload 4, 2) := by decide +kernel
theorem dX11_act_21 : decode cX11_act 21 = .ok (.aconst_null, 1) := by decide +kernel
theorem dX11_act_22 : decode cX11_act 22 = .ok (.invokevirtual 238, 3) := by decide +kernel
theorem dX11_act_25 : decode cX11_act 25 = .ok (.ireturn, 1) := by decide +kernel
theorem dX11_loop_0 : decode cX11_loop 0 = .ok (.aload_n 0, 1) := by decide +kernel
theorem dX11_loop_1 : decode cX11_loop 1 = .ok (.iload_n 2, 1) := by decide +kernel
theorem dX11_loop_2 : decode cX11_loop 2 = .ok (.iload_n 3, 1) := by decide +kernel
theorem dX11_loop_3 : decode cX11_loop 3 = .ok (.iload 4, 2) := by decide +kernel
theorem dX11_loop_5 : decode cX11_loop 5 = .ok (.invokevirtual 224, 3) := by decide +kernel
theorem dX11_loop_8 : decode cX11_loop 8 = .ok (.astore 5, 2) := by decide +kernel
theorem dX11_loop_10 : decode cX11_loop 10 = .ok (.aload 5, 2) := by decide +kernel
theorem dX11_loop_12 : decode cX11_loop 12 = .ok (.ifnonnull 7, 3) := by decide +kernel
theorem dX11_loop_15 : decode cX11_loop 15 = .ok (.iconst (-1), 1) := by decide +kernel
theorem dX11_loop_16 : decode cX11_loop 16 = .ok (.goto 15, 3) := by decide +kernel
theorem dX11_loop_19 : decode cX11_loop 19 = .ok (.aload_n 0, 1) := by decide +kernel
theorem dX11_loop_20 : decode cX11_loop 20 = .ok (.iload_n 1, 1) := by decide +kernel
theorem dX11_loop_21 : decode cX11_loop 21 = .ok (.aload 5, 2) := by decide +kernel
theorem dX11_loop_23 : decode cX11_loop 23 = .ok (.getfield 242, 3) := by decide +kernel
theorem dX11_loop_26 : decode cX11_loop 26 = .ok (.aload 5, 2) := by decide +kernel
theorem dX11_loop_28 : decode cX11_loop 28 = .ok (.invokevirtual 238, 3) := by decide +kernel
theorem dX11_loop_31 : decode cX11_loop 31 = .ok (.ireturn, 1) := by decide +kernel
theorem dX11_clear_0 : decode cX11_clear 0 = .ok (.aload_n 0, 1) := by decide +kernel
theorem dX11_clear_1 : decode cX11_clear 1 = .ok (.getfield 71, 3) := by decide +kernel
theorem dX11_clear_4 : decode cX11_clear 4 = .ok (.istore_n 1, 1) := by decide +kernel
theorem dX11_clear_5 : decode cX11_clear 5 = .ok (.aload_n 0, 1) := by decide +kernel
theorem dX11_clear_6 : decode cX11_clear 6 = .ok (.iconst 0, 1) := by decide +kernel
theorem dX11_clear_7 : decode cX11_clear 7 = .ok (.putfield 71, 3) := by decide +kernel
theorem dX11_clear_10 : decode cX11_clear 10 = .ok (.iload_n 1, 1) := by decide +kernel
theorem dX11_clear_11 : decode cX11_clear 11 = .ok (.ireturn, 1) := by decide +kernel
theorem dX11_run_0 : decode cX11_run 0 = .ok (.aload_n 0, 1) := by decide +kernel
theorem dX11_run_1 : decode cX11_run 1 = .ok (.iload_n 1, 1) := by decide +kernel
theorem dX11_run_2 : decode cX11_run 2 = .ok (.invokevirtual 173, 3) := by decide +kernel
theorem dX11_run_5 : decode cX11_run 5 = .ok (.astore_n 2, 1) := by decide +kernel
theorem dX11_run_6 : decode cX11_run 6 = .ok (.aload_n 2, 1) := by decide +kernel
theorem dX11_run_7 : decode cX11_run 7 = .ok (.ifnonnull 5, 3) := by decide +kernel
theorem dX11_run_10 : decode cX11_run 10 = .ok (.iconst (-1), 1) := by decide +kernel
theorem dX11_run_11 : decode cX11_run 11 = .ok (.ireturn, 1) := by decide +kernel
theorem dX11_run_12 : decode cX11_run 12 = .ok (.aload_n 0, 1) := by decide +kernel
theorem dX11_run_13 : decode cX11_run 13 = .ok (.getfield 67, 3) := by decide +kernel
theorem dX11_run_16 : decode cX11_run 16 = .ok (.invokevirtual 245, 3) := by decide +kernel
theorem dX11_run_19 : decode cX11_run 19 = .ok (.iconst 0, 1) := by decide +kernel
theorem dX11_run_20 : decode cX11_run 20 = .ok (.istore_n 3, 1) := by decide +kernel
theorem dX11_run_21 : decode cX11_run 21 = .ok (.iload_n 3, 1) := by decide +kernel
theorem dX11_run_22 : decode cX11_run 22 = .ok (.aload_n 0, 1) := by decide +kernel
theorem dX11_run_23 : decode cX11_run 23 = .ok (.getfield 71, 3) := by decide +kernel
theorem dX11_run_26 : decode cX11_run 26 = .ok (.if_icmp .ge 23, 3) := by decide +kernel
theorem dX11_run_29 : decode cX11_run 29 = .ok (.aload_n 0, 1) := by decide +kernel
theorem dX11_run_30 : decode cX11_run 30 = .ok (.aload_n 0, 1) := by decide +kernel
theorem dX11_run_31 : decode cX11_run 31 = .ok (.getfield 60, 3) := by decide +kernel
theorem dX11_run_34 : decode cX11_run 34 = .ok (.iload_n 3, 1) := by decide +kernel
theorem dX11_run_35 : decode cX11_run 35 = .ok (.aaload, 1) := by decide +kernel
theorem dX11_run_36 : decode cX11_run 36 = .ok (.aload_n 2, 1) := by decide +kernel
theorem dX11_run_37 : decode cX11_run 37 = .ok (.invokevirtual 248, 3) := by decide +kernel
theorem dX11_run_40 : decode cX11_run 40 = .ok (.ifCond .eq 9, 3) := by decide +kernel
theorem dX11_run_43 : decode cX11_run 43 = .ok (.iinc 3 1, 3) := by decide +kernel
theorem dX11_run_46 : decode cX11_run 46 = .ok (.goto (-25), 3) := by decide +kernel
theorem dX11_run_49 : decode cX11_run 49 = .ok (.iload_n 3, 1) := by decide +kernel
theorem dX11_run_50 : decode cX11_run 50 = .ok (.ireturn, 1) := by decide +kernel
theorem dX11_ran_0 : decode cX11_ran 0 = .ok (.aload_n 0, 1) := by decide +kernel
theorem dX11_ran_1 : decode cX11_ran 1 = .ok (.getfield 67, 3) := by decide +kernel
theorem dX11_ran_4 : decode cX11_ran 4 = .ok (.getfield 252, 3) := by decide +kernel
theorem dX11_ran_7 : decode cX11_ran 7 = .ok (.ifCond .ne 5, 3) := by decide +kernel
theorem dX11_ran_10 : decode cX11_ran 10 = .ok (.iconst (-1), 1) := by decide +kernel
theorem dX11_ran_11 : decode cX11_ran 11 = .ok (.ireturn, 1) := by decide +kernel
theorem dX11_ran_12 : decode cX11_ran 12 = .ok (.iload_n 1, 1) := by decide +kernel
theorem dX11_ran_13 : decode cX11_ran 13 = .ok (.tableswitch 66 0 3 #[31, 39, 50, 58], 31) := by decide +kernel
theorem dX11_ran_44 : decode cX11_ran 44 = .ok (.aload_n 0, 1) := by decide +kernel
theorem dX11_ran_45 : decode cX11_ran 45 = .ok (.getfield 67, 3) := by decide +kernel
theorem dX11_ran_48 : decode cX11_ran 48 = .ok (.getfield 255, 3) := by decide +kernel
theorem dX11_ran_51 : decode cX11_ran 51 = .ok (.ireturn, 1) := by decide +kernel
theorem dX11_ran_52 : decode cX11_ran 52 = .ok (.aload_n 0, 1) := by decide +kernel
theorem dX11_ran_53 : decode cX11_ran 53 = .ok (.getfield 67, 3) := by decide +kernel
theorem dX11_ran_56 : decode cX11_ran 56 = .ok (.getfield 258, 3) := by decide +kernel
theorem dX11_ran_59 : decode cX11_ran 59 = .ok (.invokestatic 111, 3) := by decide +kernel
theorem dX11_ran_62 : decode cX11_ran 62 = .ok (.ireturn, 1) := by decide +kernel
theorem dX11_ran_63 : decode cX11_ran 63 = .ok (.aload_n 0, 1) := by decide +kernel
theorem dX11_ran_64 : decode cX11_ran 64 = .ok (.getfield 67, 3) := by decide +kernel
theorem dX11_ran_67 : decode cX11_ran 67 = .ok (.getfield 261, 3) := by decide +kernel
theorem dX11_ran_70 : decode cX11_ran 70 = .ok (.ireturn, 1) := by decide +kernel
theorem dX11_ran_71 : decode cX11_ran 71 = .ok (.aload_n 0, 1) := by decide +kernel
theorem dX11_ran_72 : decode cX11_ran 72 = .ok (.getfield 67, 3) := by decide +kernel
theorem dX11_ran_75 : decode cX11_ran 75 = .ok (.getfield 262, 3) := by decide +kernel
theorem dX11_ran_78 : decode cX11_ran 78 = .ok (.ireturn, 1) := by decide +kernel
theorem dX11_ran_79 : decode cX11_ran 79 = .ok (.iconst (-1), 1) := by decide +kernel
theorem dX11_ran_80 : decode cX11_ran 80 = .ok (.ireturn, 1) := by decide +kernel
theorem dX11_read_0 : decode cX11_read 0 = .ok (.aload_n 0, 1) := by decide +kernel
theorem dX11_read_1 : decode cX11_read 1 = .ok (.getfield 67, 3) := by decide +kernel
theorem dX11_read_4 : decode cX11_read 4 = .ok (.iload_n 1, 1) := by decide +kernel
theorem dX11_read_5 : decode cX11_read 5 = .ok (.invokevirtual 265, 3) := by decide +kernel
theorem dX11_read_8 : decode cX11_read 8 = .ok (.astore_n 3, 1) := by decide +kernel
theorem dX11_read_9 : decode cX11_read 9 = .ok (.aload_n 3, 1) := by decide +kernel
theorem dX11_read_10 : decode cX11_read 10 = .ok (.ifnonnull 7, 3) := by decide +kernel
theorem dX11_read_13 : decode cX11_read 13 = .ok (.iconst (-1), 1) := by decide +kernel
theorem dX11_read_14 : decode cX11_read 14 = .ok (.goto 8, 3) := by decide +kernel
theorem dX11_read_17 : decode cX11_read 17 = .ok (.aload_n 3, 1) := by decide +kernel
theorem dX11_read_18 : decode cX11_read 18 = .ok (.iload_n 2, 1) := by decide +kernel
theorem dX11_read_19 : decode cX11_read 19 = .ok (.invokevirtual 154, 3) := by decide +kernel
theorem dX11_read_22 : decode cX11_read 22 = .ok (.ireturn, 1) := by decide +kernel
theorem dX11_about_0 : decode cX11_about 0 = .ok (.iload_n 1, 1) := by decide +kernel
theorem dX11_about_1 : decode cX11_about 1 = .ok (.bipush 10, 2) := by decide +kernel
theorem dX11_about_3 : decode cX11_about 3 = .ok (.if_icmp .lt 31, 3) := by decide +kernel
theorem dX11_about_6 : decode cX11_about 6 = .ok (.iload_n 1, 1) := by decide +kernel
theorem dX11_about_7 : decode cX11_about 7 = .ok (.bipush 14, 2) := by decide +kernel
theorem dX11_about_9 : decode cX11_about 9 = .ok (.if_icmp .ge 25, 3) := by decide +kernel
theorem dX11_about_12 : decode cX11_about 12 = .ok (.aload_n 0, 1) := by decide +kernel
theorem dX11_about_13 : decode cX11_about 13 = .ok (.iload_n 1, 1) := by decide +kernel
theorem dX11_about_14 : decode cX11_about 14 = .ok (.bipush 10, 2) := by decide +kernel
theorem dX11_about_16 : decode cX11_about 16 = .ok (.isub, 1) := by decide +kernel
theorem dX11_about_17 : decode cX11_about 17 = .ok (.invokevirtual 173, 3) := by decide +kernel
theorem dX11_about_20 : decode cX11_about 20 = .ok (.astore_n 2, 1) := by decide +kernel
theorem dX11_about_21 : decode cX11_about 21 = .ok (.aload_n 2, 1) := by decide +kernel
theorem dX11_about_22 : decode cX11_about 22 = .ok (.ifnonnull 7, 3) := by decide +kernel
theorem dX11_about_25 : decode cX11_about 25 = .ok (.iconst 0, 1) := by decide +kernel
theorem dX11_about_26 : decode cX11_about 26 = .ok (.goto 7, 3) := by decide +kernel
theorem dX11_about_29 : decode cX11_about 29 = .ok (.aload_n 2, 1) := by decide +kernel
theorem dX11_about_30 : decode cX11_about 30 = .ok (.getfield 92, 3) := by decide +kernel
theorem dX11_about_33 : decode cX11_about 33 = .ok (.ireturn, 1) := by decide +kernel
theorem dX11_about_34 : decode cX11_about 34 = .ok (.iload_n 1, 1) := by decide +kernel
theorem dX11_about_35 : decode cX11_about 35 = .ok (.tableswitch 55 0 3 #[29, 34, 42, 47], 29) := by decide +kernel
theorem dX11_about_64 : decode cX11_about 64 = .ok (.aload_n 0, 1) := by decide +kernel
theorem dX11_about_65 : decode cX11_about 65 = .ok (.getfield 78, 3) := by decide +kernel
theorem dX11_about_68 : decode cX11_about 68 = .ok (.ireturn, 1) := by decide +kernel
theorem dX11_about_69 : decode cX11_about 69 = .ok (.aload_n 0, 1) := by decide +kernel
theorem dX11_about_70 : decode cX11_about 70 = .ok (.getfield 54, 3) := by decide +kernel
theorem dX11_about_73 : decode cX11_about 73 = .ok (.getfield 205, 3) := by decide +kernel
theorem dX11_about_76 : decode cX11_about 76 = .ok (.ireturn, 1) := by decide +kernel
theorem dX11_about_77 : decode cX11_about 77 = .ok (.aload_n 0, 1) := by decide +kernel
theorem dX11_about_78 : decode cX11_about 78 = .ok (.getfield 71, 3) := by decide +kernel
theorem dX11_about_81 : decode cX11_about 81 = .ok (.ireturn, 1) := by decide +kernel
theorem dX11_about_82 : decode cX11_about 82 = .ok (.aload_n 0, 1) := by decide +kernel
theorem dX11_about_83 : decode cX11_about 83 = .ok (.getfield 10, 3) := by decide +kernel
theorem dX11_about_86 : decode cX11_about 86 = .ok (.getfield 81, 3) := by decide +kernel
theorem dX11_about_89 : decode cX11_about 89 = .ok (.ireturn, 1) := by decide +kernel
theorem dX11_about_90 : decode cX11_about 90 = .ok (.iconst (-1), 1) := by decide +kernel
theorem dX11_about_91 : decode cX11_about 91 = .ok (.ireturn, 1) := by decide +kernel
theorem dX11_pageOn_0 : decode cX11_pageOn 0 = .ok (.iload_n 1, 1) := by decide +kernel
theorem dX11_pageOn_1 : decode cX11_pageOn 1 = .ok (.ifCond .lt 8, 3) := by decide +kernel
theorem dX11_pageOn_4 : decode cX11_pageOn 4 = .ok (.iload_n 1, 1) := by decide +kernel
theorem dX11_pageOn_5 : decode cX11_pageOn 5 = .ok (.iconst 4, 1) := by decide +kernel
theorem dX11_pageOn_6 : decode cX11_pageOn 6 = .ok (.if_icmp .lt 7, 3) := by decide +kernel
theorem dX11_pageOn_9 : decode cX11_pageOn 9 = .ok (.aconst_null, 1) := by decide +kernel
theorem dX11_pageOn_10 : decode cX11_pageOn 10 = .ok (.goto 9, 3) := by decide +kernel
theorem dX11_pageOn_13 : decode cX11_pageOn 13 = .ok (.aload_n 0, 1) := by decide +kernel
theorem dX11_pageOn_14 : decode cX11_pageOn 14 = .ok (.getfield 27, 3) := by decide +kernel
theorem dX11_pageOn_17 : decode cX11_pageOn 17 = .ok (.iload_n 1, 1) := by decide +kernel
theorem dX11_pageOn_18 : decode cX11_pageOn 18 = .ok (.aaload, 1) := by decide +kernel
theorem dX11_pageOn_19 : decode cX11_pageOn 19 = .ok (.areturn, 1) := by decide +kernel
theorem dX11_partOn_0 : decode cX11_partOn 0 = .ok (.aload_n 0, 1) := by decide +kernel
theorem dX11_partOn_1 : decode cX11_partOn 1 = .ok (.iload_n 1, 1) := by decide +kernel
theorem dX11_partOn_2 : decode cX11_partOn 2 = .ok (.invokevirtual 173, 3) := by decide +kernel
theorem dX11_partOn_5 : decode cX11_partOn 5 = .ok (.astore_n 3, 1) := by decide +kernel
theorem dX11_partOn_6 : decode cX11_partOn 6 = .ok (.aload_n 3, 1) := by decide +kernel
theorem dX11_partOn_7 : decode cX11_partOn 7 = .ok (.ifnonnull 7, 3) := by decide +kernel
theorem dX11_partOn_10 : decode cX11_partOn 10 = .ok (.aconst_null, 1) := by decide +kernel
theorem dX11_partOn_11 : decode cX11_partOn 11 = .ok (.goto 8, 3) := by decide +kernel
theorem dX11_partOn_14 : decode cX11_partOn 14 = .ok (.aload_n 3, 1) := by decide +kernel
theorem dX11_partOn_15 : decode cX11_partOn 15 = .ok (.iload_n 2, 1) := by decide +kernel
theorem dX11_partOn_16 : decode cX11_partOn 16 = .ok (.invokevirtual 269, 3) := by decide +kernel
theorem dX11_partOn_19 : decode cX11_partOn 19 = .ok (.areturn, 1) := by decide +kernel
theorem dX11_loopOn_0 : decode cX11_loopOn 0 = .ok (.aload_n 0, 1) := by decide +kernel
theorem dX11_loopOn_1 : decode cX11_loopOn 1 = .ok (.iload_n 1, 1) := by decide +kernel
theorem dX11_loopOn_2 : decode cX11_loopOn 2 = .ok (.iload_n 2, 1) := by decide +kernel
theorem dX11_loopOn_3 : decode cX11_loopOn 3 = .ok (.invokevirtual 101, 3) := by decide +kernel
theorem dX11_loopOn_6 : decode cX11_loopOn 6 = .ok (.astore 4, 2) := by decide +kernel
theorem dX11_loopOn_8 : decode cX11_loopOn 8 = .ok (.aload_n 0, 1) := by decide +kernel
theorem dX11_loopOn_9 : decode cX11_loopOn 9 = .ok (.iload_n 1, 1) := by decide +kernel
theorem dX11_loopOn_10 : decode cX11_loopOn 10 = .ok (.iload_n 3, 1) := by decide +kernel
theorem dX11_loopOn_11 : decode cX11_loopOn 11 = .ok (.invokevirtual 101, 3) := by decide +kernel
theorem dX11_loopOn_14 : decode cX11_loopOn 14 = .ok (.astore 5, 2) := by decide +kernel
theorem dX11_loopOn_16 : decode cX11_loopOn 16 = .ok (.aload 4, 2) := by decide +kernel
theorem dX11_loopOn_18 : decode cX11_loopOn 18 = .ok (.ifnull 8, 3) := by decide +kernel
theorem dX11_loopOn_21 : decode cX11_loopOn 21 = .ok (.aload 5, 2) := by decide +kernel
theorem dX11_loopOn_23 : decode cX11_loopOn 23 = .ok (.ifnonnull 7, 3) := by decide +kernel
theorem dX11_loopOn_26 : decode cX11_loopOn 26 = .ok (.aconst_null, 1) := by decide +kernel
theorem dX11_loopOn_27 : decode cX11_loopOn 27 = .ok (.goto 10, 3) := by decide +kernel
theorem dX11_loopOn_30 : decode cX11_loopOn 30 = .ok (.aload 4, 2) := by decide +kernel
theorem dX11_loopOn_32 : decode cX11_loopOn 32 = .ok (.aload 5, 2) := by decide +kernel
theorem dX11_loopOn_34 : decode cX11_loopOn 34 = .ok (.invokestatic 272, 3) := by decide +kernel
theorem dX11_loopOn_37 : decode cX11_loopOn 37 = .ok (.areturn, 1) := by decide +kernel
theorem dX11_likenessFor_0 : decode cX11_likenessFor 0 = .ok (.aconst_null, 1) := by decide +kernel
theorem dX11_likenessFor_1 : decode cX11_likenessFor 1 = .ok (.astore_n 3, 1) := by decide +kernel
theorem dX11_likenessFor_2 : decode cX11_likenessFor 2 = .ok (.iconst 0, 1) := by decide +kernel
theorem dX11_likenessFor_3 : decode cX11_likenessFor 3 = .ok (.istore 4, 2) := by decide +kernel
theorem dX11_likenessFor_5 : decode cX11_likenessFor 5 = .ok (.iload 4, 2) := by decide +kernel
theorem dX11_likenessFor_7 : decode cX11_likenessFor 7 = .ok (.bipush 8, 2) := by decide +kernel
theorem dX11_likenessFor_9 : decode cX11_likenessFor 9 = .ok (.if_icmp .ge 51, 3) := by decide +kernel
theorem dX11_likenessFor_12 : decode cX11_likenessFor 12 = .ok (.aload_n 3, 1) := by decide +kernel
theorem dX11_likenessFor_13 : decode cX11_likenessFor 13 = .ok (.ifnonnull 47, 3) := by decide +kernel
theorem dX11_likenessFor_16 : decode cX11_likenessFor 16 = .ok (.aload_n 0, 1) := by decide +kernel
theorem dX11_likenessFor_17 : decode cX11_likenessFor 17 = .ok (.getfield 33, 3) := by decide +kernel
theorem dX11_likenessFor_20 : decode cX11_likenessFor 20 = .ok (.iload 4, 2) := by decide +kernel
theorem dX11_likenessFor_22 : decode cX11_likenessFor 22 = .ok (.aaload, 1) := by decide +kernel
theorem dX11_likenessFor_23 : decode cX11_likenessFor 23 = .ok (.astore 5, 2) := by decide +kernel
theorem dX11_likenessFor_25 : decode cX11_likenessFor 25 = .ok (.aload 5, 2) := by decide +kernel
theorem dX11_likenessFor_27 : decode cX11_likenessFor 27 = .ok (.ifnull 27, 3) := by decide +kernel
theorem dX11_likenessFor_30 : decode cX11_likenessFor 30 = .ok (.aload 5, 2) := by decide +kernel
theorem dX11_likenessFor_32 : decode cX11_likenessFor 32 = .ok (.getfield 276, 3) := by decide +kernel
theorem dX11_likenessFor_35 : decode cX11_likenessFor 35 = .ok (.aload_n 1, 1) := by decide +kernel
theorem dX11_likenessFor_36 : decode cX11_likenessFor 36 = .ok (.getfield 158, 3) := by decide +kernel
theorem dX11_likenessFor_39 : decode cX11_likenessFor 39 = .ok (.if_acmp .ne 15, 3) := by decide +kernel
theorem dX11_likenessFor_42 : decode cX11_likenessFor 42 = .ok (.aload 5, 2) := by decide +kernel
theorem dX11_likenessFor_44 : decode cX11_likenessFor 44 = .ok (.getfield 279, 3) := by decide +kernel
theorem dX11_likenessFor_47 : decode cX11_likenessFor 47 = .ok (.aload_n 2, 1) := by decide +kernel
theorem dX11_likenessFor_48 : decode cX11_likenessFor 48 = .ok (.if_acmp .ne 6, 3) := by decide +kernel
theorem dX11_likenessFor_51 : decode cX11_likenessFor 51 = .ok (.aload 5, 2) := by decide +kernel
theorem dX11_likenessFor_53 : decode cX11_likenessFor 53 = .ok (.astore_n 3, 1) := by decide +kernel
theorem dX11_likenessFor_54 : decode cX11_likenessFor 54 = .ok (.iinc 4 1, 3) := by decide +kernel
theorem dX11_likenessFor_57 : decode cX11_likenessFor 57 = .ok (.goto (-52), 3) := by decide +kernel
theorem dX11_likenessFor_60 : decode cX11_likenessFor 60 = .ok (.aload_n 3, 1) := by decide +kernel
theorem dX11_likenessFor_61 : decode cX11_likenessFor 61 = .ok (.ifnonnull 17, 3) := by decide +kernel
theorem dX11_likenessFor_64 : decode cX11_likenessFor 64 = .ok (.aload_n 0, 1) := by decide +kernel
theorem dX11_likenessFor_65 : decode cX11_likenessFor 65 = .ok (.invokevirtual 282, 3) := by decide +kernel
theorem dX11_likenessFor_68 : decode cX11_likenessFor 68 = .ok (.astore_n 3, 1) := by decide +kernel
theorem dX11_likenessFor_69 : decode cX11_likenessFor 69 = .ok (.aload_n 3, 1) := by decide +kernel
theorem dX11_likenessFor_70 : decode cX11_likenessFor 70 = .ok (.aload_n 1, 1) := by decide +kernel
theorem dX11_likenessFor_71 : decode cX11_likenessFor 71 = .ok (.getfield 158, 3) := by decide +kernel
theorem dX11_likenessFor_74 : decode cX11_likenessFor 74 = .ok (.aload_n 2, 1) := by decide +kernel
theorem dX11_likenessFor_75 : decode cX11_likenessFor 75 = .ok (.invokevirtual 286, 3) := by decide +kernel
theorem dX11_likenessFor_78 : decode cX11_likenessFor 78 = .ok (.aload_n 3, 1) := by decide +kernel
theorem dX11_likenessFor_79 : decode cX11_likenessFor 79 = .ok (.aload_n 1, 1) := by decide +kernel
theorem dX11_likenessFor_80 : decode cX11_likenessFor 80 = .ok (.invokevirtual 289, 3) := by decide +kernel
theorem dX11_likenessFor_83 : decode cX11_likenessFor 83 = .ok (.aload_n 3, 1) := by decide +kernel
theorem dX11_likenessFor_84 : decode cX11_likenessFor 84 = .ok (.areturn, 1) := by decide +kernel
theorem dX11_oldestTable_0 : decode cX11_oldestTable 0 = .ok (.aload_n 0, 1) := by decide +kernel
theorem dX11_oldestTable_1 : decode cX11_oldestTable 1 = .ok (.getfield 75, 3) := by decide +kernel
theorem dX11_oldestTable_4 : decode cX11_oldestTable 4 = .ok (.istore_n 1, 1) := by decide +kernel
theorem dX11_oldestTable_5 : decode cX11_oldestTable 5 = .ok (.aload_n 0, 1) := by decide +kernel
theorem dX11_oldestTable_6 : decode cX11_oldestTable 6 = .ok (.iload_n 1, 1) := by decide +kernel
theorem dX11_oldestTable_7 : decode cX11_oldestTable 7 = .ok (.iconst 1, 1) := by decide +kernel
theorem dX11_oldestTable_8 : decode cX11_oldestTable 8 = .ok (.iadd, 1) := by decide +kernel
theorem dX11_oldestTable_9 : decode cX11_oldestTable 9 = .ok (.bipush 8, 2) := by decide +kernel
theorem dX11_oldestTable_11 : decode cX11_oldestTable 11 = .ok (.if_icmp .ge 9, 3) := by decide +kernel
theorem dX11_oldestTable_14 : decode cX11_oldestTable 14 = .ok (.iload_n 1, 1) := by decide +kernel
theorem dX11_oldestTable_15 : decode cX11_oldestTable 15 = .ok (.iconst 1, 1) := by decide +kernel
theorem dX11_oldestTable_16 : decode cX11_oldestTable 16 = .ok (.iadd, 1) := by decide +kernel
theorem dX11_oldestTable_17 : decode cX11_oldestTable 17 = .ok (.goto 4, 3) := by decide +kernel
theorem dX11_oldestTable_20 : decode cX11_oldestTable 20 = .ok (.iconst 0, 1) := by decide +kernel
theorem dX11_oldestTable_21 : decode cX11_oldestTable 21 = .ok (.putfield 75, 3) := by decide +kernel
theorem dX11_oldestTable_24 : decode cX11_oldestTable 24 = .ok (.aload_n 0, 1) := by decide +kernel
theorem dX11_oldestTable_25 : decode cX11_oldestTable 25 = .ok (.getfield 33, 3) := by decide +kernel
theorem dX11_oldestTable_28 : decode cX11_oldestTable 28 = .ok (.iload_n 1, 1) := by decide +kernel
theorem dX11_oldestTable_29 : decode cX11_oldestTable 29 = .ok (.aaload, 1) := by decide +kernel
theorem dX11_oldestTable_30 : decode cX11_oldestTable 30 = .ok (.ifnonnull 20, 3) := by decide +kernel
theorem dX11_oldestTable_33 : decode cX11_oldestTable 33 = .ok (.aload_n 0, 1) := by decide +kernel
theorem dX11_oldestTable_34 : decode cX11_oldestTable 34 = .ok (.getfield 33, 3) := by decide +kernel
theorem dX11_oldestTable_37 : decode cX11_oldestTable 37 = .ok (.iload_n 1, 1) := by decide +kernel
theorem dX11_oldestTable_38 : decode cX11_oldestTable 38 = .ok (.new 31, 3) := by decide +kernel
theorem dX11_oldestTable_41 : decode cX11_oldestTable 41 = .ok (.dup, 1) := by decide +kernel
theorem dX11_oldestTable_42 : decode cX11_oldestTable 42 = .ok (.aload_n 0, 1) := by decide +kernel
theorem dX11_oldestTable_43 : decode cX11_oldestTable 43 = .ok (.getfield 37, 3) := by decide +kernel
theorem dX11_oldestTable_46 : decode cX11_oldestTable 46 = .ok (.invokespecial 292, 3) := by decide +kernel
theorem dX11_oldestTable_49 : decode cX11_oldestTable 49 = .ok (.aastore, 1) := by decide +kernel
theorem dX11_oldestTable_50 : decode cX11_oldestTable 50 = .ok (.aload_n 0, 1) := by decide +kernel
theorem dX11_oldestTable_51 : decode cX11_oldestTable 51 = .ok (.getfield 33, 3) := by decide +kernel
theorem dX11_oldestTable_54 : decode cX11_oldestTable 54 = .ok (.iload_n 1, 1) := by decide +kernel
theorem dX11_oldestTable_55 : decode cX11_oldestTable 55 = .ok (.aaload, 1) := by decide +kernel
theorem dX11_oldestTable_56 : decode cX11_oldestTable 56 = .ok (.areturn, 1) := by decide +kernel
theorem dX11_tell_0 : decode cX11_tell 0 = .ok (.aload_n 0, 1) := by decide +kernel
theorem dX11_tell_1 : decode cX11_tell 1 = .ok (.getfield 71, 3) := by decide +kernel
theorem dX11_tell_4 : decode cX11_tell 4 = .ok (.bipush 20, 2) := by decide +kernel
theorem dX11_tell_6 : decode cX11_tell 6 = .ok (.if_icmp .lt 5, 3) := by decide +kernel
theorem dX11_tell_9 : decode cX11_tell 9 = .ok (.iconst (-1), 1) := by decide +kernel
theorem dX11_tell_10 : decode cX11_tell 10 = .ok (.ireturn, 1) := by decide +kernel
theorem dX11_tell_11 : decode cX11_tell 11 = .ok (.aload_n 0, 1) := by decide +kernel
theorem dX11_tell_12 : decode cX11_tell 12 = .ok (.getfield 60, 3) := by decide +kernel
theorem dX11_tell_15 : decode cX11_tell 15 = .ok (.aload_n 0, 1) := by decide +kernel
theorem dX11_tell_16 : decode cX11_tell 16 = .ok (.getfield 71, 3) := by decide +kernel
theorem dX11_tell_19 : decode cX11_tell 19 = .ok (.new 58, 3) := by decide +kernel
theorem dX11_tell_22 : decode cX11_tell 22 = .ok (.dup, 1) := by decide +kernel
theorem dX11_tell_23 : decode cX11_tell 23 = .ok (.iload_n 1, 1) := by decide +kernel
theorem dX11_tell_24 : decode cX11_tell 24 = .ok (.aload_n 2, 1) := by decide +kernel
theorem dX11_tell_25 : decode cX11_tell 25 = .ok (.aload_n 3, 1) := by decide +kernel
theorem dX11_tell_26 : decode cX11_tell 26 = .ok (.invokespecial 295, 3) := by decide +kernel
theorem dX11_tell_29 : decode cX11_tell 29 = .ok (.aastore, 1) := by decide +kernel
theorem dX11_tell_30 : decode cX11_tell 30 = .ok (.aload_n 0, 1) := by decide +kernel
theorem dX11_tell_31 : decode cX11_tell 31 = .ok (.dup, 1) := by decide +kernel
theorem dX11_tell_32 : decode cX11_tell 32 = .ok (.getfield 71, 3) := by decide +kernel
theorem dX11_tell_35 : decode cX11_tell 35 = .ok (.iconst 1, 1) := by decide +kernel
theorem dX11_tell_36 : decode cX11_tell 36 = .ok (.iadd, 1) := by decide +kernel
theorem dX11_tell_37 : decode cX11_tell 37 = .ok (.putfield 71, 3) := by decide +kernel
theorem dX11_tell_40 : decode cX11_tell 40 = .ok (.aload_n 0, 1) := by decide +kernel
theorem dX11_tell_41 : decode cX11_tell 41 = .ok (.getfield 71, 3) := by decide +kernel
theorem dX11_tell_44 : decode cX11_tell 44 = .ok (.ireturn, 1) := by decide +kernel
theorem dX11_perform_0 : decode cX11_perform 0 = .ok (.aload_n 1, 1) := by decide +kernel
theorem dX11_perform_1 : decode cX11_perform 1 = .ok (.ifnonnull 5, 3) := by decide +kernel
theorem dX11_perform_4 : decode cX11_perform 4 = .ok (.iconst 0, 1) := by decide +kernel
theorem dX11_perform_5 : decode cX11_perform 5 = .ok (.ireturn, 1) := by decide +kernel
theorem dX11_perform_6 : decode cX11_perform 6 = .ok (.aload_n 1, 1) := by decide +kernel
theorem dX11_perform_7 : decode cX11_perform 7 = .ok (.getfield 298, 3) := by decide +kernel
theorem dX11_perform_10 : decode cX11_perform 10 = .ok (.ifnull 17, 3) := by decide +kernel
theorem dX11_perform_13 : decode cX11_perform 13 = .ok (.aload_n 0, 1) := by decide +kernel
theorem dX11_perform_14 : decode cX11_perform 14 = .ok (.aload_n 1, 1) := by decide +kernel
theorem dX11_perform_15 : decode cX11_perform 15 = .ok (.getfield 298, 3) := by decide +kernel
theorem dX11_perform_18 : decode cX11_perform 18 = .ok (.aload_n 1, 1) := by decide +kernel
theorem dX11_perform_19 : decode cX11_perform 19 = .ok (.getfield 302, 3) := by decide +kernel
theorem dX11_perform_22 : decode cX11_perform 22 = .ok (.aload_n 2, 1) := by decide +kernel
theorem dX11_perform_23 : decode cX11_perform 23 = .ok (.invokevirtual 305, 3) := by decide +kernel
theorem dX11_perform_26 : decode cX11_perform 26 = .ok (.ireturn, 1) := by decide +kernel
theorem dX11_perform_27 : decode cX11_perform 27 = .ok (.aload_n 0, 1) := by decide +kernel
theorem dX11_perform_28 : decode cX11_perform 28 = .ok (.aload_n 1, 1) := by decide +kernel
theorem dX11_perform_29 : decode cX11_perform 29 = .ok (.getfield 309, 3) := by decide +kernel
theorem dX11_perform_32 : decode cX11_perform 32 = .ok (.aload_n 2, 1) := by decide +kernel
theorem dX11_perform_33 : decode cX11_perform 33 = .ok (.invokevirtual 162, 3) := by decide +kernel
theorem dX11_perform_36 : decode cX11_perform 36 = .ok (.astore_n 3, 1) := by decide +kernel
theorem dX11_perform_37 : decode cX11_perform 37 = .ok (.aload_n 0, 1) := by decide +kernel
theorem dX11_perform_38 : decode cX11_perform 38 = .ok (.getfield 48, 3) := by decide +kernel
theorem dX11_perform_41 : decode cX11_perform 41 = .ok (.aload_n 1, 1) := by decide +kernel
theorem dX11_perform_42 : decode cX11_perform 42 = .ok (.getfield 309, 3) := by decide +kernel
theorem dX11_perform_45 : decode cX11_perform 45 = .ok (.aload_n 2, 1) := by decide +kernel
theorem dX11_perform_46 : decode cX11_perform 46 = .ok (.aload_n 3, 1) := by decide +kernel
theorem dX11_perform_47 : decode cX11_perform 47 = .ok (.aload_n 0, 1) := by decide +kernel
theorem dX11_perform_48 : decode cX11_perform 48 = .ok (.getfield 78, 3) := by decide +kernel
theorem dX11_perform_51 : decode cX11_perform 51 = .ok (.invokevirtual 177, 3) := by decide +kernel
theorem dX11_perform_54 : decode cX11_perform 54 = .ok (.istore 4, 2) := by decide +kernel
theorem dX11_perform_56 : decode cX11_perform 56 = .ok (.aload_n 0, 1) := by decide +kernel
theorem dX11_perform_57 : decode cX11_perform 57 = .ok (.getfield 48, 3) := by decide +kernel
theorem dX11_perform_60 : decode cX11_perform 60 = .ok (.getfield 181, 3) := by decide +kernel
theorem dX11_perform_63 : decode cX11_perform 63 = .ok (.astore 5, 2) := by decide +kernel
theorem dX11_perform_65 : decode cX11_perform 65 = .ok (.iload 4, 2) := by decide +kernel
theorem dX11_perform_67 : decode cX11_perform 67 = .ok (.bipush (-2), 2) := by decide +kernel
theorem dX11_perform_69 : decode cX11_perform 69 = .ok (.if_icmp .eq 8, 3) := by decide +kernel
theorem dX11_perform_72 : decode cX11_perform 72 = .ok (.aload 5, 2) := by decide +kernel
theorem dX11_perform_74 : decode cX11_perform 74 = .ok (.ifnonnull 13, 3) := by decide +kernel
theorem dX11_perform_77 : decode cX11_perform 77 = .ok (.aload_n 0, 1) := by decide +kernel
theorem dX11_perform_78 : decode cX11_perform 78 = .ok (.getfield 67, 3) := by decide +kernel
theorem dX11_perform_81 : decode cX11_perform 81 = .ok (.iconst 2, 1) := by decide +kernel
theorem dX11_perform_82 : decode cX11_perform 82 = .ok (.aconst_null, 1) := by decide +kernel
theorem dX11_perform_83 : decode cX11_perform 83 = .ok (.invokevirtual 312, 3) := by decide +kernel
theorem dX11_perform_86 : decode cX11_perform 86 = .ok (.ireturn, 1) := by decide +kernel
theorem dX11_perform_87 : decode cX11_perform 87 = .ok (.iload 4, 2) := by decide +kernel
theorem dX11_perform_89 : decode cX11_perform 89 = .ok (.ifCond .ne 14, 3) := by decide +kernel
theorem dX11_perform_92 : decode cX11_perform 92 = .ok (.aload_n 0, 1) := by decide +kernel
theorem dX11_perform_93 : decode cX11_perform 93 = .ok (.getfield 67, 3) := by decide +kernel
theorem dX11_perform_96 : decode cX11_perform 96 = .ok (.iconst 1, 1) := by decide +kernel
theorem dX11_perform_97 : decode cX11_perform 97 = .ok (.aload 5, 2) := by decide +kernel
theorem dX11_perform_99 : decode cX11_perform 99 = .ok (.invokevirtual 312, 3) := by decide +kernel
theorem dX11_perform_102 : decode cX11_perform 102 = .ok (.ireturn, 1) := by decide +kernel
theorem dX11_perform_103 : decode cX11_perform 103 = .ok (.aload_n 0, 1) := by decide +kernel
theorem dX11_perform_104 : decode cX11_perform 104 = .ok (.getfield 67, 3) := by decide +kernel
theorem dX11_perform_107 : decode cX11_perform 107 = .ok (.aload 5, 2) := by decide +kernel
theorem dX11_perform_109 : decode cX11_perform 109 = .ok (.aload_n 1, 1) := by decide +kernel
theorem dX11_perform_110 : decode cX11_perform 110 = .ok (.getfield 302, 3) := by decide +kernel
theorem dX11_perform_113 : decode cX11_perform 113 = .ok (.invokevirtual 316, 3) := by decide +kernel
theorem dX11_perform_116 : decode cX11_perform 116 = .ok (.ireturn, 1) := by decide +kernel
theorem dX11_performRows_0 : decode cX11_performRows 0 = .ok (.iconst 0, 1) := by decide +kernel
theorem dX11_performRows_1 : decode cX11_performRows 1 = .ok (.istore 4, 2) := by decide +kernel
theorem dX11_performRows_3 : decode cX11_performRows 3 = .ok (.iload 4, 2) := by decide +kernel
theorem dX11_performRows_5 : decode cX11_performRows 5 = .ok (.bipush 60, 2) := by decide +kernel
theorem dX11_performRows_7 : decode cX11_performRows 7 = .ok (.if_icmp .ge 40, 3) := by decide +kernel
theorem dX11_performRows_10 : decode cX11_performRows 10 = .ok (.aload_n 1, 1) := by decide +kernel
theorem dX11_performRows_11 : decode cX11_performRows 11 = .ok (.aload_n 3, 1) := by decide +kernel
theorem dX11_performRows_12 : decode cX11_performRows 12 = .ok (.iload 4, 2) := by decide +kernel
theorem dX11_performRows_14 : decode cX11_performRows 14 = .ok (.invokevirtual 320, 3) := by decide +kernel
theorem dX11_performRows_17 : decode cX11_performRows 17 = .ok (.astore 5, 2) := by decide +kernel
theorem dX11_performRows_19 : decode cX11_performRows 19 = .ok (.aload 5, 2) := by decide +kernel
theorem dX11_performRows_21 : decode cX11_performRows 21 = .ok (.ifnonnull 5, 3) := by decide +kernel
theorem dX11_performRows_24 : decode cX11_performRows 24 = .ok (.iconst 1, 1) := by decide +kernel
theorem dX11_performRows_25 : decode cX11_performRows 25 = .ok (.ireturn, 1) := by decide +kernel
theorem dX11_performRows_26 : decode cX11_performRows 26 = .ok (.aload_n 0, 1) := by decide +kernel
theorem dX11_performRows_27 : decode cX11_performRows 27 = .ok (.getfield 67, 3) := by decide +kernel
theorem dX11_performRows_30 : decode cX11_performRows 30 = .ok (.aload 5, 2) := by decide +kernel
theorem dX11_performRows_32 : decode cX11_performRows 32 = .ok (.iload_n 2, 1) := by decide +kernel
theorem dX11_performRows_33 : decode cX11_performRows 33 = .ok (.invokevirtual 316, 3) := by decide +kernel
theorem dX11_performRows_36 : decode cX11_performRows 36 = .ok (.ifCond .ne 5, 3) := by decide +kernel
theorem dX11_performRows_39 : decode cX11_performRows 39 = .ok (.iconst 0, 1) := by decide +kernel
theorem dX11_performRows_40 : decode cX11_performRows 40 = .ok (.ireturn, 1) := by decide +kernel
theorem dX11_performRows_41 : decode cX11_performRows 41 = .ok (.iinc 4 1, 3) := by decide +kernel
theorem dX11_performRows_44 : decode cX11_performRows 44 = .ok (.goto (-41), 3) := by decide +kernel
theorem dX11_performRows_47 : decode cX11_performRows 47 = .ok (.iconst 1, 1) := by decide +kernel
theorem dX11_performRows_48 : decode cX11_performRows 48 = .ok (.ireturn, 1) := by decide +kernel
theorem dX11_areMarks_0 : decode cX11_areMarks 0 = .ok (.iload_n 0, 1) := by decide +kernel
theorem dX11_areMarks_1 : decode cX11_areMarks 1 = .ok (.iconst 1, 1) := by decide +kernel
theorem dX11_areMarks_2 : decode cX11_areMarks 2 = .ok (.if_icmp .lt 14, 3) := by decide +kernel
theorem dX11_areMarks_5 : decode cX11_areMarks 5 = .ok (.iload_n 0, 1) := by decide +kernel
theorem dX11_areMarks_6 : decode cX11_areMarks 6 = .ok (.sipush 255, 3) := by decide +kernel
theorem dX11_areMarks_9 : decode cX11_areMarks 9 = .ok (.if_icmp .gt 7, 3) := by decide +kernel
theorem dX11_areMarks_12 : decode cX11_areMarks 12 = .ok (.iconst 1, 1) := by decide +kernel
theorem dX11_areMarks_13 : decode cX11_areMarks 13 = .ok (.goto 4, 3) := by decide +kernel
theorem dX11_areMarks_16 : decode cX11_areMarks 16 = .ok (.iconst 0, 1) := by decide +kernel
theorem dX11_areMarks_17 : decode cX11_areMarks 17 = .ok (.ireturn, 1) := by decide +kernel
theorem dX11_numberOf_0 : decode cX11_numberOf 0 = .ok (.aload_n 0, 1) := by decide +kernel
theorem dX11_numberOf_1 : decode cX11_numberOf 1 = .ok (.ifnonnull 7, 3) := by decide +kernel
theorem dX11_numberOf_4 : decode cX11_numberOf 4 = .ok (.iconst (-1), 1) := by decide +kernel
theorem dX11_numberOf_5 : decode cX11_numberOf 5 = .ok (.goto 7, 3) := by decide +kernel
theorem dX11_numberOf_8 : decode cX11_numberOf 8 = .ok (.aload_n 0, 1) := by decide +kernel
theorem dX11_numberOf_9 : decode cX11_numberOf 9 = .ok (.getfield 323, 3) := by decide +kernel
theorem dX11_numberOf_12 : decode cX11_numberOf 12 = .ok (.ireturn, 1) := by decide +kernel
theorem dX11_letterOf_0 : decode cX11_letterOf 0 = .ok (.iload_n 2, 1) := by decide +kernel
theorem dX11_letterOf_1 : decode cX11_letterOf 1 = .ok (.ifCond .lt 9, 3) := by decide +kernel
theorem dX11_letterOf_4 : decode cX11_letterOf 4 = .ok (.iload_n 2, 1) := by decide +kernel
theorem dX11_letterOf_5 : decode cX11_letterOf 5 = .ok (.bipush 8, 2) := by decide +kernel
theorem dX11_letterOf_7 : decode cX11_letterOf 7 = .ok (.if_icmp .lt 5, 3) := by decide +kernel
theorem dX11_letterOf_10 : decode cX11_letterOf 10 = .ok (.iconst (-1), 1) := by decide +kernel
theorem dX11_letterOf_11 : decode cX11_letterOf 11 = .ok (.ireturn, 1) := by decide +kernel
theorem dX11_letterOf_12 : decode cX11_letterOf 12 = .ok (.lload_n 0, 1) := by decide +kernel
theorem dX11_letterOf_13 : decode cX11_letterOf 13 = .ok (.iload_n 2, 1) := by decide +kernel
theorem dX11_letterOf_14 : decode cX11_letterOf 14 = .ok (.iconst 5, 1) := by decide +kernel
theorem dX11_letterOf_15 : decode cX11_letterOf 15 = .ok (.imul, 1) := by decide +kernel
theorem dX11_letterOf_16 : decode cX11_letterOf 16 = .ok (.lshr, 1) := by decide +kernel
theorem dX11_letterOf_17 : decode cX11_letterOf 17 = .ok (.l2i, 1) := by decide +kernel
theorem dX11_letterOf_18 : decode cX11_letterOf 18 = .ok (.bipush 31, 2) := by decide +kernel
theorem dX11_letterOf_20 : decode cX11_letterOf 20 = .ok (.iand, 1) := by decide +kernel
theorem dX11_letterOf_21 : decode cX11_letterOf 21 = .ok (.istore_n 3, 1) := by decide +kernel
theorem dX11_letterOf_22 : decode cX11_letterOf 22 = .ok (.iload_n 3, 1) := by decide +kernel
theorem dX11_letterOf_23 : decode cX11_letterOf 23 = .ok (.ifCond .ne 7, 3) := by decide +kernel
theorem dX11_letterOf_26 : decode cX11_letterOf 26 = .ok (.iconst (-1), 1) := by decide +kernel
theorem dX11_letterOf_27 : decode cX11_letterOf 27 = .ok (.goto 7, 3) := by decide +kernel
theorem dX11_letterOf_30 : decode cX11_letterOf 30 = .ok (.iload_n 3, 1) := by decide +kernel
theorem dX11_letterOf_31 : decode cX11_letterOf 31 = .ok (.bipush 96, 2) := by decide +kernel
theorem dX11_letterOf_33 : decode cX11_letterOf 33 = .ok (.iadd, 1) := by decide +kernel
theorem dX11_letterOf_34 : decode cX11_letterOf 34 = .ok (.ireturn, 1) := by decide +kernel
theorem dJ6_bitCount_0f7a4_0 : decode cJ6_bitCount_0f7a4 0 = .ok (.iload_n 0, 1) := by decide +kernel
theorem dJ6_bitCount_0f7a4_1 : decode cJ6_bitCount_0f7a4 1 = .ok (.iload_n 0, 1) := by decide +kernel
theorem dJ6_bitCount_0f7a4_2 : decode cJ6_bitCount_0f7a4 2 = .ok (.iconst 1, 1) := by decide +kernel
theorem dJ6_bitCount_0f7a4_3 : decode cJ6_bitCount_0f7a4 3 = .ok (.iushr, 1) := by decide +kernel
theorem dJ6_bitCount_0f7a4_4 : decode cJ6_bitCount_0f7a4 4 = .ok (.ldc_w 265, 3) := by decide +kernel
theorem dJ6_bitCount_0f7a4_7 : decode cJ6_bitCount_0f7a4 7 = .ok (.iand, 1) := by decide +kernel
theorem dJ6_bitCount_0f7a4_8 : decode cJ6_bitCount_0f7a4 8 = .ok (.isub, 1) := by decide +kernel
theorem dJ6_bitCount_0f7a4_9 : decode cJ6_bitCount_0f7a4 9 = .ok (.istore_n 0, 1) := by decide +kernel
theorem dJ6_bitCount_0f7a4_10 : decode cJ6_bitCount_0f7a4 10 = .ok (.iload_n 0, 1) := by decide +kernel
theorem dJ6_bitCount_0f7a4_11 : decode cJ6_bitCount_0f7a4 11 = .ok (.ldc_w 266, 3) := by decide +kernel
theorem dJ6_bitCount_0f7a4_14 : decode cJ6_bitCount_0f7a4 14 = .ok (.iand, 1) := by decide +kernel
theorem dJ6_bitCount_0f7a4_15 : decode cJ6_bitCount_0f7a4 15 = .ok (.iload_n 0, 1) := by decide +kernel
theorem dJ6_bitCount_0f7a4_16 : decode cJ6_bitCount_0f7a4 16 = .ok (.iconst 2, 1) := by decide +kernel
theorem dJ6_bitCount_0f7a4_17 : decode cJ6_bitCount_0f7a4 17 = .ok (.iushr, 1) := by decide +kernel
theorem dJ6_bitCount_0f7a4_18 : decode cJ6_bitCount_0f7a4 18 = .ok (.ldc_w 266, 3) := by decide +kernel
theorem dJ6_bitCount_0f7a4_21 : decode cJ6_bitCount_0f7a4 21 = .ok (.iand, 1) := by decide +kernel
theorem dJ6_bitCount_0f7a4_22 : decode cJ6_bitCount_0f7a4 22 = .ok (.iadd, 1) := by decide +kernel
theorem dJ6_bitCount_0f7a4_23 : decode cJ6_bitCount_0f7a4 23 = .ok (.istore_n 0, 1) := by decide +kernel
theorem dJ6_bitCount_0f7a4_24 : decode cJ6_bitCount_0f7a4 24 = .ok (.iload_n 0, 1) := by decide +kernel
theorem dJ6_bitCount_0f7a4_25 : decode cJ6_bitCount_0f7a4 25 = .ok (.iload_n 0, 1) := by decide +kernel
theorem dJ6_bitCount_0f7a4_26 : decode cJ6_bitCount_0f7a4 26 = .ok (.iconst 4, 1) := by decide +kernel
theorem dJ6_bitCount_0f7a4_27 : decode cJ6_bitCount_0f7a4 27 = .ok (.iushr, 1) := by decide +kernel
theorem dJ6_bitCount_0f7a4_28 : decode cJ6_bitCount_0f7a4 28 = .ok (.iadd, 1) := by decide +kernel
theorem dJ6_bitCount_0f7a4_29 : decode cJ6_bitCount_0f7a4 29 = .ok (.ldc_w 267, 3) := by decide +kernel
theorem dJ6_bitCount_0f7a4_32 : decode cJ6_bitCount_0f7a4 32 = .ok (.iand, 1) := by decide +kernel
theorem dJ6_bitCount_0f7a4_33 : decode cJ6_bitCount_0f7a4 33 = .ok (.istore_n 0, 1) := by decide +kernel
theorem dJ6_bitCount_0f7a4_34 : decode cJ6_bitCount_0f7a4 34 = .ok (.iload_n 0, 1) := by decide +kernel
theorem dJ6_bitCount_0f7a4_35 : decode cJ6_bitCount_0f7a4 35 = .ok (.iload_n 0, 1) := by decide +kernel
theorem dJ6_bitCount_0f7a4_36 : decode cJ6_bitCount_0f7a4 36 = .ok (.bipush 8, 2) := by decide +kernel
theorem dJ6_bitCount_0f7a4_38 : decode cJ6_bitCount_0f7a4 38 = .ok (.iushr, 1) := by decide +kernel
theorem dJ6_bitCount_0f7a4_39 : decode cJ6_bitCount_0f7a4 39 = .ok (.iadd, 1) := by decide +kernel
theorem dJ6_bitCount_0f7a4_40 : decode cJ6_bitCount_0f7a4 40 = .ok (.istore_n 0, 1) := by decide +kernel
theorem dJ6_bitCount_0f7a4_41 : decode cJ6_bitCount_0f7a4 41 = .ok (.iload_n 0, 1) := by decide +kernel
theorem dJ6_bitCount_0f7a4_42 : decode cJ6_bitCount_0f7a4 42 = .ok (.iload_n 0, 1) := by decide +kernel
theorem dJ6_bitCount_0f7a4_43 : decode cJ6_bitCount_0f7a4 43 = .ok (.bipush 16, 2) := by decide +kernel
theorem dJ6_bitCount_0f7a4_45 : decode cJ6_bitCount_0f7a4 45 = .ok (.iushr, 1) := by decide +kernel
theorem dJ6_bitCount_0f7a4_46 : decode cJ6_bitCount_0f7a4 46 = .ok (.iadd, 1) := by decide +kernel
theorem dJ6_bitCount_0f7a4_47 : decode cJ6_bitCount_0f7a4 47 = .ok (.istore_n 0, 1) := by decide +kernel
theorem dJ6_bitCount_0f7a4_48 : decode cJ6_bitCount_0f7a4 48 = .ok (.iload_n 0, 1) := by decide +kernel
theorem dJ6_bitCount_0f7a4_49 : decode cJ6_bitCount_0f7a4 49 = .ok (.bipush 63, 2) := by decide +kernel
theorem dJ6_bitCount_0f7a4_51 : decode cJ6_bitCount_0f7a4 51 = .ok (.iand, 1) := by decide +kernel
theorem dJ6_bitCount_0f7a4_52 : decode cJ6_bitCount_0f7a4 52 = .ok (.ireturn, 1) := by decide +kernel
theorem dJ9_abs_0f7a4_0 : decode cJ9_abs_0f7a4 0 = .ok (.iload_n 0, 1) := by decide +kernel
theorem dJ9_abs_0f7a4_1 : decode cJ9_abs_0f7a4 1 = .ok (.ifCond .ge 8, 3) := by decide +kernel
theorem dJ9_abs_0f7a4_4 : decode cJ9_abs_0f7a4 4 = .ok (.iload_n 0, 1) := by decide +kernel
theorem dJ9_abs_0f7a4_5 : decode cJ9_abs_0f7a4 5 = .ok (.ineg, 1) := by decide +kernel
theorem dJ9_abs_0f7a4_6 : decode cJ9_abs_0f7a4 6 = .ok (.goto 4, 3) := by decide +kernel
theorem dJ9_abs_0f7a4_9 : decode cJ9_abs_0f7a4 9 = .ok (.iload_n 0, 1) := by decide +kernel
theorem dJ9_abs_0f7a4_10 : decode cJ9_abs_0f7a4 10 = .ok (.ireturn, 1) := by decide +kernel
theorem dJ9_min_7cf53_0 : decode cJ9_min_7cf53 0 = .ok (.iload_n 0, 1) := by decide +kernel
theorem dJ9_min_7cf53_1 : decode cJ9_min_7cf53 1 = .ok (.iload_n 1, 1) := by decide +kernel
theorem dJ9_min_7cf53_2 : decode cJ9_min_7cf53 2 = .ok (.if_icmp .gt 7, 3) := by decide +kernel
theorem dJ9_min_7cf53_5 : decode cJ9_min_7cf53 5 = .ok (.iload_n 0, 1) := by decide +kernel
theorem dJ9_min_7cf53_6 : decode cJ9_min_7cf53 6 = .ok (.goto 4, 3) := by decide +kernel
theorem dJ9_min_7cf53_9 : decode cJ9_min_7cf53 9 = .ok (.iload_n 1, 1) := by decide +kernel
theorem dJ9_min_7cf53_10 : decode cJ9_min_7cf53 10 = .ok (.ireturn, 1) := by decide +kernel
