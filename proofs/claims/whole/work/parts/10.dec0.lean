theorem dX0_init_0 : decode cX0_init 0 = .ok (.aload_n 0, 1) := by decide +kernel
theorem dX0_init_1 : decode cX0_init 1 = .ok (.invokespecial 3, 3) := by decide +kernel
theorem dX0_init_4 : decode cX0_init 4 = .ok (.aload_n 0, 1) := by decide +kernel
theorem dX0_init_5 : decode cX0_init 5 = .ok (.bipush 41, 2) := by decide +kernel
theorem dX0_init_7 : decode cX0_init 7 = .ok (.newarray .int, 2) := by decide +kernel
theorem dX0_init_9 : decode cX0_init 9 = .ok (.putfield 11, 3) := by decide +kernel
theorem dX0_init_12 : decode cX0_init 12 = .ok (.aload_n 0, 1) := by decide +kernel
theorem dX0_init_13 : decode cX0_init 13 = .ok (.bipush 41, 2) := by decide +kernel
theorem dX0_init_15 : decode cX0_init 15 = .ok (.newarray .int, 2) := by decide +kernel
theorem dX0_init_17 : decode cX0_init 17 = .ok (.putfield 15, 3) := by decide +kernel
theorem dX0_init_20 : decode cX0_init 20 = .ok (.return_, 1) := by decide +kernel
theorem dX0_start_0 : decode cX0_start 0 = .ok (.aload_n 0, 1) := by decide +kernel
theorem dX0_start_1 : decode cX0_start 1 = .ok (.iconst 0, 1) := by decide +kernel
theorem dX0_start_2 : decode cX0_start 2 = .ok (.putfield 18, 3) := by decide +kernel
theorem dX0_start_5 : decode cX0_start 5 = .ok (.iconst 0, 1) := by decide +kernel
theorem dX0_start_6 : decode cX0_start 6 = .ok (.istore_n 2, 1) := by decide +kernel
theorem dX0_start_7 : decode cX0_start 7 = .ok (.iload_n 2, 1) := by decide +kernel
theorem dX0_start_8 : decode cX0_start 8 = .ok (.bipush 41, 2) := by decide +kernel
theorem dX0_start_10 : decode cX0_start 10 = .ok (.if_icmp .ge 35, 3) := by decide +kernel
theorem dX0_start_13 : decode cX0_start 13 = .ok (.aload_n 0, 1) := by decide +kernel
theorem dX0_start_14 : decode cX0_start 14 = .ok (.getfield 11, 3) := by decide +kernel
theorem dX0_start_17 : decode cX0_start 17 = .ok (.iload_n 2, 1) := by decide +kernel
theorem dX0_start_18 : decode cX0_start 18 = .ok (.iload_n 2, 1) := by decide +kernel
theorem dX0_start_19 : decode cX0_start 19 = .ok (.iload_n 1, 1) := by decide +kernel
theorem dX0_start_20 : decode cX0_start 20 = .ok (.bipush 20, 2) := by decide +kernel
theorem dX0_start_22 : decode cX0_start 22 = .ok (.iadd, 1) := by decide +kernel
theorem dX0_start_23 : decode cX0_start 23 = .ok (.if_icmp .ne 7, 3) := by decide +kernel
theorem dX0_start_26 : decode cX0_start 26 = .ok (.iconst 1, 1) := by decide +kernel
theorem dX0_start_27 : decode cX0_start 27 = .ok (.goto 4, 3) := by decide +kernel
theorem dX0_start_30 : decode cX0_start 30 = .ok (.iconst 0, 1) := by decide +kernel
theorem dX0_start_31 : decode cX0_start 31 = .ok (.iastore, 1) := by decide +kernel
theorem dX0_start_32 : decode cX0_start 32 = .ok (.aload_n 0, 1) := by decide +kernel
theorem dX0_start_33 : decode cX0_start 33 = .ok (.getfield 15, 3) := by decide +kernel
theorem dX0_start_36 : decode cX0_start 36 = .ok (.iload_n 2, 1) := by decide +kernel
theorem dX0_start_37 : decode cX0_start 37 = .ok (.iconst 0, 1) := by decide +kernel
theorem dX0_start_38 : decode cX0_start 38 = .ok (.iastore, 1) := by decide +kernel
theorem dX0_start_39 : decode cX0_start 39 = .ok (.iinc 2 1, 3) := by decide +kernel
theorem dX0_start_42 : decode cX0_start 42 = .ok (.goto (-35), 3) := by decide +kernel
theorem dX0_start_45 : decode cX0_start 45 = .ok (.return_, 1) := by decide +kernel
theorem dX0_letHourGo_0 : decode cX0_letHourGo 0 = .ok (.aload_n 0, 1) := by decide +kernel
theorem dX0_letHourGo_1 : decode cX0_letHourGo 1 = .ok (.dup, 1) := by decide +kernel
theorem dX0_letHourGo_2 : decode cX0_letHourGo 2 = .ok (.getfield 18, 3) := by decide +kernel
theorem dX0_letHourGo_5 : decode cX0_letHourGo 5 = .ok (.bipush 10, 2) := by decide +kernel
theorem dX0_letHourGo_7 : decode cX0_letHourGo 7 = .ok (.imul, 1) := by decide +kernel
theorem dX0_letHourGo_8 : decode cX0_letHourGo 8 = .ok (.putfield 18, 3) := by decide +kernel
theorem dX0_letHourGo_11 : decode cX0_letHourGo 11 = .ok (.iconst 0, 1) := by decide +kernel
theorem dX0_letHourGo_12 : decode cX0_letHourGo 12 = .ok (.istore 4, 2) := by decide +kernel
theorem dX0_letHourGo_14 : decode cX0_letHourGo 14 = .ok (.iload 4, 2) := by decide +kernel
theorem dX0_letHourGo_16 : decode cX0_letHourGo 16 = .ok (.bipush 41, 2) := by decide +kernel
theorem dX0_letHourGo_18 : decode cX0_letHourGo 18 = .ok (.if_icmp .ge 108, 3) := by decide +kernel
theorem dX0_letHourGo_21 : decode cX0_letHourGo 21 = .ok (.aload_n 0, 1) := by decide +kernel
theorem dX0_letHourGo_22 : decode cX0_letHourGo 22 = .ok (.getfield 11, 3) := by decide +kernel
theorem dX0_letHourGo_25 : decode cX0_letHourGo 25 = .ok (.iload 4, 2) := by decide +kernel
theorem dX0_letHourGo_27 : decode cX0_letHourGo 27 = .ok (.iaload, 1) := by decide +kernel
theorem dX0_letHourGo_28 : decode cX0_letHourGo 28 = .ok (.ifCond .le 92, 3) := by decide +kernel
theorem dX0_letHourGo_31 : decode cX0_letHourGo 31 = .ok (.aload_n 2, 1) := by decide +kernel
theorem dX0_letHourGo_32 : decode cX0_letHourGo 32 = .ok (.iload 4, 2) := by decide +kernel
theorem dX0_letHourGo_34 : decode cX0_letHourGo 34 = .ok (.bipush 20, 2) := by decide +kernel
theorem dX0_letHourGo_36 : decode cX0_letHourGo 36 = .ok (.isub, 1) := by decide +kernel
theorem dX0_letHourGo_37 : decode cX0_letHourGo 37 = .ok (.putfield 22, 3) := by decide +kernel
theorem dX0_letHourGo_40 : decode cX0_letHourGo 40 = .ok (.aload_n 1, 1) := by decide +kernel
theorem dX0_letHourGo_41 : decode cX0_letHourGo 41 = .ok (.aload_n 2, 1) := by decide +kernel
theorem dX0_letHourGo_42 : decode cX0_letHourGo 42 = .ok (.invokevirtual 27, 3) := by decide +kernel
theorem dX0_letHourGo_45 : decode cX0_letHourGo 45 = .ok (.istore 5, 2) := by decide +kernel
theorem dX0_letHourGo_47 : decode cX0_letHourGo 47 = .ok (.aload_n 0, 1) := by decide +kernel
theorem dX0_letHourGo_48 : decode cX0_letHourGo 48 = .ok (.aload_n 2, 1) := by decide +kernel
theorem dX0_letHourGo_49 : decode cX0_letHourGo 49 = .ok (.getfield 22, 3) := by decide +kernel
theorem dX0_letHourGo_52 : decode cX0_letHourGo 52 = .ok (.iload 5, 2) := by decide +kernel
theorem dX0_letHourGo_54 : decode cX0_letHourGo 54 = .ok (.bipush 9, 2) := by decide +kernel
theorem dX0_letHourGo_56 : decode cX0_letHourGo 56 = .ok (.aload_n 2, 1) := by decide +kernel
theorem dX0_letHourGo_57 : decode cX0_letHourGo 57 = .ok (.getfield 33, 3) := by decide +kernel
theorem dX0_letHourGo_60 : decode cX0_letHourGo 60 = .ok (.invokestatic 36, 3) := by decide +kernel
theorem dX0_letHourGo_63 : decode cX0_letHourGo 63 = .ok (.invokestatic 40, 3) := by decide +kernel
theorem dX0_letHourGo_66 : decode cX0_letHourGo 66 = .ok (.aload_n 0, 1) := by decide +kernel
theorem dX0_letHourGo_67 : decode cX0_letHourGo 67 = .ok (.getfield 11, 3) := by decide +kernel
theorem dX0_letHourGo_70 : decode cX0_letHourGo 70 = .ok (.iload 4, 2) := by decide +kernel
theorem dX0_letHourGo_72 : decode cX0_letHourGo 72 = .ok (.iaload, 1) := by decide +kernel
theorem dX0_letHourGo_73 : decode cX0_letHourGo 73 = .ok (.iload_n 3, 1) := by decide +kernel
theorem dX0_letHourGo_74 : decode cX0_letHourGo 74 = .ok (.imul, 1) := by decide +kernel
theorem dX0_letHourGo_75 : decode cX0_letHourGo 75 = .ok (.invokevirtual 44, 3) := by decide +kernel
theorem dX0_letHourGo_78 : decode cX0_letHourGo 78 = .ok (.aload_n 0, 1) := by decide +kernel
theorem dX0_letHourGo_79 : decode cX0_letHourGo 79 = .ok (.aload_n 2, 1) := by decide +kernel
theorem dX0_letHourGo_80 : decode cX0_letHourGo 80 = .ok (.getfield 22, 3) := by decide +kernel
theorem dX0_letHourGo_83 : decode cX0_letHourGo 83 = .ok (.iload 5, 2) := by decide +kernel
theorem dX0_letHourGo_85 : decode cX0_letHourGo 85 = .ok (.bipush (-9), 2) := by decide +kernel
theorem dX0_letHourGo_87 : decode cX0_letHourGo 87 = .ok (.aload_n 2, 1) := by decide +kernel
theorem dX0_letHourGo_88 : decode cX0_letHourGo 88 = .ok (.getfield 33, 3) := by decide +kernel
theorem dX0_letHourGo_91 : decode cX0_letHourGo 91 = .ok (.invokestatic 36, 3) := by decide +kernel
theorem dX0_letHourGo_94 : decode cX0_letHourGo 94 = .ok (.invokestatic 40, 3) := by decide +kernel
theorem dX0_letHourGo_97 : decode cX0_letHourGo 97 = .ok (.aload_n 0, 1) := by decide +kernel
theorem dX0_letHourGo_98 : decode cX0_letHourGo 98 = .ok (.getfield 11, 3) := by decide +kernel
theorem dX0_letHourGo_101 : decode cX0_letHourGo 101 = .ok (.iload 4, 2) := by decide +kernel
theorem dX0_letHourGo_103 : decode cX0_letHourGo 103 = .ok (.iaload, 1) := by decide +kernel
theorem dX0_letHourGo_104 : decode cX0_letHourGo 104 = .ok (.bipush 10, 2) := by decide +kernel
theorem dX0_letHourGo_106 : decode cX0_letHourGo 106 = .ok (.iload_n 3, 1) := by decide +kernel
theorem dX0_letHourGo_107 : decode cX0_letHourGo 107 = .ok (.isub, 1) := by decide +kernel
theorem dX0_letHourGo_108 : decode cX0_letHourGo 108 = .ok (.imul, 1) := by decide +kernel
theorem dX0_letHourGo_109 : decode cX0_letHourGo 109 = .ok (.invokevirtual 44, 3) := by decide +kernel
theorem dX0_letHourGo_112 : decode cX0_letHourGo 112 = .ok (.aload_n 0, 1) := by decide +kernel
theorem dX0_letHourGo_113 : decode cX0_letHourGo 113 = .ok (.getfield 11, 3) := by decide +kernel
theorem dX0_letHourGo_116 : decode cX0_letHourGo 116 = .ok (.iload 4, 2) := by decide +kernel
theorem dX0_letHourGo_118 : decode cX0_letHourGo 118 = .ok (.iconst 0, 1) := by decide +kernel
theorem dX0_letHourGo_119 : decode cX0_letHourGo 119 = .ok (.iastore, 1) := by decide +kernel
theorem dX0_letHourGo_120 : decode cX0_letHourGo 120 = .ok (.iinc 4 1, 3) := by decide +kernel
theorem dX0_letHourGo_123 : decode cX0_letHourGo 123 = .ok (.goto (-109), 3) := by decide +kernel
theorem dX0_letHourGo_126 : decode cX0_letHourGo 126 = .ok (.aload_n 0, 1) := by decide +kernel
theorem dX0_letHourGo_127 : decode cX0_letHourGo 127 = .ok (.getfield 11, 3) := by decide +kernel
theorem dX0_letHourGo_130 : decode cX0_letHourGo 130 = .ok (.astore 4, 2) := by decide +kernel
theorem dX0_letHourGo_132 : decode cX0_letHourGo 132 = .ok (.aload_n 0, 1) := by decide +kernel
theorem dX0_letHourGo_133 : decode cX0_letHourGo 133 = .ok (.aload_n 0, 1) := by decide +kernel
theorem dX0_letHourGo_134 : decode cX0_letHourGo 134 = .ok (.getfield 15, 3) := by decide +kernel
theorem dX0_letHourGo_137 : decode cX0_letHourGo 137 = .ok (.putfield 11, 3) := by decide +kernel
theorem dX0_letHourGo_140 : decode cX0_letHourGo 140 = .ok (.aload_n 0, 1) := by decide +kernel
theorem dX0_letHourGo_141 : decode cX0_letHourGo 141 = .ok (.aload 4, 2) := by decide +kernel
theorem dX0_letHourGo_143 : decode cX0_letHourGo 143 = .ok (.putfield 15, 3) := by decide +kernel
theorem dX0_letHourGo_146 : decode cX0_letHourGo 146 = .ok (.aload_n 2, 1) := by decide +kernel
theorem dX0_letHourGo_147 : decode cX0_letHourGo 147 = .ok (.dup, 1) := by decide +kernel
theorem dX0_letHourGo_148 : decode cX0_letHourGo 148 = .ok (.getfield 48, 3) := by decide +kernel
theorem dX0_letHourGo_151 : decode cX0_letHourGo 151 = .ok (.iconst 1, 1) := by decide +kernel
theorem dX0_letHourGo_152 : decode cX0_letHourGo 152 = .ok (.iadd, 1) := by decide +kernel
theorem dX0_letHourGo_153 : decode cX0_letHourGo 153 = .ok (.putfield 48, 3) := by decide +kernel
theorem dX0_letHourGo_156 : decode cX0_letHourGo 156 = .ok (.return_, 1) := by decide +kernel
theorem dX0_go_0 : decode cX0_go 0 = .ok (.iload_n 1, 1) := by decide +kernel
theorem dX0_go_1 : decode cX0_go 1 = .ok (.bipush 20, 2) := by decide +kernel
theorem dX0_go_3 : decode cX0_go 3 = .ok (.iadd, 1) := by decide +kernel
theorem dX0_go_4 : decode cX0_go 4 = .ok (.istore_n 3, 1) := by decide +kernel
theorem dX0_go_5 : decode cX0_go 5 = .ok (.iload_n 1, 1) := by decide +kernel
theorem dX0_go_6 : decode cX0_go 6 = .ok (.invokestatic 51, 3) := by decide +kernel
theorem dX0_go_9 : decode cX0_go 9 = .ok (.bipush 15, 2) := by decide +kernel
theorem dX0_go_11 : decode cX0_go 11 = .ok (.if_icmp .lt 16, 3) := by decide +kernel
theorem dX0_go_14 : decode cX0_go 14 = .ok (.aload_n 0, 1) := by decide +kernel
theorem dX0_go_15 : decode cX0_go 15 = .ok (.dup, 1) := by decide +kernel
theorem dX0_go_16 : decode cX0_go 16 = .ok (.getfield 18, 3) := by decide +kernel
theorem dX0_go_19 : decode cX0_go 19 = .ok (.iload_n 2, 1) := by decide +kernel
theorem dX0_go_20 : decode cX0_go 20 = .ok (.iadd, 1) := by decide +kernel
theorem dX0_go_21 : decode cX0_go 21 = .ok (.putfield 18, 3) := by decide +kernel
theorem dX0_go_24 : decode cX0_go 24 = .ok (.goto 23, 3) := by decide +kernel
theorem dX0_go_27 : decode cX0_go 27 = .ok (.iload_n 3, 1) := by decide +kernel
theorem dX0_go_28 : decode cX0_go 28 = .ok (.iconst 0, 1) := by decide +kernel
theorem dX0_go_29 : decode cX0_go 29 = .ok (.bipush 40, 2) := by decide +kernel
theorem dX0_go_31 : decode cX0_go 31 = .ok (.invokestatic 57, 3) := by decide +kernel
theorem dX0_go_34 : decode cX0_go 34 = .ok (.ifCond .eq 13, 3) := by decide +kernel
theorem dX0_go_37 : decode cX0_go 37 = .ok (.aload_n 0, 1) := by decide +kernel
theorem dX0_go_38 : decode cX0_go 38 = .ok (.getfield 15, 3) := by decide +kernel
theorem dX0_go_41 : decode cX0_go 41 = .ok (.iload_n 3, 1) := by decide +kernel
theorem dX0_go_42 : decode cX0_go 42 = .ok (.dup2, 1) := by decide +kernel
theorem dX0_go_43 : decode cX0_go 43 = .ok (.iaload, 1) := by decide +kernel
theorem dX0_go_44 : decode cX0_go 44 = .ok (.iload_n 2, 1) := by decide +kernel
theorem dX0_go_45 : decode cX0_go 45 = .ok (.iadd, 1) := by decide +kernel
theorem dX0_go_46 : decode cX0_go 46 = .ok (.iastore, 1) := by decide +kernel
theorem dX0_go_47 : decode cX0_go 47 = .ok (.return_, 1) := by decide +kernel
theorem dX1_init_0 : decode cX1_init 0 = .ok (.aload_n 0, 1) := by decide +kernel
theorem dX1_init_1 : decode cX1_init 1 = .ok (.invokespecial 1, 3) := by decide +kernel
theorem dX1_init_4 : decode cX1_init 4 = .ok (.return_, 1) := by decide +kernel
theorem dX1_start_0 : decode cX1_start 0 = .ok (.aload_n 0, 1) := by decide +kernel
theorem dX1_start_1 : decode cX1_start 1 = .ok (.iload_n 1, 1) := by decide +kernel
theorem dX1_start_2 : decode cX1_start 2 = .ok (.putfield 7, 3) := by decide +kernel
theorem dX1_start_5 : decode cX1_start 5 = .ok (.return_, 1) := by decide +kernel
theorem dX1_draw_0 : decode cX1_draw 0 = .ok (.aload_n 0, 1) := by decide +kernel
theorem dX1_draw_1 : decode cX1_draw 1 = .ok (.aload_n 0, 1) := by decide +kernel
theorem dX1_draw_2 : decode cX1_draw 2 = .ok (.getfield 7, 3) := by decide +kernel
theorem dX1_draw_5 : decode cX1_draw 5 = .ok (.ldc 13, 2) := by decide +kernel
theorem dX1_draw_7 : decode cX1_draw 7 = .ok (.imul, 1) := by decide +kernel
theorem dX1_draw_8 : decode cX1_draw 8 = .ok (.sipush 12345, 3) := by decide +kernel
theorem dX1_draw_11 : decode cX1_draw 11 = .ok (.iadd, 1) := by decide +kernel
theorem dX1_draw_12 : decode cX1_draw 12 = .ok (.putfield 7, 3) := by decide +kernel
theorem dX1_draw_15 : decode cX1_draw 15 = .ok (.iload_n 1, 1) := by decide +kernel
theorem dX1_draw_16 : decode cX1_draw 16 = .ok (.ifCond .le 15, 3) := by decide +kernel
theorem dX1_draw_19 : decode cX1_draw 19 = .ok (.aload_n 0, 1) := by decide +kernel
theorem dX1_draw_20 : decode cX1_draw 20 = .ok (.getfield 7, 3) := by decide +kernel
theorem dX1_draw_23 : decode cX1_draw 23 = .ok (.bipush 16, 2) := by decide +kernel
theorem dX1_draw_25 : decode cX1_draw 25 = .ok (.iushr, 1) := by decide +kernel
theorem dX1_draw_26 : decode cX1_draw 26 = .ok (.iload_n 1, 1) := by decide +kernel
theorem dX1_draw_27 : decode cX1_draw 27 = .ok (.irem, 1) := by decide +kernel
theorem dX1_draw_28 : decode cX1_draw 28 = .ok (.goto 4, 3) := by decide +kernel
theorem dX1_draw_31 : decode cX1_draw 31 = .ok (.iconst 0, 1) := by decide +kernel
theorem dX1_draw_32 : decode cX1_draw 32 = .ok (.ireturn, 1) := by decide +kernel
theorem dX2_init_0 : decode cX2_init 0 = .ok (.aload_n 0, 1) := by decide +kernel
theorem dX2_init_1 : decode cX2_init 1 = .ok (.invokespecial 1, 3) := by decide +kernel
theorem dX2_init_4 : decode cX2_init 4 = .ok (.aload_n 0, 1) := by decide +kernel
theorem dX2_init_5 : decode cX2_init 5 = .ok (.bipush 12, 2) := by decide +kernel
theorem dX2_init_7 : decode cX2_init 7 = .ok (.anewarray 9, 3) := by decide +kernel
theorem dX2_init_10 : decode cX2_init 10 = .ok (.putfield 11, 3) := by decide +kernel
theorem dX2_init_13 : decode cX2_init 13 = .ok (.iconst 0, 1) := by decide +kernel
theorem dX2_init_14 : decode cX2_init 14 = .ok (.istore_n 1, 1) := by decide +kernel
theorem dX2_init_15 : decode cX2_init 15 = .ok (.iload_n 1, 1) := by decide +kernel
theorem dX2_init_16 : decode cX2_init 16 = .ok (.bipush 12, 2) := by decide +kernel
theorem dX2_init_18 : decode cX2_init 18 = .ok (.if_icmp .ge 22, 3) := by decide +kernel
theorem dX2_init_21 : decode cX2_init 21 = .ok (.aload_n 0, 1) := by decide +kernel
theorem dX2_init_22 : decode cX2_init 22 = .ok (.getfield 11, 3) := by decide +kernel
theorem dX2_init_25 : decode cX2_init 25 = .ok (.iload_n 1, 1) := by decide +kernel
theorem dX2_init_26 : decode cX2_init 26 = .ok (.new 9, 3) := by decide +kernel
theorem dX2_init_29 : decode cX2_init 29 = .ok (.dup, 1) := by decide +kernel
theorem dX2_init_30 : decode cX2_init 30 = .ok (.invokespecial 15, 3) := by decide +kernel
theorem dX2_init_33 : decode cX2_init 33 = .ok (.aastore, 1) := by decide +kernel
theorem dX2_init_34 : decode cX2_init 34 = .ok (.iinc 1 1, 3) := by decide +kernel
theorem dX2_init_37 : decode cX2_init 37 = .ok (.goto (-22), 3) := by decide +kernel
theorem dX2_init_40 : decode cX2_init 40 = .ok (.return_, 1) := by decide +kernel
theorem dX2_empty_0 : decode cX2_empty 0 = .ok (.aload_n 0, 1) := by decide +kernel
theorem dX2_empty_1 : decode cX2_empty 1 = .ok (.iconst 0, 1) := by decide +kernel
theorem dX2_empty_2 : decode cX2_empty 2 = .ok (.putfield 16, 3) := by decide +kernel
theorem dX2_empty_5 : decode cX2_empty 5 = .ok (.return_, 1) := by decide +kernel
theorem dX2_add_0 : decode cX2_add 0 = .ok (.aload_n 0, 1) := by decide +kernel
theorem dX2_add_1 : decode cX2_add 1 = .ok (.getfield 11, 3) := by decide +kernel
theorem dX2_add_4 : decode cX2_add 4 = .ok (.aload_n 0, 1) := by decide +kernel
theorem dX2_add_5 : decode cX2_add 5 = .ok (.getfield 20, 3) := by decide +kernel
theorem dX2_add_8 : decode cX2_add 8 = .ok (.aload_n 0, 1) := by decide +kernel
theorem dX2_add_9 : decode cX2_add 9 = .ok (.getfield 16, 3) := by decide +kernel
theorem dX2_add_12 : decode cX2_add 12 = .ok (.iadd, 1) := by decide +kernel
theorem dX2_add_13 : decode cX2_add 13 = .ok (.bipush 12, 2) := by decide +kernel
theorem dX2_add_15 : decode cX2_add 15 = .ok (.irem, 1) := by decide +kernel
theorem dX2_add_16 : decode cX2_add 16 = .ok (.aaload, 1) := by decide +kernel
theorem dX2_add_17 : decode cX2_add 17 = .ok (.aload_n 1, 1) := by decide +kernel
theorem dX2_add_18 : decode cX2_add 18 = .ok (.invokevirtual 23, 3) := by decide +kernel
theorem dX2_add_21 : decode cX2_add 21 = .ok (.aload_n 0, 1) := by decide +kernel
theorem dX2_add_22 : decode cX2_add 22 = .ok (.getfield 16, 3) := by decide +kernel
theorem dX2_add_25 : decode cX2_add 25 = .ok (.bipush 12, 2) := by decide +kernel
theorem dX2_add_27 : decode cX2_add 27 = .ok (.if_icmp .ge 16, 3) := by decide +kernel
theorem dX2_add_30 : decode cX2_add 30 = .ok (.aload_n 0, 1) := by decide +kernel
theorem dX2_add_31 : decode cX2_add 31 = .ok (.dup, 1) := by decide +kernel
theorem dX2_add_32 : decode cX2_add 32 = .ok (.getfield 16, 3) := by decide +kernel
theorem dX2_add_35 : decode cX2_add 35 = .ok (.iconst 1, 1) := by decide +kernel
theorem dX2_add_36 : decode cX2_add 36 = .ok (.iadd, 1) := by decide +kernel
theorem dX2_add_37 : decode cX2_add 37 = .ok (.putfield 16, 3) := by decide +kernel
theorem dX2_add_40 : decode cX2_add 40 = .ok (.goto 16, 3) := by decide +kernel
theorem dX2_add_43 : decode cX2_add 43 = .ok (.aload_n 0, 1) := by decide +kernel
theorem dX2_add_44 : decode cX2_add 44 = .ok (.aload_n 0, 1) := by decide +kernel
theorem dX2_add_45 : decode cX2_add 45 = .ok (.getfield 20, 3) := by decide +kernel
theorem dX2_add_48 : decode cX2_add 48 = .ok (.iconst 1, 1) := by decide +kernel
theorem dX2_add_49 : decode cX2_add 49 = .ok (.iadd, 1) := by decide +kernel
theorem dX2_add_50 : decode cX2_add 50 = .ok (.bipush 12, 2) := by decide +kernel
theorem dX2_add_52 : decode cX2_add 52 = .ok (.irem, 1) := by decide +kernel
theorem dX2_add_53 : decode cX2_add 53 = .ok (.putfield 20, 3) := by decide +kernel
theorem dX2_add_56 : decode cX2_add 56 = .ok (.return_, 1) := by decide +kernel
theorem dX2_takeLatest_0 : decode cX2_takeLatest 0 = .ok (.aload_n 0, 1) := by decide +kernel
theorem dX2_takeLatest_1 : decode cX2_takeLatest 1 = .ok (.getfield 16, 3) := by decide +kernel
theorem dX2_takeLatest_4 : decode cX2_takeLatest 4 = .ok (.ifCond .ne 5, 3) := by decide +kernel
theorem dX2_takeLatest_7 : decode cX2_takeLatest 7 = .ok (.iconst 0, 1) := by decide +kernel
theorem dX2_takeLatest_8 : decode cX2_takeLatest 8 = .ok (.ireturn, 1) := by decide +kernel
theorem dX2_takeLatest_9 : decode cX2_takeLatest 9 = .ok (.aload_n 0, 1) := by decide +kernel
theorem dX2_takeLatest_10 : decode cX2_takeLatest 10 = .ok (.dup, 1) := by decide +kernel
theorem dX2_takeLatest_11 : decode cX2_takeLatest 11 = .ok (.getfield 16, 3) := by decide +kernel
theorem dX2_takeLatest_14 : decode cX2_takeLatest 14 = .ok (.iconst 1, 1) := by decide +kernel
theorem dX2_takeLatest_15 : decode cX2_takeLatest 15 = .ok (.isub, 1) := by decide +kernel
theorem dX2_takeLatest_16 : decode cX2_takeLatest 16 = .ok (.putfield 16, 3) := by decide +kernel
theorem dX2_takeLatest_19 : decode cX2_takeLatest 19 = .ok (.aload_n 1, 1) := by decide +kernel
theorem dX2_takeLatest_20 : decode cX2_takeLatest 20 = .ok (.aload_n 0, 1) := by decide +kernel
theorem dX2_takeLatest_21 : decode cX2_takeLatest 21 = .ok (.getfield 11, 3) := by decide +kernel
theorem dX2_takeLatest_24 : decode cX2_takeLatest 24 = .ok (.aload_n 0, 1) := by decide +kernel
theorem dX2_takeLatest_25 : decode cX2_takeLatest 25 = .ok (.getfield 20, 3) := by decide +kernel
theorem dX2_takeLatest_28 : decode cX2_takeLatest 28 = .ok (.aload_n 0, 1) := by decide +kernel
theorem dX2_takeLatest_29 : decode cX2_takeLatest 29 = .ok (.getfield 16, 3) := by decide +kernel
theorem dX2_takeLatest_32 : decode cX2_takeLatest 32 = .ok (.iadd, 1) := by decide +kernel
theorem dX2_takeLatest_33 : decode cX2_takeLatest 33 = .ok (.bipush 12, 2) := by decide +kernel
theorem dX2_takeLatest_35 : decode cX2_takeLatest 35 = .ok (.irem, 1) := by decide +kernel
theorem dX2_takeLatest_36 : decode cX2_takeLatest 36 = .ok (.aaload, 1) := by decide +kernel
theorem dX2_takeLatest_37 : decode cX2_takeLatest 37 = .ok (.invokevirtual 23, 3) := by decide +kernel
theorem dX2_takeLatest_40 : decode cX2_takeLatest 40 = .ok (.iconst 1, 1) := by decide +kernel
theorem dX2_takeLatest_41 : decode cX2_takeLatest 41 = .ok (.ireturn, 1) := by decide +kernel
theorem dX3_init_0 : decode cX3_init 0 = .ok (.aload_n 0, 1) := by decide +kernel
theorem dX3_init_1 : decode cX3_init 1 = .ok (.invokespecial 3, 3) := by decide +kernel
theorem dX3_init_4 : decode cX3_init 4 = .ok (.aload_n 0, 1) := by decide +kernel
theorem dX3_init_5 : decode cX3_init 5 = .ok (.sipush 512, 3) := by decide +kernel
theorem dX3_init_8 : decode cX3_init 8 = .ok (.newarray .boolean, 2) := by decide +kernel
theorem dX3_init_10 : decode cX3_init 10 = .ok (.putfield 9, 3) := by decide +kernel
theorem dX3_init_13 : decode cX3_init 13 = .ok (.aload_n 0, 1) := by decide +kernel
theorem dX3_init_14 : decode cX3_init 14 = .ok (.iconst 3, 1) := by decide +kernel
theorem dX3_init_15 : decode cX3_init 15 = .ok (.newarray .int, 2) := by decide +kernel
theorem dX3_init_17 : decode cX3_init 17 = .ok (.putfield 15, 3) := by decide +kernel
theorem dX3_init_20 : decode cX3_init 20 = .ok (.return_, 1) := by decide +kernel
theorem dX3_leastThatWins_0 : decode cX3_leastThatWins 0 = .ok (.iconst 0, 1) := by decide +kernel
theorem dX3_leastThatWins_1 : decode cX3_leastThatWins 1 = .ok (.istore_n 3, 1) := by decide +kernel
theorem dX3_leastThatWins_2 : decode cX3_leastThatWins 2 = .ok (.iload_n 3, 1) := by decide +kernel
theorem dX3_leastThatWins_3 : decode cX3_leastThatWins 3 = .ok (.iload_n 2, 1) := by decide +kernel
theorem dX3_leastThatWins_4 : decode cX3_leastThatWins 4 = .ok (.if_icmp .gt 89, 3) := by decide +kernel
theorem dX3_leastThatWins_7 : decode cX3_leastThatWins 7 = .ok (.iconst 0, 1) := by decide +kernel
theorem dX3_leastThatWins_8 : decode cX3_leastThatWins 8 = .ok (.istore 4, 2) := by decide +kernel
theorem dX3_leastThatWins_10 : decode cX3_leastThatWins 10 = .ok (.iload 4, 2) := by decide +kernel
theorem dX3_leastThatWins_12 : decode cX3_leastThatWins 12 = .ok (.iload_n 1, 1) := by decide +kernel
theorem dX3_leastThatWins_13 : decode cX3_leastThatWins 13 = .ok (.iconst 1, 1) := by decide +kernel
theorem dX3_leastThatWins_14 : decode cX3_leastThatWins 14 = .ok (.if_icmp .le 7, 3) := by decide +kernel
theorem dX3_leastThatWins_17 : decode cX3_leastThatWins 17 = .ok (.iload_n 3, 1) := by decide +kernel
theorem dX3_leastThatWins_18 : decode cX3_leastThatWins 18 = .ok (.goto 4, 3) := by decide +kernel
theorem dX3_leastThatWins_21 : decode cX3_leastThatWins 21 = .ok (.iconst 0, 1) := by decide +kernel
theorem dX3_leastThatWins_22 : decode cX3_leastThatWins 22 = .ok (.if_icmp .gt 65, 3) := by decide +kernel
theorem dX3_leastThatWins_25 : decode cX3_leastThatWins 25 = .ok (.iconst 0, 1) := by decide +kernel
theorem dX3_leastThatWins_26 : decode cX3_leastThatWins 26 = .ok (.istore 5, 2) := by decide +kernel
theorem dX3_leastThatWins_28 : decode cX3_leastThatWins 28 = .ok (.iload 5, 2) := by decide +kernel
theorem dX3_leastThatWins_30 : decode cX3_leastThatWins 30 = .ok (.iload_n 1, 1) := by decide +kernel
theorem dX3_leastThatWins_31 : decode cX3_leastThatWins 31 = .ok (.iconst 2, 1) := by decide +kernel
theorem dX3_leastThatWins_32 : decode cX3_leastThatWins 32 = .ok (.if_icmp .le 8, 3) := by decide +kernel
theorem dX3_leastThatWins_35 : decode cX3_leastThatWins 35 = .ok (.iload 4, 2) := by decide +kernel
theorem dX3_leastThatWins_37 : decode cX3_leastThatWins 37 = .ok (.goto 4, 3) := by decide +kernel
theorem dX3_leastThatWins_40 : decode cX3_leastThatWins 40 = .ok (.iconst 0, 1) := by decide +kernel
theorem dX3_leastThatWins_41 : decode cX3_leastThatWins 41 = .ok (.if_icmp .gt 40, 3) := by decide +kernel
theorem dX3_leastThatWins_44 : decode cX3_leastThatWins 44 = .ok (.aload_n 0, 1) := by decide +kernel
theorem dX3_leastThatWins_45 : decode cX3_leastThatWins 45 = .ok (.iload_n 3, 1) := by decide +kernel
theorem dX3_leastThatWins_46 : decode cX3_leastThatWins 46 = .ok (.iload 4, 2) := by decide +kernel
theorem dX3_leastThatWins_48 : decode cX3_leastThatWins 48 = .ok (.iload 5, 2) := by decide +kernel
theorem dX3_leastThatWins_50 : decode cX3_leastThatWins 50 = .ok (.invokevirtual 19, 3) := by decide +kernel
theorem dX3_leastThatWins_53 : decode cX3_leastThatWins 53 = .ok (.aload_n 0, 1) := by decide +kernel
theorem dX3_leastThatWins_54 : decode cX3_leastThatWins 54 = .ok (.iload_n 3, 1) := by decide +kernel
theorem dX3_leastThatWins_55 : decode cX3_leastThatWins 55 = .ok (.ifCond .eq 12, 3) := by decide +kernel
theorem dX3_leastThatWins_58 : decode cX3_leastThatWins 58 = .ok (.aload_n 0, 1) := by decide +kernel
theorem dX3_leastThatWins_59 : decode cX3_leastThatWins 59 = .ok (.invokevirtual 23, 3) := by decide +kernel
theorem dX3_leastThatWins_62 : decode cX3_leastThatWins 62 = .ok (.bipush (-2), 2) := by decide +kernel
theorem dX3_leastThatWins_64 : decode cX3_leastThatWins 64 = .ok (.if_icmp .eq 7, 3) := by decide +kernel
theorem dX3_leastThatWins_67 : decode cX3_leastThatWins 67 = .ok (.iconst 1, 1) := by decide +kernel
theorem dX3_leastThatWins_68 : decode cX3_leastThatWins 68 = .ok (.goto 4, 3) := by decide +kernel
theorem dX3_leastThatWins_71 : decode cX3_leastThatWins 71 = .ok (.iconst 0, 1) := by decide +kernel
theorem dX3_leastThatWins_72 : decode cX3_leastThatWins 72 = .ok (.invokevirtual 27, 3) := by decide +kernel
theorem dX3_leastThatWins_75 : decode cX3_leastThatWins 75 = .ok (.iinc 5 1, 3) := by decide +kernel
theorem dX3_leastThatWins_78 : decode cX3_leastThatWins 78 = .ok (.goto (-50), 3) := by decide +kernel
theorem dX3_leastThatWins_81 : decode cX3_leastThatWins 81 = .ok (.iinc 4 1, 3) := by decide +kernel
theorem dX3_leastThatWins_84 : decode cX3_leastThatWins 84 = .ok (.goto (-74), 3) := by decide +kernel
theorem dX3_leastThatWins_87 : decode cX3_leastThatWins 87 = .ok (.iinc 3 1, 3) := by decide +kernel
theorem dX3_leastThatWins_90 : decode cX3_leastThatWins 90 = .ok (.goto (-88), 3) := by decide +kernel
theorem dX3_leastThatWins_93 : decode cX3_leastThatWins 93 = .ok (.aload_n 0, 1) := by decide +kernel
theorem dX3_leastThatWins_94 : decode cX3_leastThatWins 94 = .ok (.iload_n 2, 1) := by decide +kernel
theorem dX3_leastThatWins_95 : decode cX3_leastThatWins 95 = .ok (.iload_n 1, 1) := by decide +kernel
theorem dX3_leastThatWins_96 : decode cX3_leastThatWins 96 = .ok (.iconst 1, 1) := by decide +kernel
theorem dX3_leastThatWins_97 : decode cX3_leastThatWins 97 = .ok (.if_icmp .le 7, 3) := by decide +kernel
theorem dX3_leastThatWins_100 : decode cX3_leastThatWins 100 = .ok (.iload_n 2, 1) := by decide +kernel
theorem dX3_leastThatWins_101 : decode cX3_leastThatWins 101 = .ok (.goto 4, 3) := by decide +kernel
theorem dX3_leastThatWins_104 : decode cX3_leastThatWins 104 = .ok (.iconst 0, 1) := by decide +kernel
theorem dX3_leastThatWins_105 : decode cX3_leastThatWins 105 = .ok (.iload_n 1, 1) := by decide +kernel
theorem dX3_leastThatWins_106 : decode cX3_leastThatWins 106 = .ok (.iconst 2, 1) := by decide +kernel
theorem dX3_leastThatWins_107 : decode cX3_leastThatWins 107 = .ok (.if_icmp .le 7, 3) := by decide +kernel
theorem dX3_leastThatWins_110 : decode cX3_leastThatWins 110 = .ok (.iload_n 2, 1) := by decide +kernel
theorem dX3_leastThatWins_111 : decode cX3_leastThatWins 111 = .ok (.goto 4, 3) := by decide +kernel
theorem dX3_leastThatWins_114 : decode cX3_leastThatWins 114 = .ok (.iconst 0, 1) := by decide +kernel
theorem dX3_leastThatWins_115 : decode cX3_leastThatWins 115 = .ok (.invokevirtual 19, 3) := by decide +kernel
theorem dX3_leastThatWins_118 : decode cX3_leastThatWins 118 = .ok (.aload_n 0, 1) := by decide +kernel
theorem dX3_leastThatWins_119 : decode cX3_leastThatWins 119 = .ok (.invokevirtual 23, 3) := by decide +kernel
theorem dX3_leastThatWins_122 : decode cX3_leastThatWins 122 = .ok (.ireturn, 1) := by decide +kernel
theorem dX3_leave_0 : decode cX3_leave 0 = .ok (.aload_n 0, 1) := by decide +kernel
theorem dX3_leave_1 : decode cX3_leave 1 = .ok (.getfield 15, 3) := by decide +kernel
theorem dX3_leave_4 : decode cX3_leave 4 = .ok (.iconst 0, 1) := by decide +kernel
theorem dX3_leave_5 : decode cX3_leave 5 = .ok (.iload_n 1, 1) := by decide +kernel
theorem dX3_leave_6 : decode cX3_leave 6 = .ok (.iastore, 1) := by decide +kernel
theorem dX3_leave_7 : decode cX3_leave 7 = .ok (.aload_n 0, 1) := by decide +kernel
theorem dX3_leave_8 : decode cX3_leave 8 = .ok (.getfield 15, 3) := by decide +kernel
theorem dX3_leave_11 : decode cX3_leave 11 = .ok (.iconst 1, 1) := by decide +kernel
theorem dX3_leave_12 : decode cX3_leave 12 = .ok (.iload_n 2, 1) := by decide +kernel
theorem dX3_leave_13 : decode cX3_leave 13 = .ok (.iastore, 1) := by decide +kernel
theorem dX3_leave_14 : decode cX3_leave 14 = .ok (.aload_n 0, 1) := by decide +kernel
theorem dX3_leave_15 : decode cX3_leave 15 = .ok (.getfield 15, 3) := by decide +kernel
theorem dX3_leave_18 : decode cX3_leave 18 = .ok (.iconst 2, 1) := by decide +kernel
theorem dX3_leave_19 : decode cX3_leave 19 = .ok (.iload_n 3, 1) := by decide +kernel
theorem dX3_leave_20 : decode cX3_leave 20 = .ok (.iastore, 1) := by decide +kernel
theorem dX3_leave_21 : decode cX3_leave 21 = .ok (.return_, 1) := by decide +kernel
theorem dX3_setWins_0 : decode cX3_setWins 0 = .ok (.aload_n 0, 1) := by decide +kernel
theorem dX3_setWins_1 : decode cX3_setWins 1 = .ok (.iconst 3, 1) := by decide +kernel
theorem dX3_setWins_2 : decode cX3_setWins 2 = .ok (.iconst 0, 1) := by decide +kernel
theorem dX3_setWins_3 : decode cX3_setWins 3 = .ok (.invokevirtual 31, 3) := by decide +kernel
theorem dX3_setWins_6 : decode cX3_setWins 6 = .ok (.istore_n 2, 1) := by decide +kernel
theorem dX3_setWins_7 : decode cX3_setWins 7 = .ok (.iload_n 2, 1) := by decide +kernel
theorem dX3_setWins_8 : decode cX3_setWins 8 = .ok (.iconst 0, 1) := by decide +kernel
theorem dX3_setWins_9 : decode cX3_setWins 9 = .ok (.aload_n 0, 1) := by decide +kernel
theorem dX3_setWins_10 : decode cX3_setWins 10 = .ok (.getfield 9, 3) := by decide +kernel
theorem dX3_setWins_13 : decode cX3_setWins 13 = .ok (.arraylength, 1) := by decide +kernel
theorem dX3_setWins_14 : decode cX3_setWins 14 = .ok (.iconst 1, 1) := by decide +kernel
theorem dX3_setWins_15 : decode cX3_setWins 15 = .ok (.isub, 1) := by decide +kernel
theorem dX3_setWins_16 : decode cX3_setWins 16 = .ok (.invokestatic 35, 3) := by decide +kernel
theorem dX3_setWins_19 : decode cX3_setWins 19 = .ok (.ifCond .eq 10, 3) := by decide +kernel
theorem dX3_setWins_22 : decode cX3_setWins 22 = .ok (.aload_n 0, 1) := by decide +kernel
theorem dX3_setWins_23 : decode cX3_setWins 23 = .ok (.getfield 9, 3) := by decide +kernel
theorem dX3_setWins_26 : decode cX3_setWins 26 = .ok (.iload_n 2, 1) := by decide +kernel
theorem dX3_setWins_27 : decode cX3_setWins 27 = .ok (.iload_n 1, 1) := by decide +kernel
theorem dX3_setWins_28 : decode cX3_setWins 28 = .ok (.bastore, 1) := by decide +kernel
theorem dX3_setWins_29 : decode cX3_setWins 29 = .ok (.return_, 1) := by decide +kernel
theorem dX3_winningPiece_0 : decode cX3_winningPiece 0 = .ok (.iconst 0, 1) := by decide +kernel
theorem dX3_winningPiece_1 : decode cX3_winningPiece 1 = .ok (.istore_n 1, 1) := by decide +kernel
theorem dX3_winningPiece_2 : decode cX3_winningPiece 2 = .ok (.iload_n 1, 1) := by decide +kernel
theorem dX3_winningPiece_3 : decode cX3_winningPiece 3 = .ok (.iconst 3, 1) := by decide +kernel
theorem dX3_winningPiece_4 : decode cX3_winningPiece 4 = .ok (.if_icmp .ge 65, 3) := by decide +kernel
theorem dX3_winningPiece_7 : decode cX3_winningPiece 7 = .ok (.iconst 0, 1) := by decide +kernel
theorem dX3_winningPiece_8 : decode cX3_winningPiece 8 = .ok (.istore_n 2, 1) := by decide +kernel
theorem dX3_winningPiece_9 : decode cX3_winningPiece 9 = .ok (.iload_n 2, 1) := by decide +kernel
theorem dX3_winningPiece_10 : decode cX3_winningPiece 10 = .ok (.aload_n 0, 1) := by decide +kernel
theorem dX3_winningPiece_11 : decode cX3_winningPiece 11 = .ok (.getfield 15, 3) := by decide +kernel
theorem dX3_winningPiece_14 : decode cX3_winningPiece 14 = .ok (.iload_n 1, 1) := by decide +kernel
theorem dX3_winningPiece_15 : decode cX3_winningPiece 15 = .ok (.iaload, 1) := by decide +kernel
theorem dX3_winningPiece_16 : decode cX3_winningPiece 16 = .ok (.if_icmp .ge 47, 3) := by decide +kernel
theorem dX3_winningPiece_19 : decode cX3_winningPiece 19 = .ok (.aload_n 0, 1) := by decide +kernel
theorem dX3_winningPiece_20 : decode cX3_winningPiece 20 = .ok (.iload_n 1, 1) := by decide +kernel
theorem dX3_winningPiece_21 : decode cX3_winningPiece 21 = .ok (.iload_n 2, 1) := by decide +kernel
theorem dX3_winningPiece_22 : decode cX3_winningPiece 22 = .ok (.invokevirtual 31, 3) := by decide +kernel
theorem dX3_winningPiece_25 : decode cX3_winningPiece 25 = .ok (.istore_n 3, 1) := by decide +kernel
theorem dX3_winningPiece_26 : decode cX3_winningPiece 26 = .ok (.iload_n 3, 1) := by decide +kernel
theorem dX3_winningPiece_27 : decode cX3_winningPiece 27 = .ok (.iconst 0, 1) := by decide +kernel
theorem dX3_winningPiece_28 : decode cX3_winningPiece 28 = .ok (.aload_n 0, 1) := by decide +kernel
theorem dX3_winningPiece_29 : decode cX3_winningPiece 29 = .ok (.getfield 9, 3) := by decide +kernel
theorem dX3_winningPiece_32 : decode cX3_winningPiece 32 = .ok (.arraylength, 1) := by decide +kernel
theorem dX3_winningPiece_33 : decode cX3_winningPiece 33 = .ok (.iconst 1, 1) := by decide +kernel
theorem dX3_winningPiece_34 : decode cX3_winningPiece 34 = .ok (.isub, 1) := by decide +kernel
theorem dX3_winningPiece_35 : decode cX3_winningPiece 35 = .ok (.invokestatic 35, 3) := by decide +kernel
theorem dX3_winningPiece_38 : decode cX3_winningPiece 38 = .ok (.ifCond .eq 19, 3) := by decide +kernel
theorem dX3_winningPiece_41 : decode cX3_winningPiece 41 = .ok (.aload_n 0, 1) := by decide +kernel
theorem dX3_winningPiece_42 : decode cX3_winningPiece 42 = .ok (.getfield 9, 3) := by decide +kernel
theorem dX3_winningPiece_45 : decode cX3_winningPiece 45 = .ok (.iload_n 3, 1) := by decide +kernel
theorem dX3_winningPiece_46 : decode cX3_winningPiece 46 = .ok (.baload, 1) := by decide +kernel
theorem dX3_winningPiece_47 : decode cX3_winningPiece 47 = .ok (.ifCond .ne 10, 3) := by decide +kernel
theorem dX3_winningPiece_50 : decode cX3_winningPiece 50 = .ok (.bipush 10, 2) := by decide +kernel
theorem dX3_winningPiece_52 : decode cX3_winningPiece 52 = .ok (.iload_n 1, 1) := by decide +kernel
theorem dX3_winningPiece_53 : decode cX3_winningPiece 53 = .ok (.imul, 1) := by decide +kernel
theorem dX3_winningPiece_54 : decode cX3_winningPiece 54 = .ok (.iload_n 2, 1) := by decide +kernel
theorem dX3_winningPiece_55 : decode cX3_winningPiece 55 = .ok (.iadd, 1) := by decide +kernel
theorem dX3_winningPiece_56 : decode cX3_winningPiece 56 = .ok (.ireturn, 1) := by decide +kernel
theorem dX3_winningPiece_57 : decode cX3_winningPiece 57 = .ok (.iinc 2 1, 3) := by decide +kernel
theorem dX3_winningPiece_60 : decode cX3_winningPiece 60 = .ok (.goto (-51), 3) := by decide +kernel
theorem dX3_winningPiece_63 : decode cX3_winningPiece 63 = .ok (.iinc 1 1, 3) := by decide +kernel
theorem dX3_winningPiece_66 : decode cX3_winningPiece 66 = .ok (.goto (-64), 3) := by decide +kernel
theorem dX3_winningPiece_69 : decode cX3_winningPiece 69 = .ok (.bipush (-2), 2) := by decide +kernel
theorem dX3_winningPiece_71 : decode cX3_winningPiece 71 = .ok (.ireturn, 1) := by decide +kernel
theorem dX3_indexBehind_0 : decode cX3_indexBehind 0 = .ok (.iconst 0, 1) := by decide +kernel
theorem dX3_indexBehind_1 : decode cX3_indexBehind 1 = .ok (.istore_n 3, 1) := by decide +kernel
theorem dX3_indexBehind_2 : decode cX3_indexBehind 2 = .ok (.iconst 0, 1) := by decide +kernel
theorem dX3_indexBehind_3 : decode cX3_indexBehind 3 = .ok (.istore 4, 2) := by decide +kernel
theorem dX3_indexBehind_5 : decode cX3_indexBehind 5 = .ok (.iload 4, 2) := by decide +kernel
theorem dX3_indexBehind_7 : decode cX3_indexBehind 7 = .ok (.iconst 3, 1) := by decide +kernel
theorem dX3_indexBehind_8 : decode cX3_indexBehind 8 = .ok (.if_icmp .ge 42, 3) := by decide +kernel
theorem dX3_indexBehind_11 : decode cX3_indexBehind 11 = .ok (.iload_n 3, 1) := by decide +kernel
theorem dX3_indexBehind_12 : decode cX3_indexBehind 12 = .ok (.bipush 8, 2) := by decide +kernel
theorem dX3_indexBehind_14 : decode cX3_indexBehind 14 = .ok (.imul, 1) := by decide +kernel
theorem dX3_indexBehind_15 : decode cX3_indexBehind 15 = .ok (.iload 4, 2) := by decide +kernel
theorem dX3_indexBehind_17 : decode cX3_indexBehind 17 = .ok (.iload_n 1, 1) := by decide +kernel
theorem dX3_indexBehind_18 : decode cX3_indexBehind 18 = .ok (.if_icmp .ge 13, 3) := by decide +kernel
theorem dX3_indexBehind_21 : decode cX3_indexBehind 21 = .ok (.aload_n 0, 1) := by decide +kernel
theorem dX3_indexBehind_22 : decode cX3_indexBehind 22 = .ok (.getfield 15, 3) := by decide +kernel
theorem dX3_indexBehind_25 : decode cX3_indexBehind 25 = .ok (.iload 4, 2) := by decide +kernel
theorem dX3_indexBehind_27 : decode cX3_indexBehind 27 = .ok (.iaload, 1) := by decide +kernel
theorem dX3_indexBehind_28 : decode cX3_indexBehind 28 = .ok (.goto 14, 3) := by decide +kernel
theorem dX3_indexBehind_31 : decode cX3_indexBehind 31 = .ok (.aload_n 0, 1) := by decide +kernel
theorem dX3_indexBehind_32 : decode cX3_indexBehind 32 = .ok (.getfield 15, 3) := by decide +kernel
theorem dX3_indexBehind_35 : decode cX3_indexBehind 35 = .ok (.iload 4, 2) := by decide +kernel
theorem dX3_indexBehind_37 : decode cX3_indexBehind 37 = .ok (.iaload, 1) := by decide +kernel
theorem dX3_indexBehind_38 : decode cX3_indexBehind 38 = .ok (.iload_n 2, 1) := by decide +kernel
theorem dX3_indexBehind_39 : decode cX3_indexBehind 39 = .ok (.invokestatic 39, 3) := by decide +kernel
theorem dX3_indexBehind_42 : decode cX3_indexBehind 42 = .ok (.iadd, 1) := by decide +kernel
theorem dX3_indexBehind_43 : decode cX3_indexBehind 43 = .ok (.istore_n 3, 1) := by decide +kernel
theorem dX3_indexBehind_44 : decode cX3_indexBehind 44 = .ok (.iinc 4 1, 3) := by decide +kernel
theorem dX3_indexBehind_47 : decode cX3_indexBehind 47 = .ok (.goto (-42), 3) := by decide +kernel
theorem dX3_indexBehind_50 : decode cX3_indexBehind 50 = .ok (.iload_n 3, 1) := by decide +kernel
theorem dX3_indexBehind_51 : decode cX3_indexBehind 51 = .ok (.ireturn, 1) := by decide +kernel
theorem dX4_init_0 : decode cX4_init 0 = .ok (.aload_n 0, 1) := by decide +kernel
theorem dX4_init_1 : decode cX4_init 1 = .ok (.invokespecial 1, 3) := by decide +kernel
theorem dX4_init_4 : decode cX4_init 4 = .ok (.aload_n 0, 1) := by decide +kernel
theorem dX4_init_5 : decode cX4_init 5 = .ok (.bipush 8, 2) := by decide +kernel
theorem dX4_init_7 : decode cX4_init 7 = .ok (.newarray .long, 2) := by decide +kernel
theorem dX4_init_9 : decode cX4_init 9 = .ok (.putfield 7, 3) := by decide +kernel
theorem dX4_init_12 : decode cX4_init 12 = .ok (.return_, 1) := by decide +kernel
theorem dX4_empty_0 : decode cX4_empty 0 = .ok (.aload_n 0, 1) := by decide +kernel
theorem dX4_empty_1 : decode cX4_empty 1 = .ok (.iconst 0, 1) := by decide +kernel
theorem dX4_empty_2 : decode cX4_empty 2 = .ok (.putfield 13, 3) := by decide +kernel
theorem dX4_empty_5 : decode cX4_empty 5 = .ok (.return_, 1) := by decide +kernel
theorem dX4_add_0 : decode cX4_add 0 = .ok (.aload_n 0, 1) := by decide +kernel
theorem dX4_add_1 : decode cX4_add 1 = .ok (.getfield 13, 3) := by decide +kernel
theorem dX4_add_4 : decode cX4_add 4 = .ok (.aload_n 0, 1) := by decide +kernel
theorem dX4_add_5 : decode cX4_add 5 = .ok (.getfield 7, 3) := by decide +kernel
theorem dX4_add_8 : decode cX4_add 8 = .ok (.arraylength, 1) := by decide +kernel
theorem dX4_add_9 : decode cX4_add 9 = .ok (.if_icmp .ge 24, 3) := by decide +kernel
theorem dX4_add_12 : decode cX4_add 12 = .ok (.aload_n 0, 1) := by decide +kernel
theorem dX4_add_13 : decode cX4_add 13 = .ok (.getfield 7, 3) := by decide +kernel
theorem dX4_add_16 : decode cX4_add 16 = .ok (.aload_n 0, 1) := by decide +kernel
theorem dX4_add_17 : decode cX4_add 17 = .ok (.getfield 13, 3) := by decide +kernel
theorem dX4_add_20 : decode cX4_add 20 = .ok (.iload_n 1, 1) := by decide +kernel
theorem dX4_add_21 : decode cX4_add 21 = .ok (.i2l, 1) := by decide +kernel
theorem dX4_add_22 : decode cX4_add 22 = .ok (.lastore, 1) := by decide +kernel
theorem dX4_add_23 : decode cX4_add 23 = .ok (.aload_n 0, 1) := by decide +kernel
theorem dX4_add_24 : decode cX4_add 24 = .ok (.dup, 1) := by decide +kernel
theorem dX4_add_25 : decode cX4_add 25 = .ok (.getfield 13, 3) := by decide +kernel
theorem dX4_add_28 : decode cX4_add 28 = .ok (.iconst 1, 1) := by decide +kernel
theorem dX4_add_29 : decode cX4_add 29 = .ok (.iadd, 1) := by decide +kernel
theorem dX4_add_30 : decode cX4_add 30 = .ok (.putfield 13, 3) := by decide +kernel
theorem dX4_add_33 : decode cX4_add 33 = .ok (.return_, 1) := by decide +kernel
theorem dX4_tell_0 : decode cX4_tell 0 = .ok (.aload_n 0, 1) := by decide +kernel
theorem dX4_tell_1 : decode cX4_tell 1 = .ok (.invokevirtual 17, 3) := by decide +kernel
theorem dX4_tell_4 : decode cX4_tell 4 = .ok (.aload_n 0, 1) := by decide +kernel
theorem dX4_tell_5 : decode cX4_tell 5 = .ok (.iload_n 1, 1) := by decide +kernel
theorem dX4_tell_6 : decode cX4_tell 6 = .ok (.invokevirtual 20, 3) := by decide +kernel
theorem dX4_tell_9 : decode cX4_tell 9 = .ok (.return_, 1) := by decide +kernel
theorem dX4_tell__0 : decode cX4_tell_ 0 = .ok (.aload_n 0, 1) := by decide +kernel
theorem dX4_tell__1 : decode cX4_tell_ 1 = .ok (.invokevirtual 17, 3) := by decide +kernel
theorem dX4_tell__4 : decode cX4_tell_ 4 = .ok (.aload_n 0, 1) := by decide +kernel
theorem dX4_tell__5 : decode cX4_tell_ 5 = .ok (.iload_n 1, 1) := by decide +kernel
theorem dX4_tell__6 : decode cX4_tell_ 6 = .ok (.invokevirtual 20, 3) := by decide +kernel
theorem dX4_tell__9 : decode cX4_tell_ 9 = .ok (.aload_n 0, 1) := by decide +kernel
theorem dX4_tell__10 : decode cX4_tell_ 10 = .ok (.iload_n 2, 1) := by decide +kernel
theorem dX4_tell__11 : decode cX4_tell_ 11 = .ok (.invokevirtual 20, 3) := by decide +kernel
theorem dX4_tell__14 : decode cX4_tell_ 14 = .ok (.return_, 1) := by decide +kernel
theorem dX4_tell___0 : decode cX4_tell__ 0 = .ok (.aload_n 0, 1) := by decide +kernel
theorem dX4_tell___1 : decode cX4_tell__ 1 = .ok (.invokevirtual 17, 3) := by decide +kernel
theorem dX4_tell___4 : decode cX4_tell__ 4 = .ok (.aload_n 0, 1) := by decide +kernel
theorem dX4_tell___5 : decode cX4_tell__ 5 = .ok (.iload_n 1, 1) := by decide +kernel
theorem dX4_tell___6 : decode cX4_tell__ 6 = .ok (.invokevirtual 20, 3) := by decide +kernel
theorem dX4_tell___9 : decode cX4_tell__ 9 = .ok (.aload_n 0, 1) := by decide +kernel
theorem dX4_tell___10 : decode cX4_tell__ 10 = .ok (.iload_n 2, 1) := by decide +kernel
theorem dX4_tell___11 : decode cX4_tell__ 11 = .ok (.invokevirtual 20, 3) := by decide +kernel
theorem dX4_tell___14 : decode cX4_tell__ 14 = .ok (.aload_n 0, 1) := by decide +kernel
theorem dX4_tell___15 : decode cX4_tell__ 15 = .ok (.iload_n 3, 1) := by decide +kernel
theorem dX4_tell___16 : decode cX4_tell__ 16 = .ok (.invokevirtual 20, 3) := by decide +kernel
theorem dX4_tell___19 : decode cX4_tell__ 19 = .ok (.return_, 1) := by decide +kernel
theorem dX4_tell____0 : decode cX4_tell___ 0 = .ok (.aload_n 0, 1) := by decide +kernel
theorem dX4_tell____1 : decode cX4_tell___ 1 = .ok (.invokevirtual 17, 3) := by decide +kernel
theorem dX4_tell____4 : decode cX4_tell___ 4 = .ok (.aload_n 0, 1) := by decide +kernel
theorem dX4_tell____5 : decode cX4_tell___ 5 = .ok (.iload_n 1, 1) := by decide +kernel
theorem dX4_tell____6 : decode cX4_tell___ 6 = .ok (.invokevirtual 20, 3) := by decide +kernel
theorem dX4_tell____9 : decode cX4_tell___ 9 = .ok (.aload_n 0, 1) := by decide +kernel
theorem dX4_tell____10 : decode cX4_tell___ 10 = .ok (.iload_n 2, 1) := by decide +kernel
theorem dX4_tell____11 : decode cX4_tell___ 11 = .ok (.invokevirtual 20, 3) := by decide +kernel
theorem dX4_tell____14 : decode cX4_tell___ 14 = .ok (.aload_n 0, 1) := by decide +kernel
theorem dX4_tell____15 : decode cX4_tell___ 15 = .ok (.iload_n 3, 1) := by decide +kernel
theorem dX4_tell____16 : decode cX4_tell___ 16 = .ok (.invokevirtual 20, 3) := by decide +kernel
theorem dX4_tell____19 : decode cX4_tell___ 19 = .ok (.aload_n 0, 1) := by decide +kernel
theorem dX4_tell____20 : decode cX4_tell___ 20 = .ok (.iload 4, 2) := by decide +kernel
theorem dX4_tell____22 : decode cX4_tell___ 22 = .ok (.invokevirtual 20, 3) := by decide +kernel
theorem dX4_tell____25 : decode cX4_tell___ 25 = .ok (.return_, 1) := by decide +kernel
theorem dX5_init_0 : decode cX5_init 0 = .ok (.aload_n 0, 1) := by decide +kernel
theorem dX5_init_1 : decode cX5_init 1 = .ok (.invokespecial 3, 3) := by decide +kernel
theorem dX5_init_4 : decode cX5_init 4 = .ok (.aload_n 0, 1) := by decide +kernel
theorem dX5_init_5 : decode cX5_init 5 = .ok (.bipush 40, 2) := by decide +kernel
theorem dX5_init_7 : decode cX5_init 7 = .ok (.newarray .int, 2) := by decide +kernel
theorem dX5_init_9 : decode cX5_init 9 = .ok (.putfield 11, 3) := by decide +kernel
theorem dX5_init_12 : decode cX5_init 12 = .ok (.aload_n 0, 1) := by decide +kernel
theorem dX5_init_13 : decode cX5_init 13 = .ok (.bipush 40, 2) := by decide +kernel
theorem dX5_init_15 : decode cX5_init 15 = .ok (.newarray .int, 2) := by decide +kernel
theorem dX5_init_17 : decode cX5_init 17 = .ok (.putfield 15, 3) := by decide +kernel
theorem dX5_init_20 : decode cX5_init 20 = .ok (.aload_n 0, 1) := by decide +kernel
theorem dX5_init_21 : decode cX5_init 21 = .ok (.bipush 40, 2) := by decide +kernel
theorem dX5_init_23 : decode cX5_init 23 = .ok (.newarray .int, 2) := by decide +kernel
theorem dX5_init_25 : decode cX5_init 25 = .ok (.putfield 18, 3) := by decide +kernel
theorem dX5_init_28 : decode cX5_init 28 = .ok (.aload_n 0, 1) := by decide +kernel
theorem dX5_init_29 : decode cX5_init 29 = .ok (.iconst 5, 1) := by decide +kernel
theorem dX5_init_30 : decode cX5_init 30 = .ok (.newarray .boolean, 2) := by decide +kernel
theorem dX5_init_32 : decode cX5_init 32 = .ok (.putfield 21, 3) := by decide +kernel
theorem dX5_init_35 : decode cX5_init 35 = .ok (.aload_n 0, 1) := by decide +kernel
theorem dX5_init_36 : decode cX5_init 36 = .ok (.invokevirtual 25, 3) := by decide +kernel
theorem dX5_init_39 : decode cX5_init 39 = .ok (.return_, 1) := by decide +kernel
theorem dX5_read_0 : decode cX5_read 0 = .ok (.aload_n 1, 1) := by decide +kernel
theorem dX5_read_1 : decode cX5_read 1 = .ok (.getfield 28, 3) := by decide +kernel
theorem dX5_read_4 : decode cX5_read 4 = .ok (.ifCond .ne 9, 3) := by decide +kernel
theorem dX5_read_7 : decode cX5_read 7 = .ok (.aload_n 0, 1) := by decide +kernel
theorem dX5_read_8 : decode cX5_read 8 = .ok (.invokevirtual 25, 3) := by decide +kernel
theorem dX5_read_11 : decode cX5_read 11 = .ok (.iconst (-1), 1) := by decide +kernel
theorem dX5_read_12 : decode cX5_read 12 = .ok (.ireturn, 1) := by decide +kernel
theorem dX5_read_13 : decode cX5_read 13 = .ok (.aload_n 0, 1) := by decide +kernel
theorem dX5_read_14 : decode cX5_read 14 = .ok (.invokevirtual 34, 3) := by decide +kernel
theorem dX5_read_17 : decode cX5_read 17 = .ok (.iconst 0, 1) := by decide +kernel
theorem dX5_read_18 : decode cX5_read 18 = .ok (.istore_n 2, 1) := by decide +kernel
theorem dX5_read_19 : decode cX5_read 19 = .ok (.iload_n 2, 1) := by decide +kernel
theorem dX5_read_20 : decode cX5_read 20 = .ok (.aload_n 1, 1) := by decide +kernel
theorem dX5_read_21 : decode cX5_read 21 = .ok (.getfield 28, 3) := by decide +kernel
theorem dX5_read_24 : decode cX5_read 24 = .ok (.if_icmp .ge 61, 3) := by decide +kernel
theorem dX5_read_27 : decode cX5_read 27 = .ok (.iload_n 2, 1) := by decide +kernel
theorem dX5_read_28 : decode cX5_read 28 = .ok (.bipush 40, 2) := by decide +kernel
theorem dX5_read_30 : decode cX5_read 30 = .ok (.if_icmp .ge 41, 3) := by decide +kernel
theorem dX5_read_33 : decode cX5_read 33 = .ok (.aload_n 0, 1) := by decide +kernel
theorem dX5_read_34 : decode cX5_read 34 = .ok (.getfield 37, 3) := by decide +kernel
theorem dX5_read_37 : decode cX5_read 37 = .ok (.ifCond .eq 18, 3) := by decide +kernel
theorem dX5_read_40 : decode cX5_read 40 = .ok (.aload_n 0, 1) := by decide +kernel
theorem dX5_read_41 : decode cX5_read 41 = .ok (.aload_n 1, 1) := by decide +kernel
theorem dX5_read_42 : decode cX5_read 42 = .ok (.iload_n 2, 1) := by decide +kernel
theorem dX5_read_43 : decode cX5_read 43 = .ok (.invokevirtual 41, 3) := by decide +kernel
theorem dX5_read_46 : decode cX5_read 46 = .ok (.invokevirtual 45, 3) := by decide +kernel
theorem dX5_read_49 : decode cX5_read 49 = .ok (.ifCond .eq 22, 3) := by decide +kernel
theorem dX5_read_52 : decode cX5_read 52 = .ok (.goto 15, 3) := by decide +kernel
theorem dX5_read_55 : decode cX5_read 55 = .ok (.aload_n 0, 1) := by decide +kernel
theorem dX5_read_56 : decode cX5_read 56 = .ok (.aload_n 1, 1) := by decide +kernel
theorem dX5_read_57 : decode cX5_read 57 = .ok (.iload_n 2, 1) := by decide +kernel
theorem dX5_read_58 : decode cX5_read 58 = .ok (.invokevirtual 41, 3) := by decide +kernel
theorem dX5_read_61 : decode cX5_read 61 = .ok (.invokevirtual 49, 3) := by decide +kernel
theorem dX5_read_64 : decode cX5_read 64 = .ok (.ifCond .eq 7, 3) := by decide +kernel
theorem dX5_read_67 : decode cX5_read 67 = .ok (.iconst 1, 1) := by decide +kernel
theorem dX5_read_68 : decode cX5_read 68 = .ok (.goto 4, 3) := by decide +kernel
theorem dX5_read_71 : decode cX5_read 71 = .ok (.iconst 0, 1) := by decide +kernel
theorem dX5_read_72 : decode cX5_read 72 = .ok (.istore_n 3, 1) := by decide +kernel
theorem dX5_read_73 : decode cX5_read 73 = .ok (.iload_n 3, 1) := by decide +kernel
theorem dX5_read_74 : decode cX5_read 74 = .ok (.ifCond .ne 5, 3) := by decide +kernel
theorem dX5_read_77 : decode cX5_read 77 = .ok (.iload_n 2, 1) := by decide +kernel
theorem dX5_read_78 : decode cX5_read 78 = .ok (.ireturn, 1) := by decide +kernel
theorem dX5_read_79 : decode cX5_read 79 = .ok (.iinc 2 1, 3) := by decide +kernel
theorem dX5_read_82 : decode cX5_read 82 = .ok (.goto (-63), 3) := by decide +kernel
theorem dX5_read_85 : decode cX5_read 85 = .ok (.aload_n 0, 1) := by decide +kernel
theorem dX5_read_86 : decode cX5_read 86 = .ok (.iconst 0, 1) := by decide +kernel
theorem dX5_read_87 : decode cX5_read 87 = .ok (.invokevirtual 52, 3) := by decide +kernel
theorem dX5_read_90 : decode cX5_read 90 = .ok (.aload_n 0, 1) := by decide +kernel
theorem dX5_read_91 : decode cX5_read 91 = .ok (.getfield 37, 3) := by decide +kernel
theorem dX5_read_94 : decode cX5_read 94 = .ok (.ifCond .ne 10, 3) := by decide +kernel
theorem dX5_read_97 : decode cX5_read 97 = .ok (.aload_n 0, 1) := by decide +kernel
theorem dX5_read_98 : decode cX5_read 98 = .ok (.getfield 56, 3) := by decide +kernel
theorem dX5_read_101 : decode cX5_read 101 = .ok (.ifCond .le 10, 3) := by decide +kernel
theorem dX5_read_104 : decode cX5_read 104 = .ok (.aload_n 1, 1) := by decide +kernel
theorem dX5_read_105 : decode cX5_read 105 = .ok (.getfield 28, 3) := by decide +kernel
theorem dX5_read_108 : decode cX5_read 108 = .ok (.goto 4, 3) := by decide +kernel
theorem dX5_read_111 : decode cX5_read 111 = .ok (.iconst (-1), 1) := by decide +kernel
theorem dX5_read_112 : decode cX5_read 112 = .ok (.ireturn, 1) := by decide +kernel
theorem dX5_valueBy_0 : decode cX5_valueBy 0 = .ok (.iconst 0, 1) := by decide +kernel
theorem dX5_valueBy_1 : decode cX5_valueBy 1 = .ok (.istore_n 2, 1) := by decide +kernel
theorem dX5_valueBy_2 : decode cX5_valueBy 2 = .ok (.iconst 0, 1) := by decide +kernel
theorem dX5_valueBy_3 : decode cX5_valueBy 3 = .ok (.istore_n 3, 1) := by decide +kernel
theorem dX5_valueBy_4 : decode cX5_valueBy 4 = .ok (.iload_n 3, 1) := by decide +kernel
theorem dX5_valueBy_5 : decode cX5_valueBy 5 = .ok (.aload_n 0, 1) := by decide +kernel
theorem dX5_valueBy_6 : decode cX5_valueBy 6 = .ok (.getfield 59, 3) := by decide +kernel
theorem dX5_valueBy_9 : decode cX5_valueBy 9 = .ok (.if_icmp .ge 133, 3) := by decide +kernel
theorem dX5_valueBy_12 : decode cX5_valueBy 12 = .ok (.aload_n 0, 1) := by decide +kernel
theorem dX5_valueBy_13 : decode cX5_valueBy 13 = .ok (.getfield 11, 3) := by decide +kernel
theorem dX5_valueBy_16 : decode cX5_valueBy 16 = .ok (.iload_n 3, 1) := by decide +kernel
theorem dX5_valueBy_17 : decode cX5_valueBy 17 = .ok (.iaload, 1) := by decide +kernel
theorem dX5_valueBy_18 : decode cX5_valueBy 18 = .ok (.istore 4, 2) := by decide +kernel
theorem dX5_valueBy_20 : decode cX5_valueBy 20 = .ok (.iconst (-1), 1) := by decide +kernel
theorem dX5_valueBy_21 : decode cX5_valueBy 21 = .ok (.iload 4, 2) := by decide +kernel
theorem dX5_valueBy_23 : decode cX5_valueBy 23 = .ok (.isub, 1) := by decide +kernel
theorem dX5_valueBy_24 : decode cX5_valueBy 24 = .ok (.istore 5, 2) := by decide +kernel
theorem dX5_valueBy_26 : decode cX5_valueBy 26 = .ok (.iconst 0, 1) := by decide +kernel
theorem dX5_valueBy_27 : decode cX5_valueBy 27 = .ok (.istore 6, 2) := by decide +kernel
theorem dX5_valueBy_29 : decode cX5_valueBy 29 = .ok (.iload 4, 2) := by decide +kernel
theorem dX5_valueBy_31 : decode cX5_valueBy 31 = .ok (.ifCond .lt 10, 3) := by decide +kernel
theorem dX5_valueBy_34 : decode cX5_valueBy 34 = .ok (.iload 4, 2) := by decide +kernel
theorem dX5_valueBy_36 : decode cX5_valueBy 36 = .ok (.istore 6, 2) := by decide +kernel
theorem dX5_valueBy_38 : decode cX5_valueBy 38 = .ok (.goto 78, 3) := by decide +kernel
theorem dX5_valueBy_41 : decode cX5_valueBy 41 = .ok (.iload 5, 2) := by decide +kernel
theorem dX5_valueBy_43 : decode cX5_valueBy 43 = .ok (.aload_n 1, 1) := by decide +kernel
theorem dX5_valueBy_44 : decode cX5_valueBy 44 = .ok (.arraylength, 1) := by decide +kernel
theorem dX5_valueBy_45 : decode cX5_valueBy 45 = .ok (.if_icmp .ge 12, 3) := by decide +kernel
theorem dX5_valueBy_48 : decode cX5_valueBy 48 = .ok (.aload_n 1, 1) := by decide +kernel
theorem dX5_valueBy_49 : decode cX5_valueBy 49 = .ok (.iload 5, 2) := by decide +kernel
theorem dX5_valueBy_51 : decode cX5_valueBy 51 = .ok (.iaload, 1) := by decide +kernel
theorem dX5_valueBy_52 : decode cX5_valueBy 52 = .ok (.istore 6, 2) := by decide +kernel
theorem dX5_valueBy_54 : decode cX5_valueBy 54 = .ok (.goto 62, 3) := by decide +kernel
theorem dX5_valueBy_57 : decode cX5_valueBy 57 = .ok (.iload 4, 2) := by decide +kernel
theorem dX5_valueBy_59 : decode cX5_valueBy 59 = .ok (.sipush (-356), 3) := by decide +kernel
theorem dX5_valueBy_62 : decode cX5_valueBy 62 = .ok (.if_icmp .ne 22, 3) := by decide +kernel
theorem dX5_valueBy_65 : decode cX5_valueBy 65 = .ok (.iload_n 2, 1) := by decide +kernel
theorem dX5_valueBy_66 : decode cX5_valueBy 66 = .ok (.ifCond .le 18, 3) := by decide +kernel
theorem dX5_valueBy_69 : decode cX5_valueBy 69 = .ok (.iinc 2 (-1), 3) := by decide +kernel
theorem dX5_valueBy_72 : decode cX5_valueBy 72 = .ok (.aload_n 0, 1) := by decide +kernel
theorem dX5_valueBy_73 : decode cX5_valueBy 73 = .ok (.getfield 18, 3) := by decide +kernel
theorem dX5_valueBy_76 : decode cX5_valueBy 76 = .ok (.iload_n 2, 1) := by decide +kernel
theorem dX5_valueBy_77 : decode cX5_valueBy 77 = .ok (.iaload, 1) := by decide +kernel
theorem dX5_valueBy_78 : decode cX5_valueBy 78 = .ok (.ineg, 1) := by decide +kernel
theorem dX5_valueBy_79 : decode cX5_valueBy 79 = .ok (.istore 6, 2) := by decide +kernel
theorem dX5_valueBy_81 : decode cX5_valueBy 81 = .ok (.goto 35, 3) := by decide +kernel
theorem dX5_valueBy_84 : decode cX5_valueBy 84 = .ok (.iload_n 2, 1) := by decide +kernel
theorem dX5_valueBy_85 : decode cX5_valueBy 85 = .ok (.iconst 1, 1) := by decide +kernel
theorem dX5_valueBy_86 : decode cX5_valueBy 86 = .ok (.if_icmp .le 30, 3) := by decide +kernel
theorem dX5_valueBy_89 : decode cX5_valueBy 89 = .ok (.iinc 2 (-2), 3) := by decide +kernel
theorem dX5_valueBy_92 : decode cX5_valueBy 92 = .ok (.bipush (-100), 2) := by decide +kernel
theorem dX5_valueBy_94 : decode cX5_valueBy 94 = .ok (.iload 4, 2) := by decide +kernel
theorem dX5_valueBy_96 : decode cX5_valueBy 96 = .ok (.isub, 1) := by decide +kernel
theorem dX5_valueBy_97 : decode cX5_valueBy 97 = .ok (.aload_n 0, 1) := by decide +kernel
theorem dX5_valueBy_98 : decode cX5_valueBy 98 = .ok (.getfield 18, 3) := by decide +kernel
theorem dX5_valueBy_101 : decode cX5_valueBy 101 = .ok (.iload_n 2, 1) := by decide +kernel
theorem dX5_valueBy_102 : decode cX5_valueBy 102 = .ok (.iaload, 1) := by decide +kernel
theorem dX5_valueBy_103 : decode cX5_valueBy 103 = .ok (.aload_n 0, 1) := by decide +kernel
theorem dX5_valueBy_104 : decode cX5_valueBy 104 = .ok (.getfield 18, 3) := by decide +kernel
theorem dX5_valueBy_107 : decode cX5_valueBy 107 = .ok (.iload_n 2, 1) := by decide +kernel
theorem dX5_valueBy_108 : decode cX5_valueBy 108 = .ok (.iconst 1, 1) := by decide +kernel
theorem dX5_valueBy_109 : decode cX5_valueBy 109 = .ok (.iadd, 1) := by decide +kernel
theorem dX5_valueBy_110 : decode cX5_valueBy 110 = .ok (.iaload, 1) := by decide +kernel
theorem dX5_valueBy_111 : decode cX5_valueBy 111 = .ok (.invokestatic 60, 3) := by decide +kernel
theorem dX5_valueBy_114 : decode cX5_valueBy 114 = .ok (.istore 6, 2) := by decide +kernel
theorem dX5_valueBy_116 : decode cX5_valueBy 116 = .ok (.iload_n 2, 1) := by decide +kernel
theorem dX5_valueBy_117 : decode cX5_valueBy 117 = .ok (.aload_n 0, 1) := by decide +kernel
theorem dX5_valueBy_118 : decode cX5_valueBy 118 = .ok (.getfield 18, 3) := by decide +kernel
theorem dX5_valueBy_121 : decode cX5_valueBy 121 = .ok (.arraylength, 1) := by decide +kernel
theorem dX5_valueBy_122 : decode cX5_valueBy 122 = .ok (.if_icmp .ge 14, 3) := by decide +kernel
theorem dX5_valueBy_125 : decode cX5_valueBy 125 = .ok (.aload_n 0, 1) := by decide +kernel
theorem dX5_valueBy_126 : decode cX5_valueBy 126 = .ok (.getfield 18, 3) := by decide +kernel
theorem dX5_valueBy_129 : decode cX5_valueBy 129 = .ok (.iload_n 2, 1) := by decide +kernel
theorem dX5_valueBy_130 : decode cX5_valueBy 130 = .ok (.iload 6, 2) := by decide +kernel
theorem dX5_valueBy_132 : decode cX5_valueBy 132 = .ok (.iastore, 1) := by decide +kernel
theorem dX5_valueBy_133 : decode cX5_valueBy 133 = .ok (.iinc 2 1, 3) := by decide +kernel
theorem dX5_valueBy_136 : decode cX5_valueBy 136 = .ok (.iinc 3 1, 3) := by decide +kernel
theorem dX5_valueBy_139 : decode cX5_valueBy 139 = .ok (.goto (-135), 3) := by decide +kernel
theorem dX5_valueBy_142 : decode cX5_valueBy 142 = .ok (.iload_n 2, 1) := by decide +kernel
theorem dX5_valueBy_143 : decode cX5_valueBy 143 = .ok (.ifCond .le 14, 3) := by decide +kernel
theorem dX5_valueBy_146 : decode cX5_valueBy 146 = .ok (.aload_n 0, 1) := by decide +kernel
theorem dX5_valueBy_147 : decode cX5_valueBy 147 = .ok (.getfield 18, 3) := by decide +kernel
theorem dX5_valueBy_150 : decode cX5_valueBy 150 = .ok (.iload_n 2, 1) := by decide +kernel
theorem dX5_valueBy_151 : decode cX5_valueBy 151 = .ok (.iconst 1, 1) := by decide +kernel
theorem dX5_valueBy_152 : decode cX5_valueBy 152 = .ok (.isub, 1) := by decide +kernel
theorem dX5_valueBy_153 : decode cX5_valueBy 153 = .ok (.iaload, 1) := by decide +kernel
theorem dX5_valueBy_154 : decode cX5_valueBy 154 = .ok (.goto 4, 3) := by decide +kernel
theorem dX5_valueBy_157 : decode cX5_valueBy 157 = .ok (.iconst 0, 1) := by decide +kernel
theorem dX5_valueBy_158 : decode cX5_valueBy 158 = .ok (.ireturn, 1) := by decide +kernel
theorem dX5_begin_0 : decode cX5_begin 0 = .ok (.aload_n 0, 1) := by decide +kernel
theorem dX5_begin_1 : decode cX5_begin 1 = .ok (.iconst 0, 1) := by decide +kernel
theorem dX5_begin_2 : decode cX5_begin 2 = .ok (.putfield 59, 3) := by decide +kernel
theorem dX5_begin_5 : decode cX5_begin 5 = .ok (.aload_n 0, 1) := by decide +kernel
theorem dX5_begin_6 : decode cX5_begin 6 = .ok (.iconst 0, 1) := by decide +kernel
theorem dX5_begin_7 : decode cX5_begin 7 = .ok (.putfield 64, 3) := by decide +kernel
theorem dX5_begin_10 : decode cX5_begin 10 = .ok (.aload_n 0, 1) := by decide +kernel
theorem dX5_begin_11 : decode cX5_begin 11 = .ok (.iconst 0, 1) := by decide +kernel
theorem dX5_begin_12 : decode cX5_begin 12 = .ok (.putfield 56, 3) := by decide +kernel
theorem dX5_begin_15 : decode cX5_begin 15 = .ok (.aload_n 0, 1) := by decide +kernel
theorem dX5_begin_16 : decode cX5_begin 16 = .ok (.iconst 0, 1) := by decide +kernel
theorem dX5_begin_17 : decode cX5_begin 17 = .ok (.putfield 67, 3) := by decide +kernel
theorem dX5_begin_20 : decode cX5_begin 20 = .ok (.aload_n 0, 1) := by decide +kernel
theorem dX5_begin_21 : decode cX5_begin 21 = .ok (.iconst 1, 1) := by decide +kernel
theorem dX5_begin_22 : decode cX5_begin 22 = .ok (.putfield 37, 3) := by decide +kernel
theorem dX5_begin_25 : decode cX5_begin 25 = .ok (.aload_n 0, 1) := by decide +kernel
theorem dX5_begin_26 : decode cX5_begin 26 = .ok (.iconst 0, 1) := by decide +kernel
theorem dX5_begin_27 : decode cX5_begin 27 = .ok (.putfield 70, 3) := by decide +kernel
theorem dX5_begin_30 : decode cX5_begin 30 = .ok (.aload_n 0, 1) := by decide +kernel
theorem dX5_begin_31 : decode cX5_begin 31 = .ok (.iconst 0, 1) := by decide +kernel
theorem dX5_begin_32 : decode cX5_begin 32 = .ok (.putfield 73, 3) := by decide +kernel
theorem dX5_begin_35 : decode cX5_begin 35 = .ok (.aload_n 0, 1) := by decide +kernel
theorem dX5_begin_36 : decode cX5_begin 36 = .ok (.getfield 21, 3) := by decide +kernel
theorem dX5_begin_39 : decode cX5_begin 39 = .ok (.iconst 0, 1) := by decide +kernel
theorem dX5_begin_40 : decode cX5_begin 40 = .ok (.iconst 0, 1) := by decide +kernel
theorem dX5_begin_41 : decode cX5_begin 41 = .ok (.bastore, 1) := by decide +kernel
theorem dX5_begin_42 : decode cX5_begin 42 = .ok (.return_, 1) := by decide +kernel
theorem dX5_beThePlainOne_0 : decode cX5_beThePlainOne 0 = .ok (.aload_n 0, 1) := by decide +kernel
theorem dX5_beThePlainOne_1 : decode cX5_beThePlainOne 1 = .ok (.invokevirtual 34, 3) := by decide +kernel
theorem dX5_beThePlainOne_4 : decode cX5_beThePlainOne 4 = .ok (.aload_n 0, 1) := by decide +kernel
theorem dX5_beThePlainOne_5 : decode cX5_beThePlainOne 5 = .ok (.bipush 103, 2) := by decide +kernel
theorem dX5_beThePlainOne_7 : decode cX5_beThePlainOne 7 = .ok (.invokevirtual 45, 3) := by decide +kernel
theorem dX5_beThePlainOne_10 : decode cX5_beThePlainOne 10 = .ok (.pop, 1) := by decide +kernel
theorem dX5_beThePlainOne_11 : decode cX5_beThePlainOne 11 = .ok (.aload_n 0, 1) := by decide +kernel
theorem dX5_beThePlainOne_12 : decode cX5_beThePlainOne 12 = .ok (.bipush 43, 2) := by decide +kernel
theorem dX5_beThePlainOne_14 : decode cX5_beThePlainOne 14 = .ok (.invokevirtual 49, 3) := by decide +kernel
theorem dX5_beThePlainOne_17 : decode cX5_beThePlainOne 17 = .ok (.pop, 1) := by decide +kernel
theorem dX5_beThePlainOne_18 : decode cX5_beThePlainOne 18 = .ok (.aload_n 0, 1) := by decide +kernel
theorem dX5_beThePlainOne_19 : decode cX5_beThePlainOne 19 = .ok (.bipush 116, 2) := by decide +kernel
theorem dX5_beThePlainOne_21 : decode cX5_beThePlainOne 21 = .ok (.invokevirtual 45, 3) := by decide +kernel
theorem dX5_beThePlainOne_24 : decode cX5_beThePlainOne 24 = .ok (.pop, 1) := by decide +kernel
theorem dX5_beThePlainOne_25 : decode cX5_beThePlainOne 25 = .ok (.aload_n 0, 1) := by decide +kernel
theorem dX5_beThePlainOne_26 : decode cX5_beThePlainOne 26 = .ok (.iconst 0, 1) := by decide +kernel
theorem dX5_beThePlainOne_27 : decode cX5_beThePlainOne 27 = .ok (.invokevirtual 52, 3) := by decide +kernel
theorem dX5_beThePlainOne_30 : decode cX5_beThePlainOne 30 = .ok (.return_, 1) := by decide +kernel
theorem dX5_takeThing_0 : decode cX5_takeThing 0 = .ok (.iload_n 1, 1) := by decide +kernel
theorem dX5_takeThing_1 : decode cX5_takeThing 1 = .ok (.bipush 45, 2) := by decide +kernel
theorem dX5_takeThing_3 : decode cX5_takeThing 3 = .ok (.if_icmp .ne 12, 3) := by decide +kernel
theorem dX5_takeThing_6 : decode cX5_takeThing 6 = .ok (.aload_n 0, 1) := by decide +kernel
theorem dX5_takeThing_7 : decode cX5_takeThing 7 = .ok (.sipush 256, 3) := by decide +kernel
theorem dX5_takeThing_10 : decode cX5_takeThing 10 = .ok (.invokevirtual 76, 3) := by decide +kernel
theorem dX5_takeThing_13 : decode cX5_takeThing 13 = .ok (.iconst 1, 1) := by decide +kernel
theorem dX5_takeThing_14 : decode cX5_takeThing 14 = .ok (.ireturn, 1) := by decide +kernel
theorem dX5_takeThing_15 : decode cX5_takeThing 15 = .ok (.iload_n 1, 1) := by decide +kernel
theorem dX5_takeThing_16 : decode cX5_takeThing 16 = .ok (.bipush 40, 2) := by decide +kernel
theorem dX5_takeThing_18 : decode cX5_takeThing 18 = .ok (.if_icmp .ne 8, 3) := by decide +kernel
theorem dX5_takeThing_21 : decode cX5_takeThing 21 = .ok (.aload_n 0, 1) := by decide +kernel
theorem dX5_takeThing_22 : decode cX5_takeThing 22 = .ok (.invokevirtual 79, 3) := by decide +kernel
theorem dX5_takeThing_25 : decode cX5_takeThing 25 = .ok (.ireturn, 1) := by decide +kernel
theorem dX5_takeThing_26 : decode cX5_takeThing 26 = .ok (.ldc 83, 2) := by decide +kernel
theorem dX5_takeThing_28 : decode cX5_takeThing 28 = .ok (.iload_n 1, 1) := by decide +kernel
theorem dX5_takeThing_29 : decode cX5_takeThing 29 = .ok (.i2c, 1) := by decide +kernel
theorem dX5_takeThing_30 : decode cX5_takeThing 30 = .ok (.invokevirtual 85, 3) := by decide +kernel
theorem dX5_takeThing_33 : decode cX5_takeThing 33 = .ok (.istore_n 2, 1) := by decide +kernel
theorem dX5_takeThing_34 : decode cX5_takeThing 34 = .ok (.iload_n 1, 1) := by decide +kernel
theorem dX5_takeThing_35 : decode cX5_takeThing 35 = .ok (.bipush 48, 2) := by decide +kernel
theorem dX5_takeThing_37 : decode cX5_takeThing 37 = .ok (.bipush 57, 2) := by decide +kernel
theorem dX5_takeThing_39 : decode cX5_takeThing 39 = .ok (.invokestatic 90, 3) := by decide +kernel
theorem dX5_takeThing_42 : decode cX5_takeThing 42 = .ok (.istore_n 3, 1) := by decide +kernel
theorem dX5_takeThing_43 : decode cX5_takeThing 43 = .ok (.iload_n 2, 1) := by decide +kernel
theorem dX5_takeThing_44 : decode cX5_takeThing 44 = .ok (.ifCond .ge 9, 3) := by decide +kernel
theorem dX5_takeThing_47 : decode cX5_takeThing 47 = .ok (.iload_n 3, 1) := by decide +kernel
theorem dX5_takeThing_48 : decode cX5_takeThing 48 = .ok (.ifCond .ne 5, 3) := by decide +kernel
theorem dX5_takeThing_51 : decode cX5_takeThing 51 = .ok (.iconst 0, 1) := by decide +kernel
theorem dX5_takeThing_52 : decode cX5_takeThing 52 = .ok (.ireturn, 1) := by decide +kernel
theorem dX5_takeThing_53 : decode cX5_takeThing 53 = .ok (.aload_n 0, 1) := by decide +kernel
theorem dX5_takeThing_54 : decode cX5_takeThing 54 = .ok (.iload_n 3, 1) := by decide +kernel
theorem dX5_takeThing_55 : decode cX5_takeThing 55 = .ok (.ifCond .eq 10, 3) := by decide +kernel
theorem dX5_takeThing_58 : decode cX5_takeThing 58 = .ok (.iload_n 1, 1) := by decide +kernel
theorem dX5_takeThing_59 : decode cX5_takeThing 59 = .ok (.bipush 48, 2) := by decide +kernel
theorem dX5_takeThing_61 : decode cX5_takeThing 61 = .ok (.isub, 1) := by decide +kernel
theorem dX5_takeThing_62 : decode cX5_takeThing 62 = .ok (.goto 6, 3) := by decide +kernel
theorem dX5_takeThing_65 : decode cX5_takeThing 65 = .ok (.iconst (-1), 1) := by decide +kernel
theorem dX5_takeThing_66 : decode cX5_takeThing 66 = .ok (.iload_n 2, 1) := by decide +kernel
theorem dX5_takeThing_67 : decode cX5_takeThing 67 = .ok (.isub, 1) := by decide +kernel
theorem dX5_takeThing_68 : decode cX5_takeThing 68 = .ok (.invokevirtual 94, 3) := by decide +kernel
theorem dX5_takeThing_71 : decode cX5_takeThing 71 = .ok (.aload_n 0, 1) := by decide +kernel
theorem dX5_takeThing_72 : decode cX5_takeThing 72 = .ok (.iload_n 3, 1) := by decide +kernel
theorem dX5_takeThing_73 : decode cX5_takeThing 73 = .ok (.ifCond .eq 7, 3) := by decide +kernel
theorem dX5_takeThing_76 : decode cX5_takeThing 76 = .ok (.iconst 1, 1) := by decide +kernel
theorem dX5_takeThing_77 : decode cX5_takeThing 77 = .ok (.goto 4, 3) := by decide +kernel
theorem dX5_takeThing_80 : decode cX5_takeThing 80 = .ok (.iconst 0, 1) := by decide +kernel
theorem dX5_takeThing_81 : decode cX5_takeThing 81 = .ok (.putfield 67, 3) := by decide +kernel
theorem dX5_takeThing_84 : decode cX5_takeThing 84 = .ok (.aload_n 0, 1) := by decide +kernel
theorem dX5_takeThing_85 : decode cX5_takeThing 85 = .ok (.aload_n 0, 1) := by decide +kernel
theorem dX5_takeThing_86 : decode cX5_takeThing 86 = .ok (.getfield 70, 3) := by decide +kernel
theorem dX5_takeThing_89 : decode cX5_takeThing 89 = .ok (.ifCond .ne 9, 3) := by decide +kernel
theorem dX5_takeThing_92 : decode cX5_takeThing 92 = .ok (.iload_n 1, 1) := by decide +kernel
theorem dX5_takeThing_93 : decode cX5_takeThing 93 = .ok (.bipush 108, 2) := by decide +kernel
theorem dX5_takeThing_95 : decode cX5_takeThing 95 = .ok (.if_icmp .ne 7, 3) := by decide +kernel
theorem dX5_takeThing_98 : decode cX5_takeThing 98 = .ok (.iconst 1, 1) := by decide +kernel
theorem dX5_takeThing_99 : decode cX5_takeThing 99 = .ok (.goto 4, 3) := by decide +kernel
theorem dX5_takeThing_102 : decode cX5_takeThing 102 = .ok (.iconst 0, 1) := by decide +kernel
theorem dX5_takeThing_103 : decode cX5_takeThing 103 = .ok (.putfield 70, 3) := by decide +kernel
theorem dX5_takeThing_106 : decode cX5_takeThing 106 = .ok (.aload_n 0, 1) := by decide +kernel
theorem dX5_takeThing_107 : decode cX5_takeThing 107 = .ok (.aload_n 0, 1) := by decide +kernel
theorem dX5_takeThing_108 : decode cX5_takeThing 108 = .ok (.getfield 73, 3) := by decide +kernel
theorem dX5_takeThing_111 : decode cX5_takeThing 111 = .ok (.ifCond .ne 9, 3) := by decide +kernel
theorem dX5_takeThing_114 : decode cX5_takeThing 114 = .ok (.iload_n 1, 1) := by decide +kernel
theorem dX5_takeThing_115 : decode cX5_takeThing 115 = .ok (.bipush 110, 2) := by decide +kernel
theorem dX5_takeThing_117 : decode cX5_takeThing 117 = .ok (.if_icmp .ne 7, 3) := by decide +kernel
theorem dX5_takeThing_120 : decode cX5_takeThing 120 = .ok (.iconst 1, 1) := by decide +kernel
theorem dX5_takeThing_121 : decode cX5_takeThing 121 = .ok (.goto 4, 3) := by decide +kernel
theorem dX5_takeThing_124 : decode cX5_takeThing 124 = .ok (.iconst 0, 1) := by decide +kernel
theorem dX5_takeThing_125 : decode cX5_takeThing 125 = .ok (.putfield 73, 3) := by decide +kernel
theorem dX5_takeThing_128 : decode cX5_takeThing 128 = .ok (.aload_n 0, 1) := by decide +kernel
theorem dX5_takeThing_129 : decode cX5_takeThing 129 = .ok (.iconst 0, 1) := by decide +kernel
theorem dX5_takeThing_130 : decode cX5_takeThing 130 = .ok (.putfield 37, 3) := by decide +kernel
theorem dX5_takeThing_133 : decode cX5_takeThing 133 = .ok (.iconst 1, 1) := by decide +kernel
theorem dX5_takeThing_134 : decode cX5_takeThing 134 = .ok (.ireturn, 1) := by decide +kernel
theorem dX5_open_0 : decode cX5_open 0 = .ok (.aload_n 0, 1) := by decide +kernel
theorem dX5_open_1 : decode cX5_open 1 = .ok (.getfield 56, 3) := by decide +kernel
theorem dX5_open_4 : decode cX5_open 4 = .ok (.iconst 4, 1) := by decide +kernel
theorem dX5_open_5 : decode cX5_open 5 = .ok (.if_icmp .lt 5, 3) := by decide +kernel
theorem dX5_open_8 : decode cX5_open 8 = .ok (.iconst 0, 1) := by decide +kernel
theorem dX5_open_9 : decode cX5_open 9 = .ok (.ireturn, 1) := by decide +kernel
theorem dX5_open_10 : decode cX5_open 10 = .ok (.aload_n 0, 1) := by decide +kernel
theorem dX5_open_11 : decode cX5_open 11 = .ok (.dup, 1) := by decide +kernel
theorem dX5_open_12 : decode cX5_open 12 = .ok (.getfield 56, 3) := by decide +kernel
theorem dX5_open_15 : decode cX5_open 15 = .ok (.iconst 1, 1) := by decide +kernel
theorem dX5_open_16 : decode cX5_open 16 = .ok (.iadd, 1) := by decide +kernel
theorem dX5_open_17 : decode cX5_open 17 = .ok (.putfield 56, 3) := by decide +kernel
theorem dX5_open_20 : decode cX5_open 20 = .ok (.aload_n 0, 1) := by decide +kernel
theorem dX5_open_21 : decode cX5_open 21 = .ok (.getfield 21, 3) := by decide +kernel
theorem dX5_open_24 : decode cX5_open 24 = .ok (.aload_n 0, 1) := by decide +kernel
theorem dX5_open_25 : decode cX5_open 25 = .ok (.getfield 56, 3) := by decide +kernel
theorem dX5_open_28 : decode cX5_open 28 = .ok (.iconst 0, 1) := by decide +kernel
theorem dX5_open_29 : decode cX5_open 29 = .ok (.bastore, 1) := by decide +kernel
theorem dX5_open_30 : decode cX5_open 30 = .ok (.aload_n 0, 1) := by decide +kernel
theorem dX5_open_31 : decode cX5_open 31 = .ok (.bipush 40, 2) := by decide +kernel
theorem dX5_open_33 : decode cX5_open 33 = .ok (.invokevirtual 76, 3) := by decide +kernel
theorem dX5_open_36 : decode cX5_open 36 = .ok (.iconst 1, 1) := by decide +kernel
theorem dX5_open_37 : decode cX5_open 37 = .ok (.ireturn, 1) := by decide +kernel
theorem dX5_takeJoint_0 : decode cX5_takeJoint 0 = .ok (.iload_n 1, 1) := by decide +kernel
theorem dX5_takeJoint_1 : decode cX5_takeJoint 1 = .ok (.bipush 48, 2) := by decide +kernel
theorem dX5_takeJoint_3 : decode cX5_takeJoint 3 = .ok (.bipush 57, 2) := by decide +kernel
theorem dX5_takeJoint_5 : decode cX5_takeJoint 5 = .ok (.invokestatic 90, 3) := by decide +kernel
theorem dX5_takeJoint_8 : decode cX5_takeJoint 8 = .ok (.ifCond .eq 12, 3) := by decide +kernel
theorem dX5_takeJoint_11 : decode cX5_takeJoint 11 = .ok (.aload_n 0, 1) := by decide +kernel
theorem dX5_takeJoint_12 : decode cX5_takeJoint 12 = .ok (.iload_n 1, 1) := by decide +kernel
theorem dX5_takeJoint_13 : decode cX5_takeJoint 13 = .ok (.bipush 48, 2) := by decide +kernel
theorem dX5_takeJoint_15 : decode cX5_takeJoint 15 = .ok (.isub, 1) := by decide +kernel
theorem dX5_takeJoint_16 : decode cX5_takeJoint 16 = .ok (.invokevirtual 97, 3) := by decide +kernel
theorem dX5_takeJoint_19 : decode cX5_takeJoint 19 = .ok (.ireturn, 1) := by decide +kernel
theorem dX5_takeJoint_20 : decode cX5_takeJoint 20 = .ok (.iload_n 1, 1) := by decide +kernel
theorem dX5_takeJoint_21 : decode cX5_takeJoint 21 = .ok (.bipush 41, 2) := by decide +kernel
theorem dX5_takeJoint_23 : decode cX5_takeJoint 23 = .ok (.if_icmp .ne 8, 3) := by decide +kernel
theorem dX5_takeJoint_26 : decode cX5_takeJoint 26 = .ok (.aload_n 0, 1) := by decide +kernel
theorem dX5_takeJoint_27 : decode cX5_takeJoint 27 = .ok (.invokevirtual 100, 3) := by decide +kernel
theorem dX5_takeJoint_30 : decode cX5_takeJoint 30 = .ok (.ireturn, 1) := by decide +kernel
theorem dX5_takeJoint_31 : decode cX5_takeJoint 31 = .ok (.iload_n 1, 1) := by decide +kernel
theorem dX5_takeJoint_32 : decode cX5_takeJoint 32 = .ok (.invokestatic 103, 3) := by decide +kernel
theorem dX5_takeJoint_35 : decode cX5_takeJoint 35 = .ok (.istore_n 2, 1) := by decide +kernel
theorem dX5_takeJoint_36 : decode cX5_takeJoint 36 = .ok (.iload_n 2, 1) := by decide +kernel
theorem dX5_takeJoint_37 : decode cX5_takeJoint 37 = .ok (.ifCond .eq 20, 3) := by decide +kernel
theorem dX5_takeJoint_40 : decode cX5_takeJoint 40 = .ok (.iload_n 2, 1) := by decide +kernel
theorem dX5_takeJoint_41 : decode cX5_takeJoint 41 = .ok (.iconst 1, 1) := by decide +kernel
theorem dX5_takeJoint_42 : decode cX5_takeJoint 42 = .ok (.if_icmp .ne 17, 3) := by decide +kernel
theorem dX5_takeJoint_45 : decode cX5_takeJoint 45 = .ok (.aload_n 0, 1) := by decide +kernel
theorem dX5_takeJoint_46 : decode cX5_takeJoint 46 = .ok (.getfield 21, 3) := by decide +kernel
theorem dX5_takeJoint_49 : decode cX5_takeJoint 49 = .ok (.aload_n 0, 1) := by decide +kernel
theorem dX5_takeJoint_50 : decode cX5_takeJoint 50 = .ok (.getfield 56, 3) := by decide +kernel
theorem dX5_takeJoint_53 : decode cX5_takeJoint 53 = .ok (.baload, 1) := by decide +kernel
theorem dX5_takeJoint_54 : decode cX5_takeJoint 54 = .ok (.ifCond .eq 5, 3) := by decide +kernel
theorem dX5_takeJoint_57 : decode cX5_takeJoint 57 = .ok (.iconst 0, 1) := by decide +kernel
theorem dX5_takeJoint_58 : decode cX5_takeJoint 58 = .ok (.ireturn, 1) := by decide +kernel
theorem dX5_takeJoint_59 : decode cX5_takeJoint 59 = .ok (.aload_n 0, 1) := by decide +kernel
theorem dX5_takeJoint_60 : decode cX5_takeJoint 60 = .ok (.getfield 21, 3) := by decide +kernel
theorem dX5_takeJoint_63 : decode cX5_takeJoint 63 = .ok (.aload_n 0, 1) := by decide +kernel
theorem dX5_takeJoint_64 : decode cX5_takeJoint 64 = .ok (.getfield 56, 3) := by decide +kernel
theorem dX5_takeJoint_67 : decode cX5_takeJoint 67 = .ok (.aload_n 0, 1) := by decide +kernel
theorem dX5_takeJoint_68 : decode cX5_takeJoint 68 = .ok (.getfield 21, 3) := by decide +kernel
theorem dX5_takeJoint_71 : decode cX5_takeJoint 71 = .ok (.aload_n 0, 1) := by decide +kernel
theorem dX5_takeJoint_72 : decode cX5_takeJoint 72 = .ok (.getfield 56, 3) := by decide +kernel
theorem dX5_takeJoint_75 : decode cX5_takeJoint 75 = .ok (.baload, 1) := by decide +kernel
theorem dX5_takeJoint_76 : decode cX5_takeJoint 76 = .ok (.ifCond .ne 8, 3) := by decide +kernel
theorem dX5_takeJoint_79 : decode cX5_takeJoint 79 = .ok (.iload_n 2, 1) := by decide +kernel
theorem dX5_takeJoint_80 : decode cX5_takeJoint 80 = .ok (.iconst 1, 1) := by decide +kernel
theorem dX5_takeJoint_81 : decode cX5_takeJoint 81 = .ok (.if_icmp .ne 7, 3) := by decide +kernel
theorem dX5_takeJoint_84 : decode cX5_takeJoint 84 = .ok (.iconst 1, 1) := by decide +kernel
theorem dX5_takeJoint_85 : decode cX5_takeJoint 85 = .ok (.goto 4, 3) := by decide +kernel
theorem dX5_takeJoint_88 : decode cX5_takeJoint 88 = .ok (.iconst 0, 1) := by decide +kernel
theorem dX5_takeJoint_89 : decode cX5_takeJoint 89 = .ok (.bastore, 1) := by decide +kernel
theorem dX5_takeJoint_90 : decode cX5_takeJoint 90 = .ok (.aload_n 0, 1) := by decide +kernel
theorem dX5_takeJoint_91 : decode cX5_takeJoint 91 = .ok (.iload_n 2, 1) := by decide +kernel
theorem dX5_takeJoint_92 : decode cX5_takeJoint 92 = .ok (.invokevirtual 52, 3) := by decide +kernel
theorem dX5_takeJoint_95 : decode cX5_takeJoint 95 = .ok (.aload_n 0, 1) := by decide +kernel
theorem dX5_takeJoint_96 : decode cX5_takeJoint 96 = .ok (.iload_n 1, 1) := by decide +kernel
theorem dX5_takeJoint_97 : decode cX5_takeJoint 97 = .ok (.invokevirtual 76, 3) := by decide +kernel
theorem dX5_takeJoint_100 : decode cX5_takeJoint 100 = .ok (.aload_n 0, 1) := by decide +kernel
theorem dX5_takeJoint_101 : decode cX5_takeJoint 101 = .ok (.iconst 0, 1) := by decide +kernel
theorem dX5_takeJoint_102 : decode cX5_takeJoint 102 = .ok (.putfield 67, 3) := by decide +kernel
theorem dX5_takeJoint_105 : decode cX5_takeJoint 105 = .ok (.aload_n 0, 1) := by decide +kernel
theorem dX5_takeJoint_106 : decode cX5_takeJoint 106 = .ok (.iconst 1, 1) := by decide +kernel
theorem dX5_takeJoint_107 : decode cX5_takeJoint 107 = .ok (.putfield 37, 3) := by decide +kernel
theorem dX5_takeJoint_110 : decode cX5_takeJoint 110 = .ok (.iconst 1, 1) := by decide +kernel
theorem dX5_takeJoint_111 : decode cX5_takeJoint 111 = .ok (.ireturn, 1) := by decide +kernel
theorem dX5_lengthenNumber_0 : decode cX5_lengthenNumber 0 = .ok (.aload_n 0, 1) := by decide +kernel
theorem dX5_lengthenNumber_1 : decode cX5_lengthenNumber 1 = .ok (.getfield 67, 3) := by decide +kernel
theorem dX5_lengthenNumber_4 : decode cX5_lengthenNumber 4 = .ok (.ifCond .eq 18, 3) := by decide +kernel
theorem dX5_lengthenNumber_7 : decode cX5_lengthenNumber 7 = .ok (.aload_n 0, 1) := by decide +kernel
theorem dX5_lengthenNumber_8 : decode cX5_lengthenNumber 8 = .ok (.getfield 67, 3) := by decide +kernel
theorem dX5_lengthenNumber_11 : decode cX5_lengthenNumber 11 = .ok (.iconst 3, 1) := by decide +kernel
theorem dX5_lengthenNumber_12 : decode cX5_lengthenNumber 12 = .ok (.if_icmp .eq 10, 3) := by decide +kernel
theorem dX5_lengthenNumber_15 : decode cX5_lengthenNumber 15 = .ok (.aload_n 0, 1) := by decide +kernel
theorem dX5_lengthenNumber_16 : decode cX5_lengthenNumber 16 = .ok (.getfield 59, 3) := by decide +kernel
theorem dX5_lengthenNumber_19 : decode cX5_lengthenNumber 19 = .ok (.ifCond .ne 5, 3) := by decide +kernel
theorem dX5_lengthenNumber_22 : decode cX5_lengthenNumber 22 = .ok (.iconst 0, 1) := by decide +kernel
theorem dX5_lengthenNumber_23 : decode cX5_lengthenNumber 23 = .ok (.ireturn, 1) := by decide +kernel
theorem dX5_lengthenNumber_24 : decode cX5_lengthenNumber 24 = .ok (.aload_n 0, 1) := by decide +kernel
theorem dX5_lengthenNumber_25 : decode cX5_lengthenNumber 25 = .ok (.getfield 11, 3) := by decide +kernel
theorem dX5_lengthenNumber_28 : decode cX5_lengthenNumber 28 = .ok (.aload_n 0, 1) := by decide +kernel
theorem dX5_lengthenNumber_29 : decode cX5_lengthenNumber 29 = .ok (.getfield 59, 3) := by decide +kernel
theorem dX5_lengthenNumber_32 : decode cX5_lengthenNumber 32 = .ok (.iconst 1, 1) := by decide +kernel
theorem dX5_lengthenNumber_33 : decode cX5_lengthenNumber 33 = .ok (.isub, 1) := by decide +kernel
theorem dX5_lengthenNumber_34 : decode cX5_lengthenNumber 34 = .ok (.aload_n 0, 1) := by decide +kernel
theorem dX5_lengthenNumber_35 : decode cX5_lengthenNumber 35 = .ok (.getfield 11, 3) := by decide +kernel
theorem dX5_lengthenNumber_38 : decode cX5_lengthenNumber 38 = .ok (.aload_n 0, 1) := by decide +kernel
theorem dX5_lengthenNumber_39 : decode cX5_lengthenNumber 39 = .ok (.getfield 59, 3) := by decide +kernel
theorem dX5_lengthenNumber_42 : decode cX5_lengthenNumber 42 = .ok (.iconst 1, 1) := by decide +kernel
theorem dX5_lengthenNumber_43 : decode cX5_lengthenNumber 43 = .ok (.isub, 1) := by decide +kernel
theorem dX5_lengthenNumber_44 : decode cX5_lengthenNumber 44 = .ok (.iaload, 1) := by decide +kernel
theorem dX5_lengthenNumber_45 : decode cX5_lengthenNumber 45 = .ok (.bipush 10, 2) := by decide +kernel
theorem dX5_lengthenNumber_47 : decode cX5_lengthenNumber 47 = .ok (.imul, 1) := by decide +kernel
theorem dX5_lengthenNumber_48 : decode cX5_lengthenNumber 48 = .ok (.iload_n 1, 1) := by decide +kernel
theorem dX5_lengthenNumber_49 : decode cX5_lengthenNumber 49 = .ok (.iadd, 1) := by decide +kernel
theorem dX5_lengthenNumber_50 : decode cX5_lengthenNumber 50 = .ok (.iastore, 1) := by decide +kernel
theorem dX5_lengthenNumber_51 : decode cX5_lengthenNumber 51 = .ok (.aload_n 0, 1) := by decide +kernel
theorem dX5_lengthenNumber_52 : decode cX5_lengthenNumber 52 = .ok (.dup, 1) := by decide +kernel
theorem dX5_lengthenNumber_53 : decode cX5_lengthenNumber 53 = .ok (.getfield 67, 3) := by decide +kernel
theorem dX5_lengthenNumber_56 : decode cX5_lengthenNumber 56 = .ok (.iconst 1, 1) := by decide +kernel
theorem dX5_lengthenNumber_57 : decode cX5_lengthenNumber 57 = .ok (.iadd, 1) := by decide +kernel
theorem dX5_lengthenNumber_58 : decode cX5_lengthenNumber 58 = .ok (.putfield 67, 3) := by decide +kernel
theorem dX5_lengthenNumber_61 : decode cX5_lengthenNumber 61 = .ok (.iconst 1, 1) := by decide +kernel
theorem dX5_lengthenNumber_62 : decode cX5_lengthenNumber 62 = .ok (.ireturn, 1) := by decide +kernel
theorem dX5_close_0 : decode cX5_close 0 = .ok (.aload_n 0, 1) := by decide +kernel
theorem dX5_close_1 : decode cX5_close 1 = .ok (.getfield 56, 3) := by decide +kernel
theorem dX5_close_4 : decode cX5_close 4 = .ok (.ifCond .ne 5, 3) := by decide +kernel
theorem dX5_close_7 : decode cX5_close 7 = .ok (.iconst 0, 1) := by decide +kernel
theorem dX5_close_8 : decode cX5_close 8 = .ok (.ireturn, 1) := by decide +kernel
theorem dX5_close_9 : decode cX5_close 9 = .ok (.aload_n 0, 1) := by decide +kernel
theorem dX5_close_10 : decode cX5_close 10 = .ok (.iconst 0, 1) := by decide +kernel
theorem dX5_close_11 : decode cX5_close 11 = .ok (.invokevirtual 52, 3) := by decide +kernel
theorem dX5_close_14 : decode cX5_close 14 = .ok (.aload_n 0, 1) := by decide +kernel
theorem dX5_close_15 : decode cX5_close 15 = .ok (.iconst 0, 1) := by decide +kernel
theorem dX5_close_16 : decode cX5_close 16 = .ok (.aload_n 0, 1) := by decide +kernel
theorem dX5_close_17 : decode cX5_close 17 = .ok (.getfield 64, 3) := by decide +kernel
theorem dX5_close_20 : decode cX5_close 20 = .ok (.iconst 1, 1) := by decide +kernel
theorem dX5_close_21 : decode cX5_close 21 = .ok (.isub, 1) := by decide +kernel
theorem dX5_close_22 : decode cX5_close 22 = .ok (.invokestatic 106, 3) := by decide +kernel
theorem dX5_close_25 : decode cX5_close 25 = .ok (.putfield 64, 3) := by decide +kernel
theorem dX5_close_28 : decode cX5_close 28 = .ok (.aload_n 0, 1) := by decide +kernel
theorem dX5_close_29 : decode cX5_close 29 = .ok (.dup, 1) := by decide +kernel
theorem dX5_close_30 : decode cX5_close 30 = .ok (.getfield 56, 3) := by decide +kernel
theorem dX5_close_33 : decode cX5_close 33 = .ok (.iconst 1, 1) := by decide +kernel
theorem dX5_close_34 : decode cX5_close 34 = .ok (.isub, 1) := by decide +kernel
theorem dX5_close_35 : decode cX5_close 35 = .ok (.putfield 56, 3) := by decide +kernel
theorem dX5_close_38 : decode cX5_close 38 = .ok (.aload_n 0, 1) := by decide +kernel
theorem dX5_close_39 : decode cX5_close 39 = .ok (.iconst 0, 1) := by decide +kernel
theorem dX5_close_40 : decode cX5_close 40 = .ok (.putfield 67, 3) := by decide +kernel
theorem dX5_close_43 : decode cX5_close 43 = .ok (.iconst 1, 1) := by decide +kernel
theorem dX5_close_44 : decode cX5_close 44 = .ok (.ireturn, 1) := by decide +kernel
theorem dX5_hold_0 : decode cX5_hold 0 = .ok (.aload_n 0, 1) := by decide +kernel
theorem dX5_hold_1 : decode cX5_hold 1 = .ok (.getfield 64, 3) := by decide +kernel
theorem dX5_hold_4 : decode cX5_hold 4 = .ok (.aload_n 0, 1) := by decide +kernel
theorem dX5_hold_5 : decode cX5_hold 5 = .ok (.getfield 15, 3) := by decide +kernel
theorem dX5_hold_8 : decode cX5_hold 8 = .ok (.arraylength, 1) := by decide +kernel
theorem dX5_hold_9 : decode cX5_hold 9 = .ok (.if_icmp .ge 23, 3) := by decide +kernel
theorem dX5_hold_12 : decode cX5_hold 12 = .ok (.aload_n 0, 1) := by decide +kernel
theorem dX5_hold_13 : decode cX5_hold 13 = .ok (.getfield 15, 3) := by decide +kernel
theorem dX5_hold_16 : decode cX5_hold 16 = .ok (.aload_n 0, 1) := by decide +kernel
theorem dX5_hold_17 : decode cX5_hold 17 = .ok (.getfield 64, 3) := by decide +kernel
theorem dX5_hold_20 : decode cX5_hold 20 = .ok (.iload_n 1, 1) := by decide +kernel
theorem dX5_hold_21 : decode cX5_hold 21 = .ok (.iastore, 1) := by decide +kernel
theorem dX5_hold_22 : decode cX5_hold 22 = .ok (.aload_n 0, 1) := by decide +kernel
theorem dX5_hold_23 : decode cX5_hold 23 = .ok (.dup, 1) := by decide +kernel
theorem dX5_hold_24 : decode cX5_hold 24 = .ok (.getfield 64, 3) := by decide +kernel
theorem dX5_hold_27 : decode cX5_hold 27 = .ok (.iconst 1, 1) := by decide +kernel
theorem dX5_hold_28 : decode cX5_hold 28 = .ok (.iadd, 1) := by decide +kernel
theorem dX5_hold_29 : decode cX5_hold 29 = .ok (.putfield 64, 3) := by decide +kernel
theorem dX5_hold_32 : decode cX5_hold 32 = .ok (.return_, 1) := by decide +kernel
theorem dX5_emit_0 : decode cX5_emit 0 = .ok (.aload_n 0, 1) := by decide +kernel
theorem dX5_emit_1 : decode cX5_emit 1 = .ok (.getfield 59, 3) := by decide +kernel
theorem dX5_emit_4 : decode cX5_emit 4 = .ok (.aload_n 0, 1) := by decide +kernel
theorem dX5_emit_5 : decode cX5_emit 5 = .ok (.getfield 11, 3) := by decide +kernel
theorem dX5_emit_8 : decode cX5_emit 8 = .ok (.arraylength, 1) := by decide +kernel
theorem dX5_emit_9 : decode cX5_emit 9 = .ok (.if_icmp .ge 23, 3) := by decide +kernel
theorem dX5_emit_12 : decode cX5_emit 12 = .ok (.aload_n 0, 1) := by decide +kernel
theorem dX5_emit_13 : decode cX5_emit 13 = .ok (.getfield 11, 3) := by decide +kernel
theorem dX5_emit_16 : decode cX5_emit 16 = .ok (.aload_n 0, 1) := by decide +kernel
theorem dX5_emit_17 : decode cX5_emit 17 = .ok (.getfield 59, 3) := by decide +kernel
theorem dX5_emit_20 : decode cX5_emit 20 = .ok (.iload_n 1, 1) := by decide +kernel
theorem dX5_emit_21 : decode cX5_emit 21 = .ok (.iastore, 1) := by decide +kernel
theorem dX5_emit_22 : decode cX5_emit 22 = .ok (.aload_n 0, 1) := by decide +kernel
theorem dX5_emit_23 : decode cX5_emit 23 = .ok (.dup, 1) := by decide +kernel
theorem dX5_emit_24 : decode cX5_emit 24 = .ok (.getfield 59, 3) := by decide +kernel
theorem dX5_emit_27 : decode cX5_emit 27 = .ok (.iconst 1, 1) := by decide +kernel
theorem dX5_emit_28 : decode cX5_emit 28 = .ok (.iadd, 1) := by decide +kernel
theorem dX5_emit_29 : decode cX5_emit 29 = .ok (.putfield 59, 3) := by decide +kernel
theorem dX5_emit_32 : decode cX5_emit 32 = .ok (.return_, 1) := by decide +kernel
theorem dX5_release_0 : decode cX5_release 0 = .ok (.aload_n 0, 1) := by decide +kernel
theorem dX5_release_1 : decode cX5_release 1 = .ok (.getfield 64, 3) := by decide +kernel
theorem dX5_release_4 : decode cX5_release 4 = .ok (.ifCond .le 66, 3) := by decide +kernel
theorem dX5_release_7 : decode cX5_release 7 = .ok (.aload_n 0, 1) := by decide +kernel
theorem dX5_release_8 : decode cX5_release 8 = .ok (.getfield 15, 3) := by decide +kernel
theorem dX5_release_11 : decode cX5_release 11 = .ok (.aload_n 0, 1) := by decide +kernel
theorem dX5_release_12 : decode cX5_release 12 = .ok (.getfield 64, 3) := by decide +kernel
theorem dX5_release_15 : decode cX5_release 15 = .ok (.iconst 1, 1) := by decide +kernel
theorem dX5_release_16 : decode cX5_release 16 = .ok (.isub, 1) := by decide +kernel
theorem dX5_release_17 : decode cX5_release 17 = .ok (.iaload, 1) := by decide +kernel
theorem dX5_release_18 : decode cX5_release 18 = .ok (.bipush 40, 2) := by decide +kernel
theorem dX5_release_20 : decode cX5_release 20 = .ok (.if_icmp .eq 50, 3) := by decide +kernel
theorem dX5_release_23 : decode cX5_release 23 = .ok (.aload_n 0, 1) := by decide +kernel
theorem dX5_release_24 : decode cX5_release 24 = .ok (.getfield 15, 3) := by decide +kernel
theorem dX5_release_27 : decode cX5_release 27 = .ok (.aload_n 0, 1) := by decide +kernel
theorem dX5_release_28 : decode cX5_release 28 = .ok (.getfield 64, 3) := by decide +kernel
theorem dX5_release_31 : decode cX5_release 31 = .ok (.iconst 1, 1) := by decide +kernel
theorem dX5_release_32 : decode cX5_release 32 = .ok (.isub, 1) := by decide +kernel
theorem dX5_release_33 : decode cX5_release 33 = .ok (.iaload, 1) := by decide +kernel
theorem dX5_release_34 : decode cX5_release 34 = .ok (.invokestatic 103, 3) := by decide +kernel
theorem dX5_release_37 : decode cX5_release 37 = .ok (.iload_n 1, 1) := by decide +kernel
theorem dX5_release_38 : decode cX5_release 38 = .ok (.if_icmp .lt 32, 3) := by decide +kernel
theorem dX5_release_41 : decode cX5_release 41 = .ok (.aload_n 0, 1) := by decide +kernel
theorem dX5_release_42 : decode cX5_release 42 = .ok (.dup, 1) := by decide +kernel
theorem dX5_release_43 : decode cX5_release 43 = .ok (.getfield 64, 3) := by decide +kernel
theorem dX5_release_46 : decode cX5_release 46 = .ok (.iconst 1, 1) := by decide +kernel
theorem dX5_release_47 : decode cX5_release 47 = .ok (.isub, 1) := by decide +kernel
theorem dX5_release_48 : decode cX5_release 48 = .ok (.putfield 64, 3) := by decide +kernel
theorem dX5_release_51 : decode cX5_release 51 = .ok (.aload_n 0, 1) := by decide +kernel
theorem dX5_release_52 : decode cX5_release 52 = .ok (.bipush (-100), 2) := by decide +kernel
theorem dX5_release_54 : decode cX5_release 54 = .ok (.aload_n 0, 1) := by decide +kernel
theorem dX5_release_55 : decode cX5_release 55 = .ok (.getfield 15, 3) := by decide +kernel
theorem dX5_release_58 : decode cX5_release 58 = .ok (.aload_n 0, 1) := by decide +kernel
theorem dX5_release_59 : decode cX5_release 59 = .ok (.getfield 64, 3) := by decide +kernel
theorem dX5_release_62 : decode cX5_release 62 = .ok (.iaload, 1) := by decide +kernel
theorem dX5_release_63 : decode cX5_release 63 = .ok (.isub, 1) := by decide +kernel
theorem dX5_release_64 : decode cX5_release 64 = .ok (.invokevirtual 94, 3) := by decide +kernel
theorem dX5_release_67 : decode cX5_release 67 = .ok (.goto (-67), 3) := by decide +kernel
theorem dX5_release_70 : decode cX5_release 70 = .ok (.return_, 1) := by decide +kernel
theorem dX5_rankOf_0 : decode cX5_rankOf 0 = .ok (.iload_n 0, 1) := by decide +kernel
theorem dX5_rankOf_1 : decode cX5_rankOf 1 = .ok (.lookupswitch 83 #[(42, 79), (43, 77), (45, 77), (47, 79), (60, 75), (61, 75), (62, 75), (256, 81)], 75) := by decide +kernel
theorem dX5_rankOf_76 : decode cX5_rankOf 76 = .ok (.iconst 1, 1) := by decide +kernel
theorem dX5_rankOf_77 : decode cX5_rankOf 77 = .ok (.ireturn, 1) := by decide +kernel
theorem dX5_rankOf_78 : decode cX5_rankOf 78 = .ok (.iconst 2, 1) := by decide +kernel
theorem dX5_rankOf_79 : decode cX5_rankOf 79 = .ok (.ireturn, 1) := by decide +kernel
theorem dX5_rankOf_80 : decode cX5_rankOf 80 = .ok (.iconst 3, 1) := by decide +kernel
theorem dX5_rankOf_81 : decode cX5_rankOf 81 = .ok (.ireturn, 1) := by decide +kernel
theorem dX5_rankOf_82 : decode cX5_rankOf 82 = .ok (.iconst 4, 1) := by decide +kernel
theorem dX5_rankOf_83 : decode cX5_rankOf 83 = .ok (.ireturn, 1) := by decide +kernel
theorem dX5_rankOf_84 : decode cX5_rankOf 84 = .ok (.iconst 0, 1) := by decide +kernel
theorem dX5_rankOf_85 : decode cX5_rankOf 85 = .ok (.ireturn, 1) := by decide +kernel
theorem dX5_joined_0 : decode cX5_joined 0 = .ok (.iload_n 0, 1) := by decide +kernel
theorem dX5_joined_1 : decode cX5_joined 1 = .ok (.lookupswitch 104 #[(42, 100), (43, 92), (45, 96), (60, 59), (61, 81), (62, 70)], 59) := by decide +kernel
theorem dX5_joined_60 : decode cX5_joined 60 = .ok (.iload_n 1, 1) := by decide +kernel
theorem dX5_joined_61 : decode cX5_joined 61 = .ok (.iload_n 2, 1) := by decide +kernel
theorem dX5_joined_62 : decode cX5_joined 62 = .ok (.if_icmp .ge 7, 3) := by decide +kernel
theorem dX5_joined_65 : decode cX5_joined 65 = .ok (.iconst 1, 1) := by decide +kernel
theorem dX5_joined_66 : decode cX5_joined 66 = .ok (.goto 4, 3) := by decide +kernel
theorem dX5_joined_69 : decode cX5_joined 69 = .ok (.iconst 0, 1) := by decide +kernel
theorem dX5_joined_70 : decode cX5_joined 70 = .ok (.ireturn, 1) := by decide +kernel
theorem dX5_joined_71 : decode cX5_joined 71 = .ok (.iload_n 1, 1) := by decide +kernel
theorem dX5_joined_72 : decode cX5_joined 72 = .ok (.iload_n 2, 1) := by decide +kernel
theorem dX5_joined_73 : decode cX5_joined 73 = .ok (.if_icmp .le 7, 3) := by decide +kernel
theorem dX5_joined_76 : decode cX5_joined 76 = .ok (.iconst 1, 1) := by decide +kernel
theorem dX5_joined_77 : decode cX5_joined 77 = .ok (.goto 4, 3) := by decide +kernel
theorem dX5_joined_80 : decode cX5_joined 80 = .ok (.iconst 0, 1) := by decide +kernel
theorem dX5_joined_81 : decode cX5_joined 81 = .ok (.ireturn, 1) := by decide +kernel
theorem dX5_joined_82 : decode cX5_joined 82 = .ok (.iload_n 1, 1) := by decide +kernel
theorem dX5_joined_83 : decode cX5_joined 83 = .ok (.iload_n 2, 1) := by decide +kernel
theorem dX5_joined_84 : decode cX5_joined 84 = .ok (.if_icmp .ne 7, 3) := by decide +kernel
theorem dX5_joined_87 : decode cX5_joined 87 = .ok (.iconst 1, 1) := by decide +kernel
theorem dX5_joined_88 : decode cX5_joined 88 = .ok (.goto 4, 3) := by decide +kernel
theorem dX5_joined_91 : decode cX5_joined 91 = .ok (.iconst 0, 1) := by decide +kernel
theorem dX5_joined_92 : decode cX5_joined 92 = .ok (.ireturn, 1) := by decide +kernel
theorem dX5_joined_93 : decode cX5_joined 93 = .ok (.iload_n 1, 1) := by decide +kernel
theorem dX5_joined_94 : decode cX5_joined 94 = .ok (.iload_n 2, 1) := by decide +kernel
theorem dX5_joined_95 : decode cX5_joined 95 = .ok (.iadd, 1) := by decide +kernel
theorem dX5_joined_96 : decode cX5_joined 96 = .ok (.ireturn, 1) := by decide +kernel
theorem dX5_joined_97 : decode cX5_joined 97 = .ok (.iload_n 1, 1) := by decide +kernel
theorem dX5_joined_98 : decode cX5_joined 98 = .ok (.iload_n 2, 1) := by decide +kernel
theorem dX5_joined_99 : decode cX5_joined 99 = .ok (.isub, 1) := by decide +kernel
theorem dX5_joined_100 : decode cX5_joined 100 = .ok (.ireturn, 1) := by decide +kernel
theorem dX5_joined_101 : decode cX5_joined 101 = .ok (.iload_n 1, 1) := by decide +kernel
theorem dX5_joined_102 : decode cX5_joined 102 = .ok (.iload_n 2, 1) := by decide +kernel
theorem dX5_joined_103 : decode cX5_joined 103 = .ok (.imul, 1) := by decide +kernel
theorem dX5_joined_104 : decode cX5_joined 104 = .ok (.ireturn, 1) := by decide +kernel
theorem dX5_joined_105 : decode cX5_joined 105 = .ok (.iload_n 2, 1) := by decide +kernel
theorem dX5_joined_106 : decode cX5_joined 106 = .ok (.ifCond .ne 7, 3) := by decide +kernel
theorem dX5_joined_109 : decode cX5_joined 109 = .ok (.iconst 0, 1) := by decide +kernel
theorem dX5_joined_110 : decode cX5_joined 110 = .ok (.goto 6, 3) := by decide +kernel
theorem dX5_joined_113 : decode cX5_joined 113 = .ok (.iload_n 1, 1) := by decide +kernel
theorem dX5_joined_114 : decode cX5_joined 114 = .ok (.iload_n 2, 1) := by decide +kernel
theorem dX5_joined_115 : decode cX5_joined 115 = .ok (.idiv, 1) := by decide +kernel
theorem dX5_joined_116 : decode cX5_joined 116 = .ok (.ireturn, 1) := by decide +kernel
theorem dX6_init_0 : decode cX6_init 0 = .ok (.aload_n 0, 1) := by decide +kernel
theorem dX6_init_1 : decode cX6_init 1 = .ok (.invokespecial 3, 3) := by decide +kernel
theorem dX6_init_4 : decode cX6_init 4 = .ok (.aload_n 0, 1) := by decide +kernel
theorem dX6_init_5 : decode cX6_init 5 = .ok (.bipush 6, 2) := by decide +kernel
theorem dX6_init_7 : decode cX6_init 7 = .ok (.newarray .int, 2) := by decide +kernel
theorem dX6_init_9 : decode cX6_init 9 = .ok (.dup, 1) := by decide +kernel
theorem dX6_init_10 : decode cX6_init 10 = .ok (.iconst 0, 1) := by decide +kernel
theorem dX6_init_11 : decode cX6_init 11 = .ok (.iconst 0, 1) := by decide +kernel
theorem dX6_init_12 : decode cX6_init 12 = .ok (.iastore, 1) := by decide +kernel
theorem dX6_init_13 : decode cX6_init 13 = .ok (.dup, 1) := by decide +kernel
theorem dX6_init_14 : decode cX6_init 14 = .ok (.iconst 1, 1) := by decide +kernel
theorem dX6_init_15 : decode cX6_init 15 = .ok (.iconst 1, 1) := by decide +kernel
theorem dX6_init_16 : decode cX6_init 16 = .ok (.iastore, 1) := by decide +kernel
theorem dX6_init_17 : decode cX6_init 17 = .ok (.dup, 1) := by decide +kernel
theorem dX6_init_18 : decode cX6_init 18 = .ok (.iconst 2, 1) := by decide +kernel
theorem dX6_init_19 : decode cX6_init 19 = .ok (.iconst 3, 1) := by decide +kernel
theorem dX6_init_20 : decode cX6_init 20 = .ok (.iastore, 1) := by decide +kernel
theorem dX6_init_21 : decode cX6_init 21 = .ok (.dup, 1) := by decide +kernel
theorem dX6_init_22 : decode cX6_init 22 = .ok (.iconst 3, 1) := by decide +kernel
theorem dX6_init_23 : decode cX6_init 23 = .ok (.iconst 5, 1) := by decide +kernel
theorem dX6_init_24 : decode cX6_init 24 = .ok (.iastore, 1) := by decide +kernel
theorem dX6_init_25 : decode cX6_init 25 = .ok (.dup, 1) := by decide +kernel
theorem dX6_init_26 : decode cX6_init 26 = .ok (.iconst 4, 1) := by decide +kernel
theorem dX6_init_27 : decode cX6_init 27 = .ok (.bipush 7, 2) := by decide +kernel
theorem dX6_init_29 : decode cX6_init 29 = .ok (.iastore, 1) := by decide +kernel
theorem dX6_init_30 : decode cX6_init 30 = .ok (.dup, 1) := by decide +kernel
theorem dX6_init_31 : decode cX6_init 31 = .ok (.iconst 5, 1) := by decide +kernel
theorem dX6_init_32 : decode cX6_init 32 = .ok (.bipush 9, 2) := by decide +kernel
theorem dX6_init_34 : decode cX6_init 34 = .ok (.iastore, 1) := by decide +kernel
theorem dX6_init_35 : decode cX6_init 35 = .ok (.putfield 9, 3) := by decide +kernel
theorem dX6_init_38 : decode cX6_init 38 = .ok (.aload_n 0, 1) := by decide +kernel
theorem dX6_init_39 : decode cX6_init 39 = .ok (.bipush 20, 2) := by decide +kernel
theorem dX6_init_41 : decode cX6_init 41 = .ok (.newarray .int, 2) := by decide +kernel
theorem dX6_init_43 : decode cX6_init 43 = .ok (.putfield 15, 3) := by decide +kernel
theorem dX6_init_46 : decode cX6_init 46 = .ok (.aload_n 0, 1) := by decide +kernel
theorem dX6_init_47 : decode cX6_init 47 = .ok (.iconst 1, 1) := by decide +kernel
theorem dX6_init_48 : decode cX6_init 48 = .ok (.putfield 18, 3) := by decide +kernel
theorem dX6_init_51 : decode cX6_init 51 = .ok (.aload_n 0, 1) := by decide +kernel
theorem dX6_init_52 : decode cX6_init 52 = .ok (.new 22, 3) := by decide +kernel
theorem dX6_init_55 : decode cX6_init 55 = .ok (.dup, 1) := by decide +kernel
theorem dX6_init_56 : decode cX6_init 56 = .ok (.invokespecial 24, 3) := by decide +kernel
theorem dX6_init_59 : decode cX6_init 59 = .ok (.putfield 25, 3) := by decide +kernel
theorem dX6_init_62 : decode cX6_init 62 = .ok (.aload_n 0, 1) := by decide +kernel
theorem dX6_init_63 : decode cX6_init 63 = .ok (.new 22, 3) := by decide +kernel
theorem dX6_init_66 : decode cX6_init 66 = .ok (.dup, 1) := by decide +kernel
theorem dX6_init_67 : decode cX6_init 67 = .ok (.invokespecial 24, 3) := by decide +kernel
theorem dX6_init_70 : decode cX6_init 70 = .ok (.putfield 29, 3) := by decide +kernel
theorem dX6_init_73 : decode cX6_init 73 = .ok (.aload_n 0, 1) := by decide +kernel
theorem dX6_init_74 : decode cX6_init 74 = .ok (.bipush 7, 2) := by decide +kernel
theorem dX6_init_76 : decode cX6_init 76 = .ok (.newarray .int, 2) := by decide +kernel
theorem dX6_init_78 : decode cX6_init 78 = .ok (.putfield 32, 3) := by decide +kernel
theorem dX6_init_81 : decode cX6_init 81 = .ok (.aload_n 0, 1) := by decide +kernel
theorem dX6_init_82 : decode cX6_init 82 = .ok (.sipush 147, 3) := by decide +kernel
theorem dX6_init_85 : decode cX6_init 85 = .ok (.newarray .int, 2) := by decide +kernel
theorem dX6_init_87 : decode cX6_init 87 = .ok (.putfield 35, 3) := by decide +kernel
theorem dX6_init_90 : decode cX6_init 90 = .ok (.aload_n 0, 1) := by decide +kernel
theorem dX6_init_91 : decode cX6_init 91 = .ok (.sipush 147, 3) := by decide +kernel
theorem dX6_init_94 : decode cX6_init 94 = .ok (.newarray .int, 2) := by decide +kernel
theorem dX6_init_96 : decode cX6_init 96 = .ok (.putfield 38, 3) := by decide +kernel
theorem dX6_init_99 : decode cX6_init 99 = .ok (.return_, 1) := by decide +kernel
theorem dX6_takePrices_0 : decode cX6_takePrices 0 = .ok (.iconst 0, 1) := by decide +kernel
theorem dX6_takePrices_1 : decode cX6_takePrices 1 = .ok (.istore_n 2, 1) := by decide +kernel
theorem dX6_takePrices_2 : decode cX6_takePrices 2 = .ok (.iconst 0, 1) := by decide +kernel
theorem dX6_takePrices_3 : decode cX6_takePrices 3 = .ok (.istore_n 3, 1) := by decide +kernel
theorem dX6_takePrices_4 : decode cX6_takePrices 4 = .ok (.iload_n 3, 1) := by decide +kernel
theorem dX6_takePrices_5 : decode cX6_takePrices 5 = .ok (.bipush 6, 2) := by decide +kernel
theorem dX6_takePrices_7 : decode cX6_takePrices 7 = .ok (.if_icmp .ge 29, 3) := by decide +kernel
theorem dX6_takePrices_10 : decode cX6_takePrices 10 = .ok (.aload_n 0, 1) := by decide +kernel
theorem dX6_takePrices_11 : decode cX6_takePrices 11 = .ok (.getfield 9, 3) := by decide +kernel
theorem dX6_takePrices_14 : decode cX6_takePrices 14 = .ok (.iload_n 3, 1) := by decide +kernel
theorem dX6_takePrices_15 : decode cX6_takePrices 15 = .ok (.aload_n 1, 1) := by decide +kernel
theorem dX6_takePrices_16 : decode cX6_takePrices 16 = .ok (.iload_n 3, 1) := by decide +kernel
theorem dX6_takePrices_17 : decode cX6_takePrices 17 = .ok (.invokevirtual 41, 3) := by decide +kernel
theorem dX6_takePrices_20 : decode cX6_takePrices 20 = .ok (.iastore, 1) := by decide +kernel
theorem dX6_takePrices_21 : decode cX6_takePrices 21 = .ok (.iload_n 2, 1) := by decide +kernel
theorem dX6_takePrices_22 : decode cX6_takePrices 22 = .ok (.aload_n 0, 1) := by decide +kernel
theorem dX6_takePrices_23 : decode cX6_takePrices 23 = .ok (.getfield 9, 3) := by decide +kernel
theorem dX6_takePrices_26 : decode cX6_takePrices 26 = .ok (.iload_n 3, 1) := by decide +kernel
theorem dX6_takePrices_27 : decode cX6_takePrices 27 = .ok (.iaload, 1) := by decide +kernel
theorem dX6_takePrices_28 : decode cX6_takePrices 28 = .ok (.iadd, 1) := by decide +kernel
theorem dX6_takePrices_29 : decode cX6_takePrices 29 = .ok (.istore_n 2, 1) := by decide +kernel
theorem dX6_takePrices_30 : decode cX6_takePrices 30 = .ok (.iinc 3 1, 3) := by decide +kernel
theorem dX6_takePrices_33 : decode cX6_takePrices 33 = .ok (.goto (-29), 3) := by decide +kernel
theorem dX6_takePrices_36 : decode cX6_takePrices 36 = .ok (.iload_n 2, 1) := by decide +kernel
theorem dX6_takePrices_37 : decode cX6_takePrices 37 = .ok (.ireturn, 1) := by decide +kernel
theorem dX6_takeWinds_0 : decode cX6_takeWinds 0 = .ok (.aload_n 0, 1) := by decide +kernel
theorem dX6_takeWinds_1 : decode cX6_takeWinds 1 = .ok (.iconst 0, 1) := by decide +kernel
theorem dX6_takeWinds_2 : decode cX6_takeWinds 2 = .ok (.putfield 18, 3) := by decide +kernel
theorem dX6_takeWinds_5 : decode cX6_takeWinds 5 = .ok (.iconst 0, 1) := by decide +kernel
theorem dX6_takeWinds_6 : decode cX6_takeWinds 6 = .ok (.istore_n 2, 1) := by decide +kernel
theorem dX6_takeWinds_7 : decode cX6_takeWinds 7 = .ok (.iload_n 2, 1) := by decide +kernel
theorem dX6_takeWinds_8 : decode cX6_takeWinds 8 = .ok (.aload_n 1, 1) := by decide +kernel
theorem dX6_takeWinds_9 : decode cX6_takeWinds 9 = .ok (.getfield 47, 3) := by decide +kernel
theorem dX6_takeWinds_12 : decode cX6_takeWinds 12 = .ok (.if_icmp .ge 45, 3) := by decide +kernel
theorem dX6_takeWinds_15 : decode cX6_takeWinds 15 = .ok (.aload_n 0, 1) := by decide +kernel
theorem dX6_takeWinds_16 : decode cX6_takeWinds 16 = .ok (.getfield 18, 3) := by decide +kernel
theorem dX6_takeWinds_19 : decode cX6_takeWinds 19 = .ok (.aload_n 0, 1) := by decide +kernel
theorem dX6_takeWinds_20 : decode cX6_takeWinds 20 = .ok (.getfield 15, 3) := by decide +kernel
theorem dX6_takeWinds_23 : decode cX6_takeWinds 23 = .ok (.arraylength, 1) := by decide +kernel
theorem dX6_takeWinds_24 : decode cX6_takeWinds 24 = .ok (.if_icmp .ge 33, 3) := by decide +kernel
theorem dX6_takeWinds_27 : decode cX6_takeWinds 27 = .ok (.aload_n 0, 1) := by decide +kernel
theorem dX6_takeWinds_28 : decode cX6_takeWinds 28 = .ok (.getfield 15, 3) := by decide +kernel
theorem dX6_takeWinds_31 : decode cX6_takeWinds 31 = .ok (.aload_n 0, 1) := by decide +kernel
theorem dX6_takeWinds_32 : decode cX6_takeWinds 32 = .ok (.getfield 18, 3) := by decide +kernel
theorem dX6_takeWinds_35 : decode cX6_takeWinds 35 = .ok (.aload_n 1, 1) := by decide +kernel
theorem dX6_takeWinds_36 : decode cX6_takeWinds 36 = .ok (.iload_n 2, 1) := by decide +kernel
theorem dX6_takeWinds_37 : decode cX6_takeWinds 37 = .ok (.invokevirtual 50, 3) := by decide +kernel
theorem dX6_takeWinds_40 : decode cX6_takeWinds 40 = .ok (.iastore, 1) := by decide +kernel
theorem dX6_takeWinds_41 : decode cX6_takeWinds 41 = .ok (.aload_n 0, 1) := by decide +kernel
theorem dX6_takeWinds_42 : decode cX6_takeWinds 42 = .ok (.dup, 1) := by decide +kernel
theorem dX6_takeWinds_43 : decode cX6_takeWinds 43 = .ok (.getfield 18, 3) := by decide +kernel
theorem dX6_takeWinds_46 : decode cX6_takeWinds 46 = .ok (.iconst 1, 1) := by decide +kernel
theorem dX6_takeWinds_47 : decode cX6_takeWinds 47 = .ok (.iadd, 1) := by decide +kernel
theorem dX6_takeWinds_48 : decode cX6_takeWinds 48 = .ok (.putfield 18, 3) := by decide +kernel
theorem dX6_takeWinds_51 : decode cX6_takeWinds 51 = .ok (.iinc 2 2, 3) := by decide +kernel
theorem dX6_takeWinds_54 : decode cX6_takeWinds 54 = .ok (.goto (-47), 3) := by decide +kernel
theorem dX6_takeWinds_57 : decode cX6_takeWinds 57 = .ok (.aload_n 0, 1) := by decide +kernel
theorem dX6_takeWinds_58 : decode cX6_takeWinds 58 = .ok (.getfield 18, 3) := by decide +kernel
theorem dX6_takeWinds_61 : decode cX6_takeWinds 61 = .ok (.ireturn, 1) := by decide +kernel
theorem dX6_changeRules_0 : decode cX6_changeRules 0 = .ok (.aload_n 0, 1) := by decide +kernel
theorem dX6_changeRules_1 : decode cX6_changeRules 1 = .ok (.getfield 25, 3) := by decide +kernel
theorem dX6_changeRules_4 : decode cX6_changeRules 4 = .ok (.astore_n 1, 1) := by decide +kernel
theorem dX6_changeRules_5 : decode cX6_changeRules 5 = .ok (.aload_n 0, 1) := by decide +kernel
theorem dX6_changeRules_6 : decode cX6_changeRules 6 = .ok (.aload_n 0, 1) := by decide +kernel
theorem dX6_changeRules_7 : decode cX6_changeRules 7 = .ok (.getfield 29, 3) := by decide +kernel
theorem dX6_changeRules_10 : decode cX6_changeRules 10 = .ok (.putfield 25, 3) := by decide +kernel
theorem dX6_changeRules_13 : decode cX6_changeRules 13 = .ok (.aload_n 0, 1) := by decide +kernel
theorem dX6_changeRules_14 : decode cX6_changeRules 14 = .ok (.aload_n 1, 1) := by decide +kernel
theorem dX6_changeRules_15 : decode cX6_changeRules 15 = .ok (.putfield 29, 3) := by decide +kernel
theorem dX6_changeRules_18 : decode cX6_changeRules 18 = .ok (.return_, 1) := by decide +kernel
theorem dX6_priceOf_0 : decode cX6_priceOf 0 = .ok (.iload_n 1, 1) := by decide +kernel
theorem dX6_priceOf_1 : decode cX6_priceOf 1 = .ok (.ifCond .lt 18, 3) := by decide +kernel
theorem dX6_priceOf_4 : decode cX6_priceOf 4 = .ok (.iload_n 1, 1) := by decide +kernel
theorem dX6_priceOf_5 : decode cX6_priceOf 5 = .ok (.bipush 6, 2) := by decide +kernel
theorem dX6_priceOf_7 : decode cX6_priceOf 7 = .ok (.if_icmp .ge 12, 3) := by decide +kernel
theorem dX6_priceOf_10 : decode cX6_priceOf 10 = .ok (.aload_n 0, 1) := by decide +kernel
theorem dX6_priceOf_11 : decode cX6_priceOf 11 = .ok (.getfield 9, 3) := by decide +kernel
theorem dX6_priceOf_14 : decode cX6_priceOf 14 = .ok (.iload_n 1, 1) := by decide +kernel
theorem dX6_priceOf_15 : decode cX6_priceOf 15 = .ok (.iaload, 1) := by decide +kernel
theorem dX6_priceOf_16 : decode cX6_priceOf 16 = .ok (.goto 4, 3) := by decide +kernel
theorem dX6_priceOf_19 : decode cX6_priceOf 19 = .ok (.iconst 0, 1) := by decide +kernel
theorem dX6_priceOf_20 : decode cX6_priceOf 20 = .ok (.ireturn, 1) := by decide +kernel
theorem dX6_windAt_0 : decode cX6_windAt 0 = .ok (.aload_n 0, 1) := by decide +kernel
theorem dX6_windAt_1 : decode cX6_windAt 1 = .ok (.getfield 18, 3) := by decide +kernel
theorem dX6_windAt_4 : decode cX6_windAt 4 = .ok (.ifCond .le 12, 3) := by decide +kernel
theorem dX6_windAt_7 : decode cX6_windAt 7 = .ok (.iload_n 1, 1) := by decide +kernel
theorem dX6_windAt_8 : decode cX6_windAt 8 = .ok (.aload_n 0, 1) := by decide +kernel
theorem dX6_windAt_9 : decode cX6_windAt 9 = .ok (.getfield 18, 3) := by decide +kernel
theorem dX6_windAt_12 : decode cX6_windAt 12 = .ok (.irem, 1) := by decide +kernel
theorem dX6_windAt_13 : decode cX6_windAt 13 = .ok (.goto 4, 3) := by decide +kernel
theorem dX6_windAt_16 : decode cX6_windAt 16 = .ok (.iconst 0, 1) := by decide +kernel
theorem dX6_windAt_17 : decode cX6_windAt 17 = .ok (.istore_n 2, 1) := by decide +kernel
theorem dX6_windAt_18 : decode cX6_windAt 18 = .ok (.iload_n 2, 1) := by decide +kernel
theorem dX6_windAt_19 : decode cX6_windAt 19 = .ok (.ifCond .lt 21, 3) := by decide +kernel
theorem dX6_windAt_22 : decode cX6_windAt 22 = .ok (.iload_n 2, 1) := by decide +kernel
theorem dX6_windAt_23 : decode cX6_windAt 23 = .ok (.aload_n 0, 1) := by decide +kernel
theorem dX6_windAt_24 : decode cX6_windAt 24 = .ok (.getfield 15, 3) := by decide +kernel
theorem dX6_windAt_27 : decode cX6_windAt 27 = .ok (.arraylength, 1) := by decide +kernel
theorem dX6_windAt_28 : decode cX6_windAt 28 = .ok (.if_icmp .ge 12, 3) := by decide +kernel
theorem dX6_windAt_31 : decode cX6_windAt 31 = .ok (.aload_n 0, 1) := by decide +kernel
theorem dX6_windAt_32 : decode cX6_windAt 32 = .ok (.getfield 15, 3) := by decide +kernel
theorem dX6_windAt_35 : decode cX6_windAt 35 = .ok (.iload_n 2, 1) := by decide +kernel
theorem dX6_windAt_36 : decode cX6_windAt 36 = .ok (.iaload, 1) := by decide +kernel
theorem dX6_windAt_37 : decode cX6_windAt 37 = .ok (.goto 4, 3) := by decide +kernel
theorem dX6_windAt_40 : decode cX6_windAt 40 = .ok (.iconst 0, 1) := by decide +kernel
theorem dX6_windAt_41 : decode cX6_windAt 41 = .ok (.ireturn, 1) := by decide +kernel
theorem dX6_weight_0 : decode cX6_weight 0 = .ok (.aload_n 0, 1) := by decide +kernel
theorem dX6_weight_1 : decode cX6_weight 1 = .ok (.aload_n 1, 1) := by decide +kernel
theorem dX6_weight_2 : decode cX6_weight 2 = .ok (.iload_n 2, 1) := by decide +kernel
theorem dX6_weight_3 : decode cX6_weight 3 = .ok (.aload_n 1, 1) := by decide +kernel
theorem dX6_weight_4 : decode cX6_weight 4 = .ok (.getfield 53, 3) := by decide +kernel
theorem dX6_weight_7 : decode cX6_weight 7 = .ok (.iload_n 2, 1) := by decide +kernel
theorem dX6_weight_8 : decode cX6_weight 8 = .ok (.iaload, 1) := by decide +kernel
theorem dX6_weight_9 : decode cX6_weight 9 = .ok (.aload_n 1, 1) := by decide +kernel
theorem dX6_weight_10 : decode cX6_weight 10 = .ok (.iload_n 2, 1) := by decide +kernel
theorem dX6_weight_11 : decode cX6_weight 11 = .ok (.invokevirtual 58, 3) := by decide +kernel
theorem dX6_weight_14 : decode cX6_weight 14 = .ok (.invokevirtual 61, 3) := by decide +kernel
theorem dX6_weight_17 : decode cX6_weight 17 = .ok (.ireturn, 1) := by decide +kernel
theorem dX6_weightAs_0 : decode cX6_weightAs 0 = .ok (.aload_n 0, 1) := by decide +kernel
theorem dX6_weightAs_1 : decode cX6_weightAs 1 = .ok (.getfield 32, 3) := by decide +kernel
theorem dX6_weightAs_4 : decode cX6_weightAs 4 = .ok (.iconst 0, 1) := by decide +kernel
theorem dX6_weightAs_5 : decode cX6_weightAs 5 = .ok (.aload_n 1, 1) := by decide +kernel
theorem dX6_weightAs_6 : decode cX6_weightAs 6 = .ok (.getfield 65, 3) := by decide +kernel
theorem dX6_weightAs_9 : decode cX6_weightAs 9 = .ok (.iload_n 2, 1) := by decide +kernel
theorem dX6_weightAs_10 : decode cX6_weightAs 10 = .ok (.iaload, 1) := by decide +kernel
theorem dX6_weightAs_11 : decode cX6_weightAs 11 = .ok (.iastore, 1) := by decide +kernel
theorem dX6_weightAs_12 : decode cX6_weightAs 12 = .ok (.aload_n 0, 1) := by decide +kernel
theorem dX6_weightAs_13 : decode cX6_weightAs 13 = .ok (.getfield 32, 3) := by decide +kernel
theorem dX6_weightAs_16 : decode cX6_weightAs 16 = .ok (.iconst 1, 1) := by decide +kernel
theorem dX6_weightAs_17 : decode cX6_weightAs 17 = .ok (.aload_n 0, 1) := by decide +kernel
theorem dX6_weightAs_18 : decode cX6_weightAs 18 = .ok (.iload_n 3, 1) := by decide +kernel
theorem dX6_weightAs_19 : decode cX6_weightAs 19 = .ok (.invokevirtual 68, 3) := by decide +kernel
theorem dX6_weightAs_22 : decode cX6_weightAs 22 = .ok (.iastore, 1) := by decide +kernel
theorem dX6_weightAs_23 : decode cX6_weightAs 23 = .ok (.aload_n 0, 1) := by decide +kernel
theorem dX6_weightAs_24 : decode cX6_weightAs 24 = .ok (.getfield 32, 3) := by decide +kernel
theorem dX6_weightAs_27 : decode cX6_weightAs 27 = .ok (.iconst 2, 1) := by decide +kernel
theorem dX6_weightAs_28 : decode cX6_weightAs 28 = .ok (.iload 4, 2) := by decide +kernel
theorem dX6_weightAs_30 : decode cX6_weightAs 30 = .ok (.iastore, 1) := by decide +kernel
theorem dX6_weightAs_31 : decode cX6_weightAs 31 = .ok (.aload_n 0, 1) := by decide +kernel
theorem dX6_weightAs_32 : decode cX6_weightAs 32 = .ok (.getfield 32, 3) := by decide +kernel
theorem dX6_weightAs_35 : decode cX6_weightAs 35 = .ok (.iconst 3, 1) := by decide +kernel
theorem dX6_weightAs_36 : decode cX6_weightAs 36 = .ok (.aload_n 1, 1) := by decide +kernel
theorem dX6_weightAs_37 : decode cX6_weightAs 37 = .ok (.getfield 71, 3) := by decide +kernel
theorem dX6_weightAs_40 : decode cX6_weightAs 40 = .ok (.iload_n 2, 1) := by decide +kernel
theorem dX6_weightAs_41 : decode cX6_weightAs 41 = .ok (.iaload, 1) := by decide +kernel
theorem dX6_weightAs_42 : decode cX6_weightAs 42 = .ok (.invokestatic 74, 3) := by decide +kernel
theorem dX6_weightAs_45 : decode cX6_weightAs 45 = .ok (.iastore, 1) := by decide +kernel
theorem dX6_weightAs_46 : decode cX6_weightAs 46 = .ok (.aload_n 0, 1) := by decide +kernel
theorem dX6_weightAs_47 : decode cX6_weightAs 47 = .ok (.getfield 32, 3) := by decide +kernel
theorem dX6_weightAs_50 : decode cX6_weightAs 50 = .ok (.iconst 4, 1) := by decide +kernel
theorem dX6_weightAs_51 : decode cX6_weightAs 51 = .ok (.aload_n 1, 1) := by decide +kernel
theorem dX6_weightAs_52 : decode cX6_weightAs 52 = .ok (.getfield 79, 3) := by decide +kernel
theorem dX6_weightAs_55 : decode cX6_weightAs 55 = .ok (.invokestatic 74, 3) := by decide +kernel
theorem dX6_weightAs_58 : decode cX6_weightAs 58 = .ok (.iastore, 1) := by decide +kernel
theorem dX6_weightAs_59 : decode cX6_weightAs 59 = .ok (.aload_n 0, 1) := by decide +kernel
theorem dX6_weightAs_60 : decode cX6_weightAs 60 = .ok (.getfield 32, 3) := by decide +kernel
theorem dX6_weightAs_63 : decode cX6_weightAs 63 = .ok (.iconst 5, 1) := by decide +kernel
theorem dX6_weightAs_64 : decode cX6_weightAs 64 = .ok (.iload_n 2, 1) := by decide +kernel
theorem dX6_weightAs_65 : decode cX6_weightAs 65 = .ok (.iastore, 1) := by decide +kernel
theorem dX6_weightAs_66 : decode cX6_weightAs 66 = .ok (.aload_n 0, 1) := by decide +kernel
theorem dX6_weightAs_67 : decode cX6_weightAs 67 = .ok (.getfield 32, 3) := by decide +kernel
theorem dX6_weightAs_70 : decode cX6_weightAs 70 = .ok (.bipush 6, 2) := by decide +kernel
theorem dX6_weightAs_72 : decode cX6_weightAs 72 = .ok (.aload_n 1, 1) := by decide +kernel
theorem dX6_weightAs_73 : decode cX6_weightAs 73 = .ok (.getfield 82, 3) := by decide +kernel
theorem dX6_weightAs_76 : decode cX6_weightAs 76 = .ok (.bipush 7, 2) := by decide +kernel
theorem dX6_weightAs_78 : decode cX6_weightAs 78 = .ok (.irem, 1) := by decide +kernel
theorem dX6_weightAs_79 : decode cX6_weightAs 79 = .ok (.iastore, 1) := by decide +kernel
theorem dX6_weightAs_80 : decode cX6_weightAs 80 = .ok (.aload_n 0, 1) := by decide +kernel
theorem dX6_weightAs_81 : decode cX6_weightAs 81 = .ok (.getfield 25, 3) := by decide +kernel
theorem dX6_weightAs_84 : decode cX6_weightAs 84 = .ok (.aload_n 0, 1) := by decide +kernel
theorem dX6_weightAs_85 : decode cX6_weightAs 85 = .ok (.getfield 32, 3) := by decide +kernel
theorem dX6_weightAs_88 : decode cX6_weightAs 88 = .ok (.invokevirtual 85, 3) := by decide +kernel
theorem dX6_weightAs_91 : decode cX6_weightAs 91 = .ok (.iconst 0, 1) := by decide +kernel
theorem dX6_weightAs_92 : decode cX6_weightAs 92 = .ok (.bipush 20, 2) := by decide +kernel
theorem dX6_weightAs_94 : decode cX6_weightAs 94 = .ok (.invokestatic 89, 3) := by decide +kernel
theorem dX6_weightAs_97 : decode cX6_weightAs 97 = .ok (.ireturn, 1) := by decide +kernel
theorem dX6_ballast_0 : decode cX6_ballast 0 = .ok (.aload_n 0, 1) := by decide +kernel
theorem dX6_ballast_1 : decode cX6_ballast 1 = .ok (.invokevirtual 93, 3) := by decide +kernel
theorem dX6_ballast_4 : decode cX6_ballast 4 = .ok (.aload_n 0, 1) := by decide +kernel
theorem dX6_ballast_5 : decode cX6_ballast 5 = .ok (.aload_n 1, 1) := by decide +kernel
theorem dX6_ballast_6 : decode cX6_ballast 6 = .ok (.invokevirtual 96, 3) := by decide +kernel
theorem dX6_ballast_9 : decode cX6_ballast 9 = .ok (.ireturn, 1) := by decide +kernel
theorem dX6_begin_0 : decode cX6_begin 0 = .ok (.aload_n 0, 1) := by decide +kernel
theorem dX6_begin_1 : decode cX6_begin 1 = .ok (.dup, 1) := by decide +kernel
theorem dX6_begin_2 : decode cX6_begin 2 = .ok (.getfield 100, 3) := by decide +kernel
theorem dX6_begin_5 : decode cX6_begin 5 = .ok (.iconst 1, 1) := by decide +kernel
theorem dX6_begin_6 : decode cX6_begin 6 = .ok (.iadd, 1) := by decide +kernel
theorem dX6_begin_7 : decode cX6_begin 7 = .ok (.putfield 100, 3) := by decide +kernel
theorem dX6_begin_10 : decode cX6_begin 10 = .ok (.return_, 1) := by decide +kernel
theorem dX6_ballastInHours_0 : decode cX6_ballastInHours 0 = .ok (.aload_n 0, 1) := by decide +kernel
theorem dX6_ballastInHours_1 : decode cX6_ballastInHours 1 = .ok (.getfield 25, 3) := by decide +kernel
theorem dX6_ballastInHours_4 : decode cX6_ballastInHours 4 = .ok (.getfield 103, 3) := by decide +kernel
theorem dX6_ballastInHours_7 : decode cX6_ballastInHours 7 = .ok (.ifCond .eq 13, 3) := by decide +kernel
theorem dX6_ballastInHours_10 : decode cX6_ballastInHours 10 = .ok (.aload_n 1, 1) := by decide +kernel
theorem dX6_ballastInHours_11 : decode cX6_ballastInHours 11 = .ok (.getfield 79, 3) := by decide +kernel
theorem dX6_ballastInHours_14 : decode cX6_ballastInHours 14 = .ok (.invokestatic 74, 3) := by decide +kernel
theorem dX6_ballastInHours_17 : decode cX6_ballastInHours 17 = .ok (.goto 4, 3) := by decide +kernel
theorem dX6_ballastInHours_20 : decode cX6_ballastInHours 20 = .ok (.iconst 0, 1) := by decide +kernel
theorem dX6_ballastInHours_21 : decode cX6_ballastInHours 21 = .ok (.istore_n 2, 1) := by decide +kernel
theorem dX6_ballastInHours_22 : decode cX6_ballastInHours 22 = .ok (.aload_n 0, 1) := by decide +kernel
theorem dX6_ballastInHours_23 : decode cX6_ballastInHours 23 = .ok (.getfield 25, 3) := by decide +kernel
theorem dX6_ballastInHours_26 : decode cX6_ballastInHours 26 = .ok (.getfield 107, 3) := by decide +kernel
theorem dX6_ballastInHours_29 : decode cX6_ballastInHours 29 = .ok (.ifCond .eq 13, 3) := by decide +kernel
theorem dX6_ballastInHours_32 : decode cX6_ballastInHours 32 = .ok (.aload_n 1, 1) := by decide +kernel
theorem dX6_ballastInHours_33 : decode cX6_ballastInHours 33 = .ok (.getfield 82, 3) := by decide +kernel
theorem dX6_ballastInHours_36 : decode cX6_ballastInHours 36 = .ok (.bipush 7, 2) := by decide +kernel
theorem dX6_ballastInHours_38 : decode cX6_ballastInHours 38 = .ok (.irem, 1) := by decide +kernel
theorem dX6_ballastInHours_39 : decode cX6_ballastInHours 39 = .ok (.goto 4, 3) := by decide +kernel
theorem dX6_ballastInHours_42 : decode cX6_ballastInHours 42 = .ok (.iconst 0, 1) := by decide +kernel
theorem dX6_ballastInHours_43 : decode cX6_ballastInHours 43 = .ok (.istore_n 3, 1) := by decide +kernel
theorem dX6_ballastInHours_44 : decode cX6_ballastInHours 44 = .ok (.iload_n 2, 1) := by decide +kernel
theorem dX6_ballastInHours_45 : decode cX6_ballastInHours 45 = .ok (.bipush 7, 2) := by decide +kernel
theorem dX6_ballastInHours_47 : decode cX6_ballastInHours 47 = .ok (.imul, 1) := by decide +kernel
theorem dX6_ballastInHours_48 : decode cX6_ballastInHours 48 = .ok (.iload_n 3, 1) := by decide +kernel
theorem dX6_ballastInHours_49 : decode cX6_ballastInHours 49 = .ok (.iadd, 1) := by decide +kernel
theorem dX6_ballastInHours_50 : decode cX6_ballastInHours 50 = .ok (.iconst 0, 1) := by decide +kernel
theorem dX6_ballastInHours_51 : decode cX6_ballastInHours 51 = .ok (.aload_n 0, 1) := by decide +kernel
theorem dX6_ballastInHours_52 : decode cX6_ballastInHours 52 = .ok (.getfield 38, 3) := by decide +kernel
theorem dX6_ballastInHours_55 : decode cX6_ballastInHours 55 = .ok (.arraylength, 1) := by decide +kernel
theorem dX6_ballastInHours_56 : decode cX6_ballastInHours 56 = .ok (.iconst 1, 1) := by decide +kernel
theorem dX6_ballastInHours_57 : decode cX6_ballastInHours 57 = .ok (.isub, 1) := by decide +kernel
theorem dX6_ballastInHours_58 : decode cX6_ballastInHours 58 = .ok (.invokestatic 89, 3) := by decide +kernel
theorem dX6_ballastInHours_61 : decode cX6_ballastInHours 61 = .ok (.istore 4, 2) := by decide +kernel
theorem dX6_ballastInHours_63 : decode cX6_ballastInHours 63 = .ok (.aload_n 0, 1) := by decide +kernel
theorem dX6_ballastInHours_64 : decode cX6_ballastInHours 64 = .ok (.getfield 38, 3) := by decide +kernel
theorem dX6_ballastInHours_67 : decode cX6_ballastInHours 67 = .ok (.iload 4, 2) := by decide +kernel
theorem dX6_ballastInHours_69 : decode cX6_ballastInHours 69 = .ok (.iaload, 1) := by decide +kernel
theorem dX6_ballastInHours_70 : decode cX6_ballastInHours 70 = .ok (.aload_n 0, 1) := by decide +kernel
theorem dX6_ballastInHours_71 : decode cX6_ballastInHours 71 = .ok (.getfield 100, 3) := by decide +kernel
theorem dX6_ballastInHours_74 : decode cX6_ballastInHours 74 = .ok (.if_icmp .eq 77, 3) := by decide +kernel
theorem dX6_ballastInHours_77 : decode cX6_ballastInHours 77 = .ok (.iconst 0, 1) := by decide +kernel
theorem dX6_ballastInHours_78 : decode cX6_ballastInHours 78 = .ok (.istore 5, 2) := by decide +kernel
theorem dX6_ballastInHours_80 : decode cX6_ballastInHours 80 = .ok (.iconst 0, 1) := by decide +kernel
theorem dX6_ballastInHours_81 : decode cX6_ballastInHours 81 = .ok (.istore 6, 2) := by decide +kernel
theorem dX6_ballastInHours_83 : decode cX6_ballastInHours 83 = .ok (.iload 6, 2) := by decide +kernel
theorem dX6_ballastInHours_85 : decode cX6_ballastInHours 85 = .ok (.aload_n 1, 1) := by decide +kernel
theorem dX6_ballastInHours_86 : decode cX6_ballastInHours 86 = .ok (.getfield 110, 3) := by decide +kernel
theorem dX6_ballastInHours_89 : decode cX6_ballastInHours 89 = .ok (.if_icmp .ge 42, 3) := by decide +kernel
theorem dX6_ballastInHours_92 : decode cX6_ballastInHours 92 = .ok (.iload 5, 2) := by decide +kernel
theorem dX6_ballastInHours_94 : decode cX6_ballastInHours 94 = .ok (.aload_n 0, 1) := by decide +kernel
theorem dX6_ballastInHours_95 : decode cX6_ballastInHours 95 = .ok (.aload_n 1, 1) := by decide +kernel
theorem dX6_ballastInHours_96 : decode cX6_ballastInHours 96 = .ok (.iload 6, 2) := by decide +kernel
theorem dX6_ballastInHours_98 : decode cX6_ballastInHours 98 = .ok (.aload_n 1, 1) := by decide +kernel
theorem dX6_ballastInHours_99 : decode cX6_ballastInHours 99 = .ok (.getfield 53, 3) := by decide +kernel
theorem dX6_ballastInHours_102 : decode cX6_ballastInHours 102 = .ok (.iload 6, 2) := by decide +kernel
theorem dX6_ballastInHours_104 : decode cX6_ballastInHours 104 = .ok (.iaload, 1) := by decide +kernel
theorem dX6_ballastInHours_105 : decode cX6_ballastInHours 105 = .ok (.aload_n 1, 1) := by decide +kernel
theorem dX6_ballastInHours_106 : decode cX6_ballastInHours 106 = .ok (.iload 6, 2) := by decide +kernel
theorem dX6_ballastInHours_108 : decode cX6_ballastInHours 108 = .ok (.invokevirtual 58, 3) := by decide +kernel
theorem dX6_ballastInHours_111 : decode cX6_ballastInHours 111 = .ok (.invokevirtual 61, 3) := by decide +kernel
theorem dX6_ballastInHours_114 : decode cX6_ballastInHours 114 = .ok (.aload_n 1, 1) := by decide +kernel
theorem dX6_ballastInHours_115 : decode cX6_ballastInHours 115 = .ok (.getfield 71, 3) := by decide +kernel
theorem dX6_ballastInHours_118 : decode cX6_ballastInHours 118 = .ok (.iload 6, 2) := by decide +kernel
theorem dX6_ballastInHours_120 : decode cX6_ballastInHours 120 = .ok (.iaload, 1) := by decide +kernel
theorem dX6_ballastInHours_121 : decode cX6_ballastInHours 121 = .ok (.imul, 1) := by decide +kernel
theorem dX6_ballastInHours_122 : decode cX6_ballastInHours 122 = .ok (.iadd, 1) := by decide +kernel
theorem dX6_ballastInHours_123 : decode cX6_ballastInHours 123 = .ok (.istore 5, 2) := by decide +kernel
theorem dX6_ballastInHours_125 : decode cX6_ballastInHours 125 = .ok (.iinc 6 1, 3) := by decide +kernel
theorem dX6_ballastInHours_128 : decode cX6_ballastInHours 128 = .ok (.goto (-45), 3) := by decide +kernel
theorem dX6_ballastInHours_131 : decode cX6_ballastInHours 131 = .ok (.aload_n 0, 1) := by decide +kernel
theorem dX6_ballastInHours_132 : decode cX6_ballastInHours 132 = .ok (.getfield 38, 3) := by decide +kernel
theorem dX6_ballastInHours_135 : decode cX6_ballastInHours 135 = .ok (.iload 4, 2) := by decide +kernel
theorem dX6_ballastInHours_137 : decode cX6_ballastInHours 137 = .ok (.aload_n 0, 1) := by decide +kernel
theorem dX6_ballastInHours_138 : decode cX6_ballastInHours 138 = .ok (.getfield 100, 3) := by decide +kernel
theorem dX6_ballastInHours_141 : decode cX6_ballastInHours 141 = .ok (.iastore, 1) := by decide +kernel
theorem dX6_ballastInHours_142 : decode cX6_ballastInHours 142 = .ok (.aload_n 0, 1) := by decide +kernel
theorem dX6_ballastInHours_143 : decode cX6_ballastInHours 143 = .ok (.getfield 35, 3) := by decide +kernel
theorem dX6_ballastInHours_146 : decode cX6_ballastInHours 146 = .ok (.iload 4, 2) := by decide +kernel
theorem dX6_ballastInHours_148 : decode cX6_ballastInHours 148 = .ok (.iload 5, 2) := by decide +kernel
theorem dX6_ballastInHours_150 : decode cX6_ballastInHours 150 = .ok (.iastore, 1) := by decide +kernel
theorem dX6_ballastInHours_151 : decode cX6_ballastInHours 151 = .ok (.aload_n 0, 1) := by decide +kernel
theorem dX6_ballastInHours_152 : decode cX6_ballastInHours 152 = .ok (.getfield 35, 3) := by decide +kernel
theorem dX6_ballastInHours_155 : decode cX6_ballastInHours 155 = .ok (.iload 4, 2) := by decide +kernel
theorem dX6_ballastInHours_157 : decode cX6_ballastInHours 157 = .ok (.iaload, 1) := by decide +kernel
theorem dX6_ballastInHours_158 : decode cX6_ballastInHours 158 = .ok (.ireturn, 1) := by decide +kernel
theorem dX6_letHoursGo_0 : decode cX6_letHoursGo 0 = .ok (.iconst 0, 1) := by decide +kernel
theorem dX6_letHoursGo_1 : decode cX6_letHoursGo 1 = .ok (.istore_n 3, 1) := by decide +kernel
theorem dX6_letHoursGo_2 : decode cX6_letHoursGo 2 = .ok (.iconst 0, 1) := by decide +kernel
theorem dX6_letHoursGo_3 : decode cX6_letHoursGo 3 = .ok (.istore 4, 2) := by decide +kernel
theorem dX6_letHoursGo_5 : decode cX6_letHoursGo 5 = .ok (.iload 4, 2) := by decide +kernel
theorem dX6_letHoursGo_7 : decode cX6_letHoursGo 7 = .ok (.iload_n 2, 1) := by decide +kernel
theorem dX6_letHoursGo_8 : decode cX6_letHoursGo 8 = .ok (.if_icmp .ge 135, 3) := by decide +kernel
theorem dX6_letHoursGo_11 : decode cX6_letHoursGo 11 = .ok (.aload_n 0, 1) := by decide +kernel
theorem dX6_letHoursGo_12 : decode cX6_letHoursGo 12 = .ok (.aload_n 1, 1) := by decide +kernel
theorem dX6_letHoursGo_13 : decode cX6_letHoursGo 13 = .ok (.getfield 82, 3) := by decide +kernel
theorem dX6_letHoursGo_16 : decode cX6_letHoursGo 16 = .ok (.invokevirtual 113, 3) := by decide +kernel
theorem dX6_letHoursGo_19 : decode cX6_letHoursGo 19 = .ok (.istore 5, 2) := by decide +kernel
theorem dX6_letHoursGo_21 : decode cX6_letHoursGo 21 = .ok (.aload_n 1, 1) := by decide +kernel
theorem dX6_letHoursGo_22 : decode cX6_letHoursGo 22 = .ok (.aload_n 1, 1) := by decide +kernel
theorem dX6_letHoursGo_23 : decode cX6_letHoursGo 23 = .ok (.getfield 79, 3) := by decide +kernel
theorem dX6_letHoursGo_26 : decode cX6_letHoursGo 26 = .ok (.aload_n 0, 1) := by decide +kernel
theorem dX6_letHoursGo_27 : decode cX6_letHoursGo 27 = .ok (.aload_n 1, 1) := by decide +kernel
theorem dX6_letHoursGo_28 : decode cX6_letHoursGo 28 = .ok (.invokevirtual 96, 3) := by decide +kernel
theorem dX6_letHoursGo_31 : decode cX6_letHoursGo 31 = .ok (.iload 5, 2) := by decide +kernel
theorem dX6_letHoursGo_33 : decode cX6_letHoursGo 33 = .ok (.aload_n 1, 1) := by decide +kernel
theorem dX6_letHoursGo_34 : decode cX6_letHoursGo 34 = .ok (.getfield 116, 3) := by decide +kernel
theorem dX6_letHoursGo_37 : decode cX6_letHoursGo 37 = .ok (.invokestatic 119, 3) := by decide +kernel
theorem dX6_letHoursGo_40 : decode cX6_letHoursGo 40 = .ok (.invokestatic 122, 3) := by decide +kernel
theorem dX6_letHoursGo_43 : decode cX6_letHoursGo 43 = .ok (.putfield 79, 3) := by decide +kernel
theorem dX6_letHoursGo_46 : decode cX6_letHoursGo 46 = .ok (.iload 5, 2) := by decide +kernel
theorem dX6_letHoursGo_48 : decode cX6_letHoursGo 48 = .ok (.aload_n 1, 1) := by decide +kernel
theorem dX6_letHoursGo_49 : decode cX6_letHoursGo 49 = .ok (.getfield 116, 3) := by decide +kernel
theorem dX6_letHoursGo_52 : decode cX6_letHoursGo 52 = .ok (.imul, 1) := by decide +kernel
theorem dX6_letHoursGo_53 : decode cX6_letHoursGo 53 = .ok (.invokestatic 74, 3) := by decide +kernel
theorem dX6_letHoursGo_56 : decode cX6_letHoursGo 56 = .ok (.iconst 3, 1) := by decide +kernel
theorem dX6_letHoursGo_57 : decode cX6_letHoursGo 57 = .ok (.idiv, 1) := by decide +kernel
theorem dX6_letHoursGo_58 : decode cX6_letHoursGo 58 = .ok (.aload_n 1, 1) := by decide +kernel
theorem dX6_letHoursGo_59 : decode cX6_letHoursGo 59 = .ok (.getfield 79, 3) := by decide +kernel
theorem dX6_letHoursGo_62 : decode cX6_letHoursGo 62 = .ok (.invokestatic 74, 3) := by decide +kernel
theorem dX6_letHoursGo_65 : decode cX6_letHoursGo 65 = .ok (.iconst 2, 1) := by decide +kernel
theorem dX6_letHoursGo_66 : decode cX6_letHoursGo 66 = .ok (.idiv, 1) := by decide +kernel
theorem dX6_letHoursGo_67 : decode cX6_letHoursGo 67 = .ok (.isub, 1) := by decide +kernel
theorem dX6_letHoursGo_68 : decode cX6_letHoursGo 68 = .ok (.istore 6, 2) := by decide +kernel
theorem dX6_letHoursGo_70 : decode cX6_letHoursGo 70 = .ok (.aload_n 1, 1) := by decide +kernel
theorem dX6_letHoursGo_71 : decode cX6_letHoursGo 71 = .ok (.aload_n 1, 1) := by decide +kernel
theorem dX6_letHoursGo_72 : decode cX6_letHoursGo 72 = .ok (.getfield 126, 3) := by decide +kernel
theorem dX6_letHoursGo_75 : decode cX6_letHoursGo 75 = .ok (.iload 6, 2) := by decide +kernel
theorem dX6_letHoursGo_77 : decode cX6_letHoursGo 77 = .ok (.iconst 0, 1) := by decide +kernel
theorem dX6_letHoursGo_78 : decode cX6_letHoursGo 78 = .ok (.invokestatic 129, 3) := by decide +kernel
theorem dX6_letHoursGo_81 : decode cX6_letHoursGo 81 = .ok (.iadd, 1) := by decide +kernel
theorem dX6_letHoursGo_82 : decode cX6_letHoursGo 82 = .ok (.sipush 9999, 3) := by decide +kernel
theorem dX6_letHoursGo_85 : decode cX6_letHoursGo 85 = .ok (.invokestatic 132, 3) := by decide +kernel
theorem dX6_letHoursGo_88 : decode cX6_letHoursGo 88 = .ok (.putfield 126, 3) := by decide +kernel
theorem dX6_letHoursGo_91 : decode cX6_letHoursGo 91 = .ok (.aload_n 1, 1) := by decide +kernel
theorem dX6_letHoursGo_92 : decode cX6_letHoursGo 92 = .ok (.getfield 79, 3) := by decide +kernel
theorem dX6_letHoursGo_95 : decode cX6_letHoursGo 95 = .ok (.invokestatic 74, 3) := by decide +kernel
theorem dX6_letHoursGo_98 : decode cX6_letHoursGo 98 = .ok (.bipush 15, 2) := by decide +kernel
theorem dX6_letHoursGo_100 : decode cX6_letHoursGo 100 = .ok (.if_icmp .lt 27, 3) := by decide +kernel
theorem dX6_letHoursGo_103 : decode cX6_letHoursGo 103 = .ok (.aload_n 1, 1) := by decide +kernel
theorem dX6_letHoursGo_104 : decode cX6_letHoursGo 104 = .ok (.aload_n 1, 1) := by decide +kernel
theorem dX6_letHoursGo_105 : decode cX6_letHoursGo 105 = .ok (.getfield 135, 3) := by decide +kernel
theorem dX6_letHoursGo_108 : decode cX6_letHoursGo 108 = .ok (.iconst 1, 1) := by decide +kernel
theorem dX6_letHoursGo_109 : decode cX6_letHoursGo 109 = .ok (.iadd, 1) := by decide +kernel
theorem dX6_letHoursGo_110 : decode cX6_letHoursGo 110 = .ok (.sipush 999, 3) := by decide +kernel
theorem dX6_letHoursGo_113 : decode cX6_letHoursGo 113 = .ok (.invokestatic 132, 3) := by decide +kernel
theorem dX6_letHoursGo_116 : decode cX6_letHoursGo 116 = .ok (.putfield 135, 3) := by decide +kernel
theorem dX6_letHoursGo_119 : decode cX6_letHoursGo 119 = .ok (.aload_n 1, 1) := by decide +kernel
theorem dX6_letHoursGo_120 : decode cX6_letHoursGo 120 = .ok (.iconst 0, 1) := by decide +kernel
theorem dX6_letHoursGo_121 : decode cX6_letHoursGo 121 = .ok (.putfield 116, 3) := by decide +kernel
theorem dX6_letHoursGo_124 : decode cX6_letHoursGo 124 = .ok (.iinc 3 1, 3) := by decide +kernel
theorem dX6_letHoursGo_127 : decode cX6_letHoursGo 127 = .ok (.aload_n 1, 1) := by decide +kernel
theorem dX6_letHoursGo_128 : decode cX6_letHoursGo 128 = .ok (.dup, 1) := by decide +kernel
theorem dX6_letHoursGo_129 : decode cX6_letHoursGo 129 = .ok (.getfield 82, 3) := by decide +kernel
theorem dX6_letHoursGo_132 : decode cX6_letHoursGo 132 = .ok (.iconst 1, 1) := by decide +kernel
theorem dX6_letHoursGo_133 : decode cX6_letHoursGo 133 = .ok (.iadd, 1) := by decide +kernel
theorem dX6_letHoursGo_134 : decode cX6_letHoursGo 134 = .ok (.putfield 82, 3) := by decide +kernel
theorem dX6_letHoursGo_137 : decode cX6_letHoursGo 137 = .ok (.iinc 4 1, 3) := by decide +kernel
theorem dX6_letHoursGo_140 : decode cX6_letHoursGo 140 = .ok (.goto (-135), 3) := by decide +kernel
theorem dX6_letHoursGo_143 : decode cX6_letHoursGo 143 = .ok (.iload_n 3, 1) := by decide +kernel
theorem dX6_letHoursGo_144 : decode cX6_letHoursGo 144 = .ok (.ireturn, 1) := by decide +kernel
theorem dX7_init_0 : decode cX7_init 0 = .ok (.aload_n 0, 1) := by decide +kernel
theorem dX7_init_1 : decode cX7_init 1 = .ok (.invokespecial 3, 3) := by decide +kernel
theorem dX7_init_4 : decode cX7_init 4 = .ok (.aload_n 0, 1) := by decide +kernel
theorem dX7_init_5 : decode cX7_init 5 = .ok (.bipush 7, 2) := by decide +kernel
theorem dX7_init_7 : decode cX7_init 7 = .ok (.newarray .int, 2) := by decide +kernel
theorem dX7_init_9 : decode cX7_init 9 = .ok (.putfield 9, 3) := by decide +kernel
theorem dX7_init_12 : decode cX7_init 12 = .ok (.aload_n 0, 1) := by decide +kernel
theorem dX7_init_13 : decode cX7_init 13 = .ok (.bipush 7, 2) := by decide +kernel
theorem dX7_init_15 : decode cX7_init 15 = .ok (.newarray .int, 2) := by decide +kernel
theorem dX7_init_17 : decode cX7_init 17 = .ok (.putfield 15, 3) := by decide +kernel
theorem dX7_init_20 : decode cX7_init 20 = .ok (.aload_n 0, 1) := by decide +kernel
theorem dX7_init_21 : decode cX7_init 21 = .ok (.bipush 7, 2) := by decide +kernel
theorem dX7_init_23 : decode cX7_init 23 = .ok (.newarray .int, 2) := by decide +kernel
theorem dX7_init_25 : decode cX7_init 25 = .ok (.putfield 18, 3) := by decide +kernel
theorem dX7_init_28 : decode cX7_init 28 = .ok (.aload_n 0, 1) := by decide +kernel
theorem dX7_init_29 : decode cX7_init 29 = .ok (.iconst 5, 1) := by decide +kernel
theorem dX7_init_30 : decode cX7_init 30 = .ok (.putfield 21, 3) := by decide +kernel
theorem dX7_init_33 : decode cX7_init 33 = .ok (.return_, 1) := by decide +kernel
theorem dX7_copy_0 : decode cX7_copy 0 = .ok (.iconst 0, 1) := by decide +kernel
theorem dX7_copy_1 : decode cX7_copy 1 = .ok (.istore_n 2, 1) := by decide +kernel
theorem dX7_copy_2 : decode cX7_copy 2 = .ok (.iload_n 2, 1) := by decide +kernel
theorem dX7_copy_3 : decode cX7_copy 3 = .ok (.aload_n 1, 1) := by decide +kernel
theorem dX7_copy_4 : decode cX7_copy 4 = .ok (.getfield 25, 3) := by decide +kernel
theorem dX7_copy_7 : decode cX7_copy 7 = .ok (.if_icmp .ge 45, 3) := by decide +kernel
theorem dX7_copy_10 : decode cX7_copy 10 = .ok (.aload_n 0, 1) := by decide +kernel
theorem dX7_copy_11 : decode cX7_copy 11 = .ok (.getfield 9, 3) := by decide +kernel
theorem dX7_copy_14 : decode cX7_copy 14 = .ok (.iload_n 2, 1) := by decide +kernel
theorem dX7_copy_15 : decode cX7_copy 15 = .ok (.aload_n 1, 1) := by decide +kernel
theorem dX7_copy_16 : decode cX7_copy 16 = .ok (.getfield 9, 3) := by decide +kernel
theorem dX7_copy_19 : decode cX7_copy 19 = .ok (.iload_n 2, 1) := by decide +kernel
theorem dX7_copy_20 : decode cX7_copy 20 = .ok (.iaload, 1) := by decide +kernel
theorem dX7_copy_21 : decode cX7_copy 21 = .ok (.iastore, 1) := by decide +kernel
theorem dX7_copy_22 : decode cX7_copy 22 = .ok (.aload_n 0, 1) := by decide +kernel
theorem dX7_copy_23 : decode cX7_copy 23 = .ok (.getfield 15, 3) := by decide +kernel
theorem dX7_copy_26 : decode cX7_copy 26 = .ok (.iload_n 2, 1) := by decide +kernel
theorem dX7_copy_27 : decode cX7_copy 27 = .ok (.aload_n 1, 1) := by decide +kernel
theorem dX7_copy_28 : decode cX7_copy 28 = .ok (.getfield 15, 3) := by decide +kernel
theorem dX7_copy_31 : decode cX7_copy 31 = .ok (.iload_n 2, 1) := by decide +kernel
theorem dX7_copy_32 : decode cX7_copy 32 = .ok (.iaload, 1) := by decide +kernel
theorem dX7_copy_33 : decode cX7_copy 33 = .ok (.iastore, 1) := by decide +kernel
theorem dX7_copy_34 : decode cX7_copy 34 = .ok (.aload_n 0, 1) := by decide +kernel
theorem dX7_copy_35 : decode cX7_copy 35 = .ok (.getfield 18, 3) := by decide +kernel
theorem dX7_copy_38 : decode cX7_copy 38 = .ok (.iload_n 2, 1) := by decide +kernel
theorem dX7_copy_39 : decode cX7_copy 39 = .ok (.aload_n 1, 1) := by decide +kernel
theorem dX7_copy_40 : decode cX7_copy 40 = .ok (.getfield 18, 3) := by decide +kernel
theorem dX7_copy_43 : decode cX7_copy 43 = .ok (.iload_n 2, 1) := by decide +kernel
theorem dX7_copy_44 : decode cX7_copy 44 = .ok (.iaload, 1) := by decide +kernel
theorem dX7_copy_45 : decode cX7_copy 45 = .ok (.iastore, 1) := by decide +kernel
theorem dX7_copy_46 : decode cX7_copy 46 = .ok (.iinc 2 1, 3) := by decide +kernel
theorem dX7_copy_49 : decode cX7_copy 49 = .ok (.goto (-47), 3) := by decide +kernel
theorem dX7_copy_52 : decode cX7_copy 52 = .ok (.aload_n 0, 1) := by decide +kernel
theorem dX7_copy_53 : decode cX7_copy 53 = .ok (.aload_n 1, 1) := by decide +kernel
theorem dX7_copy_54 : decode cX7_copy 54 = .ok (.getfield 25, 3) := by decide +kernel
theorem dX7_copy_57 : decode cX7_copy 57 = .ok (.putfield 25, 3) := by decide +kernel
theorem dX7_copy_60 : decode cX7_copy 60 = .ok (.aload_n 0, 1) := by decide +kernel
theorem dX7_copy_61 : decode cX7_copy 61 = .ok (.aload_n 1, 1) := by decide +kernel
theorem dX7_copy_62 : decode cX7_copy 62 = .ok (.getfield 21, 3) := by decide +kernel
theorem dX7_copy_65 : decode cX7_copy 65 = .ok (.putfield 21, 3) := by decide +kernel
theorem dX7_copy_68 : decode cX7_copy 68 = .ok (.aload_n 0, 1) := by decide +kernel
theorem dX7_copy_69 : decode cX7_copy 69 = .ok (.aload_n 1, 1) := by decide +kernel
theorem dX7_copy_70 : decode cX7_copy 70 = .ok (.getfield 28, 3) := by decide +kernel
theorem dX7_copy_73 : decode cX7_copy 73 = .ok (.putfield 28, 3) := by decide +kernel
theorem dX7_copy_76 : decode cX7_copy 76 = .ok (.aload_n 0, 1) := by decide +kernel
theorem dX7_copy_77 : decode cX7_copy 77 = .ok (.aload_n 1, 1) := by decide +kernel
theorem dX7_copy_78 : decode cX7_copy 78 = .ok (.getfield 31, 3) := by decide +kernel
theorem dX7_copy_81 : decode cX7_copy 81 = .ok (.putfield 31, 3) := by decide +kernel
theorem dX7_copy_84 : decode cX7_copy 84 = .ok (.aload_n 0, 1) := by decide +kernel
theorem dX7_copy_85 : decode cX7_copy 85 = .ok (.aload_n 1, 1) := by decide +kernel
theorem dX7_copy_86 : decode cX7_copy 86 = .ok (.getfield 34, 3) := by decide +kernel
theorem dX7_copy_89 : decode cX7_copy 89 = .ok (.putfield 34, 3) := by decide +kernel
theorem dX7_copy_92 : decode cX7_copy 92 = .ok (.aload_n 0, 1) := by decide +kernel
theorem dX7_copy_93 : decode cX7_copy 93 = .ok (.aload_n 1, 1) := by decide +kernel
theorem dX7_copy_94 : decode cX7_copy 94 = .ok (.getfield 37, 3) := by decide +kernel
theorem dX7_copy_97 : decode cX7_copy 97 = .ok (.putfield 37, 3) := by decide +kernel
theorem dX7_copy_100 : decode cX7_copy 100 = .ok (.return_, 1) := by decide +kernel
theorem dX7_has_0 : decode cX7_has 0 = .ok (.iload_n 1, 1) := by decide +kernel
theorem dX7_has_1 : decode cX7_has 1 = .ok (.ifCond .lt 15, 3) := by decide +kernel
theorem dX7_has_4 : decode cX7_has 4 = .ok (.iload_n 1, 1) := by decide +kernel
theorem dX7_has_5 : decode cX7_has 5 = .ok (.aload_n 0, 1) := by decide +kernel
theorem dX7_has_6 : decode cX7_has 6 = .ok (.getfield 25, 3) := by decide +kernel
theorem dX7_has_9 : decode cX7_has 9 = .ok (.if_icmp .ge 7, 3) := by decide +kernel
theorem dX7_has_12 : decode cX7_has 12 = .ok (.iconst 1, 1) := by decide +kernel
theorem dX7_has_13 : decode cX7_has 13 = .ok (.goto 4, 3) := by decide +kernel
theorem dX7_has_16 : decode cX7_has 16 = .ok (.iconst 0, 1) := by decide +kernel
theorem dX7_has_17 : decode cX7_has 17 = .ok (.ireturn, 1) := by decide +kernel
theorem dX7_takeBrothers_0 : decode cX7_takeBrothers 0 = .ok (.iconst 0, 1) := by decide +kernel
theorem dX7_takeBrothers_1 : decode cX7_takeBrothers 1 = .ok (.istore_n 2, 1) := by decide +kernel
theorem dX7_takeBrothers_2 : decode cX7_takeBrothers 2 = .ok (.iconst 0, 1) := by decide +kernel
theorem dX7_takeBrothers_3 : decode cX7_takeBrothers 3 = .ok (.istore_n 3, 1) := by decide +kernel
theorem dX7_takeBrothers_4 : decode cX7_takeBrothers 4 = .ok (.iload_n 3, 1) := by decide +kernel
theorem dX7_takeBrothers_5 : decode cX7_takeBrothers 5 = .ok (.aload_n 1, 1) := by decide +kernel
theorem dX7_takeBrothers_6 : decode cX7_takeBrothers 6 = .ok (.getfield 40, 3) := by decide +kernel
theorem dX7_takeBrothers_9 : decode cX7_takeBrothers 9 = .ok (.if_icmp .ge 77, 3) := by decide +kernel
theorem dX7_takeBrothers_12 : decode cX7_takeBrothers 12 = .ok (.aload_n 0, 1) := by decide +kernel
theorem dX7_takeBrothers_13 : decode cX7_takeBrothers 13 = .ok (.getfield 25, 3) := by decide +kernel
theorem dX7_takeBrothers_16 : decode cX7_takeBrothers 16 = .ok (.bipush 7, 2) := by decide +kernel
theorem dX7_takeBrothers_18 : decode cX7_takeBrothers 18 = .ok (.if_icmp .ge 68, 3) := by decide +kernel
theorem dX7_takeBrothers_21 : decode cX7_takeBrothers 21 = .ok (.aload_n 0, 1) := by decide +kernel
theorem dX7_takeBrothers_22 : decode cX7_takeBrothers 22 = .ok (.getfield 9, 3) := by decide +kernel
theorem dX7_takeBrothers_25 : decode cX7_takeBrothers 25 = .ok (.aload_n 0, 1) := by decide +kernel
theorem dX7_takeBrothers_26 : decode cX7_takeBrothers 26 = .ok (.getfield 25, 3) := by decide +kernel
theorem dX7_takeBrothers_29 : decode cX7_takeBrothers 29 = .ok (.aload_n 1, 1) := by decide +kernel
theorem dX7_takeBrothers_30 : decode cX7_takeBrothers 30 = .ok (.iload_n 3, 1) := by decide +kernel
theorem dX7_takeBrothers_31 : decode cX7_takeBrothers 31 = .ok (.invokevirtual 45, 3) := by decide +kernel
theorem dX7_takeBrothers_34 : decode cX7_takeBrothers 34 = .ok (.iastore, 1) := by decide +kernel
theorem dX7_takeBrothers_35 : decode cX7_takeBrothers 35 = .ok (.aload_n 0, 1) := by decide +kernel
theorem dX7_takeBrothers_36 : decode cX7_takeBrothers 36 = .ok (.getfield 15, 3) := by decide +kernel
theorem dX7_takeBrothers_39 : decode cX7_takeBrothers 39 = .ok (.aload_n 0, 1) := by decide +kernel
theorem dX7_takeBrothers_40 : decode cX7_takeBrothers 40 = .ok (.getfield 25, 3) := by decide +kernel
theorem dX7_takeBrothers_43 : decode cX7_takeBrothers 43 = .ok (.aload_n 1, 1) := by decide +kernel
theorem dX7_takeBrothers_44 : decode cX7_takeBrothers 44 = .ok (.iload_n 3, 1) := by decide +kernel
theorem dX7_takeBrothers_45 : decode cX7_takeBrothers 45 = .ok (.iconst 1, 1) := by decide +kernel
theorem dX7_takeBrothers_46 : decode cX7_takeBrothers 46 = .ok (.iadd, 1) := by decide +kernel
theorem dX7_takeBrothers_47 : decode cX7_takeBrothers 47 = .ok (.invokevirtual 45, 3) := by decide +kernel
theorem dX7_takeBrothers_50 : decode cX7_takeBrothers 50 = .ok (.iastore, 1) := by decide +kernel
theorem dX7_takeBrothers_51 : decode cX7_takeBrothers 51 = .ok (.aload_n 0, 1) := by decide +kernel
theorem dX7_takeBrothers_52 : decode cX7_takeBrothers 52 = .ok (.getfield 18, 3) := by decide +kernel
theorem dX7_takeBrothers_55 : decode cX7_takeBrothers 55 = .ok (.aload_n 0, 1) := by decide +kernel
theorem dX7_takeBrothers_56 : decode cX7_takeBrothers 56 = .ok (.getfield 25, 3) := by decide +kernel
theorem dX7_takeBrothers_59 : decode cX7_takeBrothers 59 = .ok (.aload_n 1, 1) := by decide +kernel
theorem dX7_takeBrothers_60 : decode cX7_takeBrothers 60 = .ok (.iload_n 3, 1) := by decide +kernel
theorem dX7_takeBrothers_61 : decode cX7_takeBrothers 61 = .ok (.iconst 2, 1) := by decide +kernel
theorem dX7_takeBrothers_62 : decode cX7_takeBrothers 62 = .ok (.iadd, 1) := by decide +kernel
theorem dX7_takeBrothers_63 : decode cX7_takeBrothers 63 = .ok (.invokevirtual 49, 3) := by decide +kernel
theorem dX7_takeBrothers_66 : decode cX7_takeBrothers 66 = .ok (.iastore, 1) := by decide +kernel
theorem dX7_takeBrothers_67 : decode cX7_takeBrothers 67 = .ok (.aload_n 0, 1) := by decide +kernel
theorem dX7_takeBrothers_68 : decode cX7_takeBrothers 68 = .ok (.dup, 1) := by decide +kernel
theorem dX7_takeBrothers_69 : decode cX7_takeBrothers 69 = .ok (.getfield 25, 3) := by decide +kernel
theorem dX7_takeBrothers_72 : decode cX7_takeBrothers 72 = .ok (.iconst 1, 1) := by decide +kernel
theorem dX7_takeBrothers_73 : decode cX7_takeBrothers 73 = .ok (.iadd, 1) := by decide +kernel
theorem dX7_takeBrothers_74 : decode cX7_takeBrothers 74 = .ok (.putfield 25, 3) := by decide +kernel
theorem dX7_takeBrothers_77 : decode cX7_takeBrothers 77 = .ok (.iinc 2 1, 3) := by decide +kernel
theorem dX7_takeBrothers_80 : decode cX7_takeBrothers 80 = .ok (.iinc 3 5, 3) := by decide +kernel
theorem dX7_takeBrothers_83 : decode cX7_takeBrothers 83 = .ok (.goto (-79), 3) := by decide +kernel
theorem dX7_takeBrothers_86 : decode cX7_takeBrothers 86 = .ok (.iload_n 2, 1) := by decide +kernel
theorem dX7_takeBrothers_87 : decode cX7_takeBrothers 87 = .ok (.ireturn, 1) := by decide +kernel
theorem dX7_takeSheet_0 : decode cX7_takeSheet 0 = .ok (.iload_n 3, 1) := by decide +kernel
theorem dX7_takeSheet_1 : decode cX7_takeSheet 1 = .ok (.istore 5, 2) := by decide +kernel
theorem dX7_takeSheet_3 : decode cX7_takeSheet 3 = .ok (.iconst 0, 1) := by decide +kernel
theorem dX7_takeSheet_4 : decode cX7_takeSheet 4 = .ok (.istore 6, 2) := by decide +kernel
theorem dX7_takeSheet_6 : decode cX7_takeSheet 6 = .ok (.iload 6, 2) := by decide +kernel
theorem dX7_takeSheet_8 : decode cX7_takeSheet 8 = .ok (.aload_n 0, 1) := by decide +kernel
theorem dX7_takeSheet_9 : decode cX7_takeSheet 9 = .ok (.getfield 25, 3) := by decide +kernel
theorem dX7_takeSheet_12 : decode cX7_takeSheet 12 = .ok (.if_icmp .ge 66, 3) := by decide +kernel
theorem dX7_takeSheet_15 : decode cX7_takeSheet 15 = .ok (.iload_n 1, 1) := by decide +kernel
theorem dX7_takeSheet_16 : decode cX7_takeSheet 16 = .ok (.ifCond .ne 9, 3) := by decide +kernel
theorem dX7_takeSheet_19 : decode cX7_takeSheet 19 = .ok (.iload 5, 2) := by decide +kernel
theorem dX7_takeSheet_21 : decode cX7_takeSheet 21 = .ok (.i2b, 1) := by decide +kernel
theorem dX7_takeSheet_22 : decode cX7_takeSheet 22 = .ok (.goto 16, 3) := by decide +kernel
theorem dX7_takeSheet_25 : decode cX7_takeSheet 25 = .ok (.iload_n 1, 1) := by decide +kernel
theorem dX7_takeSheet_26 : decode cX7_takeSheet 26 = .ok (.iconst 1, 1) := by decide +kernel
theorem dX7_takeSheet_27 : decode cX7_takeSheet 27 = .ok (.if_icmp .ne 9, 3) := by decide +kernel
theorem dX7_takeSheet_30 : decode cX7_takeSheet 30 = .ok (.iload 5, 2) := by decide +kernel
theorem dX7_takeSheet_32 : decode cX7_takeSheet 32 = .ok (.i2s, 1) := by decide +kernel
theorem dX7_takeSheet_33 : decode cX7_takeSheet 33 = .ok (.goto 5, 3) := by decide +kernel
theorem dX7_takeSheet_36 : decode cX7_takeSheet 36 = .ok (.iload 5, 2) := by decide +kernel
theorem dX7_takeSheet_38 : decode cX7_takeSheet 38 = .ok (.istore 7, 2) := by decide +kernel
theorem dX7_takeSheet_40 : decode cX7_takeSheet 40 = .ok (.aload_n 0, 1) := by decide +kernel
theorem dX7_takeSheet_41 : decode cX7_takeSheet 41 = .ok (.getfield 9, 3) := by decide +kernel
theorem dX7_takeSheet_44 : decode cX7_takeSheet 44 = .ok (.iload 6, 2) := by decide +kernel
theorem dX7_takeSheet_46 : decode cX7_takeSheet 46 = .ok (.iload 6, 2) := by decide +kernel
theorem dX7_takeSheet_48 : decode cX7_takeSheet 48 = .ok (.iload_n 2, 1) := by decide +kernel
theorem dX7_takeSheet_49 : decode cX7_takeSheet 49 = .ok (.if_icmp .ge 14, 3) := by decide +kernel
theorem dX7_takeSheet_52 : decode cX7_takeSheet 52 = .ok (.iload 7, 2) := by decide +kernel
theorem dX7_takeSheet_54 : decode cX7_takeSheet 54 = .ok (.iconst 0, 1) := by decide +kernel
theorem dX7_takeSheet_55 : decode cX7_takeSheet 55 = .ok (.bipush 9, 2) := by decide +kernel
theorem dX7_takeSheet_57 : decode cX7_takeSheet 57 = .ok (.invokestatic 52, 3) := by decide +kernel
theorem dX7_takeSheet_60 : decode cX7_takeSheet 60 = .ok (.goto 4, 3) := by decide +kernel
theorem dX7_takeSheet_63 : decode cX7_takeSheet 63 = .ok (.iconst 0, 1) := by decide +kernel
theorem dX7_takeSheet_64 : decode cX7_takeSheet 64 = .ok (.iastore, 1) := by decide +kernel
theorem dX7_takeSheet_65 : decode cX7_takeSheet 65 = .ok (.iload 5, 2) := by decide +kernel
theorem dX7_takeSheet_67 : decode cX7_takeSheet 67 = .ok (.iload 4, 2) := by decide +kernel
theorem dX7_takeSheet_69 : decode cX7_takeSheet 69 = .ok (.iadd, 1) := by decide +kernel
theorem dX7_takeSheet_70 : decode cX7_takeSheet 70 = .ok (.istore 5, 2) := by decide +kernel
theorem dX7_takeSheet_72 : decode cX7_takeSheet 72 = .ok (.iinc 6 1, 3) := by decide +kernel
theorem dX7_takeSheet_75 : decode cX7_takeSheet 75 = .ok (.goto (-69), 3) := by decide +kernel
theorem dX7_takeSheet_78 : decode cX7_takeSheet 78 = .ok (.return_, 1) := by decide +kernel
theorem dX7_gravityOfAll_0 : decode cX7_gravityOfAll 0 = .ok (.iconst 0, 1) := by decide +kernel
theorem dX7_gravityOfAll_1 : decode cX7_gravityOfAll 1 = .ok (.istore_n 1, 1) := by decide +kernel
theorem dX7_gravityOfAll_2 : decode cX7_gravityOfAll 2 = .ok (.iconst 0, 1) := by decide +kernel
theorem dX7_gravityOfAll_3 : decode cX7_gravityOfAll 3 = .ok (.istore_n 2, 1) := by decide +kernel
theorem dX7_gravityOfAll_4 : decode cX7_gravityOfAll 4 = .ok (.iload_n 2, 1) := by decide +kernel
theorem dX7_gravityOfAll_5 : decode cX7_gravityOfAll 5 = .ok (.aload_n 0, 1) := by decide +kernel
theorem dX7_gravityOfAll_6 : decode cX7_gravityOfAll 6 = .ok (.getfield 25, 3) := by decide +kernel
theorem dX7_gravityOfAll_9 : decode cX7_gravityOfAll 9 = .ok (.if_icmp .ge 18, 3) := by decide +kernel
theorem dX7_gravityOfAll_12 : decode cX7_gravityOfAll 12 = .ok (.iload_n 1, 1) := by decide +kernel
theorem dX7_gravityOfAll_13 : decode cX7_gravityOfAll 13 = .ok (.aload_n 0, 1) := by decide +kernel
theorem dX7_gravityOfAll_14 : decode cX7_gravityOfAll 14 = .ok (.getfield 9, 3) := by decide +kernel
theorem dX7_gravityOfAll_17 : decode cX7_gravityOfAll 17 = .ok (.iload_n 2, 1) := by decide +kernel
theorem dX7_gravityOfAll_18 : decode cX7_gravityOfAll 18 = .ok (.iaload, 1) := by decide +kernel
theorem dX7_gravityOfAll_19 : decode cX7_gravityOfAll 19 = .ok (.iadd, 1) := by decide +kernel
theorem dX7_gravityOfAll_20 : decode cX7_gravityOfAll 20 = .ok (.istore_n 1, 1) := by decide +kernel
theorem dX7_gravityOfAll_21 : decode cX7_gravityOfAll 21 = .ok (.iinc 2 1, 3) := by decide +kernel
theorem dX7_gravityOfAll_24 : decode cX7_gravityOfAll 24 = .ok (.goto (-20), 3) := by decide +kernel
theorem dX7_gravityOfAll_27 : decode cX7_gravityOfAll 27 = .ok (.iload_n 1, 1) := by decide +kernel
theorem dX7_gravityOfAll_28 : decode cX7_gravityOfAll 28 = .ok (.ireturn, 1) := by decide +kernel
theorem dX7_othersLike_0 : decode cX7_othersLike 0 = .ok (.iconst (-1), 1) := by decide +kernel
theorem dX7_othersLike_1 : decode cX7_othersLike 1 = .ok (.istore_n 2, 1) := by decide +kernel
theorem dX7_othersLike_2 : decode cX7_othersLike 2 = .ok (.iconst 0, 1) := by decide +kernel
theorem dX7_othersLike_3 : decode cX7_othersLike 3 = .ok (.istore_n 3, 1) := by decide +kernel
theorem dX7_othersLike_4 : decode cX7_othersLike 4 = .ok (.iload_n 3, 1) := by decide +kernel
theorem dX7_othersLike_5 : decode cX7_othersLike 5 = .ok (.aload_n 0, 1) := by decide +kernel
theorem dX7_othersLike_6 : decode cX7_othersLike 6 = .ok (.getfield 25, 3) := by decide +kernel
theorem dX7_othersLike_9 : decode cX7_othersLike 9 = .ok (.if_icmp .ge 32, 3) := by decide +kernel
theorem dX7_othersLike_12 : decode cX7_othersLike 12 = .ok (.iload_n 2, 1) := by decide +kernel
theorem dX7_othersLike_13 : decode cX7_othersLike 13 = .ok (.aload_n 0, 1) := by decide +kernel
theorem dX7_othersLike_14 : decode cX7_othersLike 14 = .ok (.getfield 15, 3) := by decide +kernel
theorem dX7_othersLike_17 : decode cX7_othersLike 17 = .ok (.iload_n 3, 1) := by decide +kernel
theorem dX7_othersLike_18 : decode cX7_othersLike 18 = .ok (.iaload, 1) := by decide +kernel
theorem dX7_othersLike_19 : decode cX7_othersLike 19 = .ok (.aload_n 0, 1) := by decide +kernel
theorem dX7_othersLike_20 : decode cX7_othersLike 20 = .ok (.getfield 15, 3) := by decide +kernel
theorem dX7_othersLike_23 : decode cX7_othersLike 23 = .ok (.iload_n 1, 1) := by decide +kernel
theorem dX7_othersLike_24 : decode cX7_othersLike 24 = .ok (.iaload, 1) := by decide +kernel
theorem dX7_othersLike_25 : decode cX7_othersLike 25 = .ok (.if_icmp .ne 7, 3) := by decide +kernel
theorem dX7_othersLike_28 : decode cX7_othersLike 28 = .ok (.iconst 1, 1) := by decide +kernel
theorem dX7_othersLike_29 : decode cX7_othersLike 29 = .ok (.goto 4, 3) := by decide +kernel
theorem dX7_othersLike_32 : decode cX7_othersLike 32 = .ok (.iconst 0, 1) := by decide +kernel
theorem dX7_othersLike_33 : decode cX7_othersLike 33 = .ok (.iadd, 1) := by decide +kernel
theorem dX7_othersLike_34 : decode cX7_othersLike 34 = .ok (.istore_n 2, 1) := by decide +kernel
theorem dX7_othersLike_35 : decode cX7_othersLike 35 = .ok (.iinc 3 1, 3) := by decide +kernel
theorem dX7_othersLike_38 : decode cX7_othersLike 38 = .ok (.goto (-34), 3) := by decide +kernel
theorem dX7_othersLike_41 : decode cX7_othersLike 41 = .ok (.iload_n 2, 1) := by decide +kernel
theorem dX7_othersLike_42 : decode cX7_othersLike 42 = .ok (.ireturn, 1) := by decide +kernel
theorem dX7_tell_0 : decode cX7_tell 0 = .ok (.aload_n 0, 1) := by decide +kernel
theorem dX7_tell_1 : decode cX7_tell 1 = .ok (.iload_n 1, 1) := by decide +kernel
theorem dX7_tell_2 : decode cX7_tell 2 = .ok (.invokevirtual 56, 3) := by decide +kernel
theorem dX7_tell_5 : decode cX7_tell 5 = .ok (.ifCond .eq 12, 3) := by decide +kernel
theorem dX7_tell_8 : decode cX7_tell 8 = .ok (.iload_n 2, 1) := by decide +kernel
theorem dX7_tell_9 : decode cX7_tell 9 = .ok (.iconst 0, 1) := by decide +kernel
theorem dX7_tell_10 : decode cX7_tell 10 = .ok (.iconst 5, 1) := by decide +kernel
theorem dX7_tell_11 : decode cX7_tell 11 = .ok (.invokestatic 60, 3) := by decide +kernel
theorem dX7_tell_14 : decode cX7_tell 14 = .ok (.ifCond .ne 5, 3) := by decide +kernel
theorem dX7_tell_17 : decode cX7_tell 17 = .ok (.iconst (-1), 1) := by decide +kernel
theorem dX7_tell_18 : decode cX7_tell 18 = .ok (.ireturn, 1) := by decide +kernel
theorem dX7_tell_19 : decode cX7_tell 19 = .ok (.aload_n 0, 1) := by decide +kernel
theorem dX7_tell_20 : decode cX7_tell 20 = .ok (.getfield 15, 3) := by decide +kernel
theorem dX7_tell_23 : decode cX7_tell 23 = .ok (.iload_n 1, 1) := by decide +kernel
theorem dX7_tell_24 : decode cX7_tell 24 = .ok (.iaload, 1) := by decide +kernel
theorem dX7_tell_25 : decode cX7_tell 25 = .ok (.istore_n 3, 1) := by decide +kernel
theorem dX7_tell_26 : decode cX7_tell 26 = .ok (.aload_n 0, 1) := by decide +kernel
theorem dX7_tell_27 : decode cX7_tell 27 = .ok (.getfield 15, 3) := by decide +kernel
theorem dX7_tell_30 : decode cX7_tell 30 = .ok (.iload_n 1, 1) := by decide +kernel
theorem dX7_tell_31 : decode cX7_tell 31 = .ok (.iload_n 2, 1) := by decide +kernel
theorem dX7_tell_32 : decode cX7_tell 32 = .ok (.iastore, 1) := by decide +kernel
theorem dX7_tell_33 : decode cX7_tell 33 = .ok (.iload_n 3, 1) := by decide +kernel
theorem dX7_tell_34 : decode cX7_tell 34 = .ok (.iload_n 2, 1) := by decide +kernel
theorem dX7_tell_35 : decode cX7_tell 35 = .ok (.if_icmp .ne 8, 3) := by decide +kernel
theorem dX7_tell_38 : decode cX7_tell 38 = .ok (.bipush (-2), 2) := by decide +kernel
theorem dX7_tell_40 : decode cX7_tell 40 = .ok (.goto 7, 3) := by decide +kernel
theorem dX7_tell_43 : decode cX7_tell 43 = .ok (.bipush 10, 2) := by decide +kernel
theorem dX7_tell_45 : decode cX7_tell 45 = .ok (.iload_n 3, 1) := by decide +kernel
theorem dX7_tell_46 : decode cX7_tell 46 = .ok (.iadd, 1) := by decide +kernel
theorem dX7_tell_47 : decode cX7_tell 47 = .ok (.ireturn, 1) := by decide +kernel
theorem dX7_move_0 : decode cX7_move 0 = .ok (.aload_n 0, 1) := by decide +kernel
theorem dX7_move_1 : decode cX7_move 1 = .ok (.iload_n 1, 1) := by decide +kernel
theorem dX7_move_2 : decode cX7_move 2 = .ok (.invokevirtual 56, 3) := by decide +kernel
theorem dX7_move_5 : decode cX7_move 5 = .ok (.ifCond .eq 13, 3) := by decide +kernel
theorem dX7_move_8 : decode cX7_move 8 = .ok (.iload_n 2, 1) := by decide +kernel
theorem dX7_move_9 : decode cX7_move 9 = .ok (.bipush (-5), 2) := by decide +kernel
theorem dX7_move_11 : decode cX7_move 11 = .ok (.iconst 5, 1) := by decide +kernel
theorem dX7_move_12 : decode cX7_move 12 = .ok (.invokestatic 60, 3) := by decide +kernel
theorem dX7_move_15 : decode cX7_move 15 = .ok (.ifCond .ne 5, 3) := by decide +kernel
theorem dX7_move_18 : decode cX7_move 18 = .ok (.iconst (-1), 1) := by decide +kernel
theorem dX7_move_19 : decode cX7_move 19 = .ok (.ireturn, 1) := by decide +kernel
theorem dX7_move_20 : decode cX7_move 20 = .ok (.iload_n 2, 1) := by decide +kernel
theorem dX7_move_21 : decode cX7_move 21 = .ok (.aload_n 0, 1) := by decide +kernel
theorem dX7_move_22 : decode cX7_move 22 = .ok (.getfield 18, 3) := by decide +kernel
theorem dX7_move_25 : decode cX7_move 25 = .ok (.iload_n 1, 1) := by decide +kernel
theorem dX7_move_26 : decode cX7_move 26 = .ok (.iaload, 1) := by decide +kernel
theorem dX7_move_27 : decode cX7_move 27 = .ok (.isub, 1) := by decide +kernel
theorem dX7_move_28 : decode cX7_move 28 = .ok (.invokestatic 64, 3) := by decide +kernel
theorem dX7_move_31 : decode cX7_move 31 = .ok (.istore_n 3, 1) := by decide +kernel
theorem dX7_move_32 : decode cX7_move 32 = .ok (.aload_n 0, 1) := by decide +kernel
theorem dX7_move_33 : decode cX7_move 33 = .ok (.getfield 18, 3) := by decide +kernel
theorem dX7_move_36 : decode cX7_move 36 = .ok (.iload_n 1, 1) := by decide +kernel
theorem dX7_move_37 : decode cX7_move 37 = .ok (.iload_n 2, 1) := by decide +kernel
theorem dX7_move_38 : decode cX7_move 38 = .ok (.iastore, 1) := by decide +kernel
theorem dX7_move_39 : decode cX7_move 39 = .ok (.iload_n 3, 1) := by decide +kernel
theorem dX7_move_40 : decode cX7_move 40 = .ok (.ifCond .ne 8, 3) := by decide +kernel
theorem dX7_move_43 : decode cX7_move 43 = .ok (.bipush (-2), 2) := by decide +kernel
theorem dX7_move_45 : decode cX7_move 45 = .ok (.goto 4, 3) := by decide +kernel
theorem dX7_move_48 : decode cX7_move 48 = .ok (.iload_n 3, 1) := by decide +kernel
theorem dX7_move_49 : decode cX7_move 49 = .ok (.ireturn, 1) := by decide +kernel
theorem dX7_ease_0 : decode cX7_ease 0 = .ok (.aload_n 0, 1) := by decide +kernel
theorem dX7_ease_1 : decode cX7_ease 1 = .ok (.iload_n 1, 1) := by decide +kernel
theorem dX7_ease_2 : decode cX7_ease 2 = .ok (.invokevirtual 56, 3) := by decide +kernel
theorem dX7_ease_5 : decode cX7_ease 5 = .ok (.ifCond .ne 5, 3) := by decide +kernel
theorem dX7_ease_8 : decode cX7_ease 8 = .ok (.iconst (-1), 1) := by decide +kernel
theorem dX7_ease_9 : decode cX7_ease 9 = .ok (.ireturn, 1) := by decide +kernel
theorem dX7_ease_10 : decode cX7_ease 10 = .ok (.aload_n 0, 1) := by decide +kernel
theorem dX7_ease_11 : decode cX7_ease 11 = .ok (.getfield 9, 3) := by decide +kernel
theorem dX7_ease_14 : decode cX7_ease 14 = .ok (.iload_n 1, 1) := by decide +kernel
theorem dX7_ease_15 : decode cX7_ease 15 = .ok (.iaload, 1) := by decide +kernel
theorem dX7_ease_16 : decode cX7_ease 16 = .ok (.ifCond .ne 6, 3) := by decide +kernel
theorem dX7_ease_19 : decode cX7_ease 19 = .ok (.bipush (-2), 2) := by decide +kernel
theorem dX7_ease_21 : decode cX7_ease 21 = .ok (.ireturn, 1) := by decide +kernel
theorem dX7_ease_22 : decode cX7_ease 22 = .ok (.aload_n 0, 1) := by decide +kernel
theorem dX7_ease_23 : decode cX7_ease 23 = .ok (.getfield 9, 3) := by decide +kernel
theorem dX7_ease_26 : decode cX7_ease 26 = .ok (.iload_n 1, 1) := by decide +kernel
theorem dX7_ease_27 : decode cX7_ease 27 = .ok (.dup2, 1) := by decide +kernel
theorem dX7_ease_28 : decode cX7_ease 28 = .ok (.iaload, 1) := by decide +kernel
theorem dX7_ease_29 : decode cX7_ease 29 = .ok (.iconst 1, 1) := by decide +kernel
theorem dX7_ease_30 : decode cX7_ease 30 = .ok (.isub, 1) := by decide +kernel
theorem dX7_ease_31 : decode cX7_ease 31 = .ok (.iastore, 1) := by decide +kernel
theorem dX7_ease_32 : decode cX7_ease 32 = .ok (.aload_n 0, 1) := by decide +kernel
theorem dX7_ease_33 : decode cX7_ease 33 = .ok (.getfield 9, 3) := by decide +kernel
theorem dX7_ease_36 : decode cX7_ease 36 = .ok (.iload_n 1, 1) := by decide +kernel
theorem dX7_ease_37 : decode cX7_ease 37 = .ok (.iaload, 1) := by decide +kernel
theorem dX7_ease_38 : decode cX7_ease 38 = .ok (.ireturn, 1) := by decide +kernel
theorem dX7_preach_0 : decode cX7_preach 0 = .ok (.aload_n 0, 1) := by decide +kernel
theorem dX7_preach_1 : decode cX7_preach 1 = .ok (.iload_n 1, 1) := by decide +kernel
theorem dX7_preach_2 : decode cX7_preach 2 = .ok (.invokevirtual 56, 3) := by decide +kernel
theorem dX7_preach_5 : decode cX7_preach 5 = .ok (.ifCond .eq 13, 3) := by decide +kernel
theorem dX7_preach_8 : decode cX7_preach 8 = .ok (.iload_n 2, 1) := by decide +kernel
theorem dX7_preach_9 : decode cX7_preach 9 = .ok (.iconst 1, 1) := by decide +kernel
theorem dX7_preach_10 : decode cX7_preach 10 = .ok (.bipush 9, 2) := by decide +kernel
theorem dX7_preach_12 : decode cX7_preach 12 = .ok (.invokestatic 60, 3) := by decide +kernel
theorem dX7_preach_15 : decode cX7_preach 15 = .ok (.ifCond .ne 5, 3) := by decide +kernel
theorem dX7_preach_18 : decode cX7_preach 18 = .ok (.iconst (-1), 1) := by decide +kernel
theorem dX7_preach_19 : decode cX7_preach 19 = .ok (.ireturn, 1) := by decide +kernel
theorem dX7_preach_20 : decode cX7_preach 20 = .ok (.aload_n 0, 1) := by decide +kernel
theorem dX7_preach_21 : decode cX7_preach 21 = .ok (.getfield 9, 3) := by decide +kernel
theorem dX7_preach_24 : decode cX7_preach 24 = .ok (.iload_n 1, 1) := by decide +kernel
theorem dX7_preach_25 : decode cX7_preach 25 = .ok (.iaload, 1) := by decide +kernel
theorem dX7_preach_26 : decode cX7_preach 26 = .ok (.bipush 9, 2) := by decide +kernel
theorem dX7_preach_28 : decode cX7_preach 28 = .ok (.if_icmp .ne 6, 3) := by decide +kernel
theorem dX7_preach_31 : decode cX7_preach 31 = .ok (.bipush (-2), 2) := by decide +kernel
theorem dX7_preach_33 : decode cX7_preach 33 = .ok (.ireturn, 1) := by decide +kernel
theorem dX7_preach_34 : decode cX7_preach 34 = .ok (.aload_n 0, 1) := by decide +kernel
theorem dX7_preach_35 : decode cX7_preach 35 = .ok (.getfield 9, 3) := by decide +kernel
theorem dX7_preach_38 : decode cX7_preach 38 = .ok (.iload_n 1, 1) := by decide +kernel
theorem dX7_preach_39 : decode cX7_preach 39 = .ok (.aload_n 0, 1) := by decide +kernel
theorem dX7_preach_40 : decode cX7_preach 40 = .ok (.getfield 9, 3) := by decide +kernel
theorem dX7_preach_43 : decode cX7_preach 43 = .ok (.iload_n 1, 1) := by decide +kernel
theorem dX7_preach_44 : decode cX7_preach 44 = .ok (.iaload, 1) := by decide +kernel
theorem dX7_preach_45 : decode cX7_preach 45 = .ok (.iload_n 2, 1) := by decide +kernel
theorem dX7_preach_46 : decode cX7_preach 46 = .ok (.iadd, 1) := by decide +kernel
theorem dX7_preach_47 : decode cX7_preach 47 = .ok (.bipush 9, 2) := by decide +kernel
theorem dX7_preach_49 : decode cX7_preach 49 = .ok (.invokestatic 69, 3) := by decide +kernel
theorem dX7_preach_52 : decode cX7_preach 52 = .ok (.iastore, 1) := by decide +kernel
theorem dX7_preach_53 : decode cX7_preach 53 = .ok (.aload_n 0, 1) := by decide +kernel
theorem dX7_preach_54 : decode cX7_preach 54 = .ok (.getfield 9, 3) := by decide +kernel
theorem dX7_preach_57 : decode cX7_preach 57 = .ok (.iload_n 1, 1) := by decide +kernel
theorem dX7_preach_58 : decode cX7_preach 58 = .ok (.iaload, 1) := by decide +kernel
theorem dX7_preach_59 : decode cX7_preach 59 = .ok (.ireturn, 1) := by decide +kernel
theorem dX7_setSail_0 : decode cX7_setSail 0 = .ok (.iload_n 1, 1) := by decide +kernel
theorem dX7_setSail_1 : decode cX7_setSail 1 = .ok (.iconst 0, 1) := by decide +kernel
theorem dX7_setSail_2 : decode cX7_setSail 2 = .ok (.bipush 9, 2) := by decide +kernel
theorem dX7_setSail_4 : decode cX7_setSail 4 = .ok (.invokestatic 60, 3) := by decide +kernel
theorem dX7_setSail_7 : decode cX7_setSail 7 = .ok (.ifCond .ne 5, 3) := by decide +kernel
theorem dX7_setSail_10 : decode cX7_setSail 10 = .ok (.iconst (-1), 1) := by decide +kernel
theorem dX7_setSail_11 : decode cX7_setSail 11 = .ok (.ireturn, 1) := by decide +kernel
theorem dX7_setSail_12 : decode cX7_setSail 12 = .ok (.aload_n 0, 1) := by decide +kernel
theorem dX7_setSail_13 : decode cX7_setSail 13 = .ok (.getfield 21, 3) := by decide +kernel
theorem dX7_setSail_16 : decode cX7_setSail 16 = .ok (.istore_n 2, 1) := by decide +kernel
theorem dX7_setSail_17 : decode cX7_setSail 17 = .ok (.aload_n 0, 1) := by decide +kernel
theorem dX7_setSail_18 : decode cX7_setSail 18 = .ok (.iload_n 1, 1) := by decide +kernel
theorem dX7_setSail_19 : decode cX7_setSail 19 = .ok (.putfield 21, 3) := by decide +kernel
theorem dX7_setSail_22 : decode cX7_setSail 22 = .ok (.iload_n 2, 1) := by decide +kernel
theorem dX7_setSail_23 : decode cX7_setSail 23 = .ok (.iload_n 1, 1) := by decide +kernel
theorem dX7_setSail_24 : decode cX7_setSail 24 = .ok (.if_icmp .ne 8, 3) := by decide +kernel
theorem dX7_setSail_27 : decode cX7_setSail 27 = .ok (.bipush (-2), 2) := by decide +kernel
theorem dX7_setSail_29 : decode cX7_setSail 29 = .ok (.goto 7, 3) := by decide +kernel
theorem dX7_setSail_32 : decode cX7_setSail 32 = .ok (.bipush 10, 2) := by decide +kernel
theorem dX7_setSail_34 : decode cX7_setSail 34 = .ok (.iload_n 2, 1) := by decide +kernel
theorem dX7_setSail_35 : decode cX7_setSail 35 = .ok (.iadd, 1) := by decide +kernel
theorem dX7_setSail_36 : decode cX7_setSail 36 = .ok (.ireturn, 1) := by decide +kernel
theorem dX8_init_0 : decode cX8_init 0 = .ok (.aload_n 0, 1) := by decide +kernel
theorem dX8_init_1 : decode cX8_init 1 = .ok (.invokespecial 1, 3) := by decide +kernel
theorem dX8_init_4 : decode cX8_init 4 = .ok (.iconst 0, 1) := by decide +kernel
theorem dX8_init_5 : decode cX8_init 5 = .ok (.iload_n 1, 1) := by decide +kernel
theorem dX8_init_6 : decode cX8_init 6 = .ok (.invokestatic 7, 3) := by decide +kernel
theorem dX8_init_9 : decode cX8_init 9 = .ok (.istore_n 2, 1) := by decide +kernel
theorem dX8_init_10 : decode cX8_init 10 = .ok (.aload_n 0, 1) := by decide +kernel
theorem dX8_init_11 : decode cX8_init 11 = .ok (.iload_n 2, 1) := by decide +kernel
theorem dX8_init_12 : decode cX8_init 12 = .ok (.newarray .int, 2) := by decide +kernel
theorem dX8_init_14 : decode cX8_init 14 = .ok (.putfield 13, 3) := by decide +kernel
theorem dX8_init_17 : decode cX8_init 17 = .ok (.aload_n 0, 1) := by decide +kernel
theorem dX8_init_18 : decode cX8_init 18 = .ok (.iload_n 2, 1) := by decide +kernel
theorem dX8_init_19 : decode cX8_init 19 = .ok (.newarray .int, 2) := by decide +kernel
theorem dX8_init_21 : decode cX8_init 21 = .ok (.putfield 19, 3) := by decide +kernel
theorem dX8_init_24 : decode cX8_init 24 = .ok (.aload_n 0, 1) := by decide +kernel
theorem dX8_init_25 : decode cX8_init 25 = .ok (.iload_n 2, 1) := by decide +kernel
theorem dX8_init_26 : decode cX8_init 26 = .ok (.newarray .int, 2) := by decide +kernel
theorem dX8_init_28 : decode cX8_init 28 = .ok (.putfield 22, 3) := by decide +kernel
theorem dX8_init_31 : decode cX8_init 31 = .ok (.return_, 1) := by decide +kernel
theorem dX8_add_0 : decode cX8_add 0 = .ok (.aload_n 0, 1) := by decide +kernel
theorem dX8_add_1 : decode cX8_add 1 = .ok (.getfield 25, 3) := by decide +kernel
theorem dX8_add_4 : decode cX8_add 4 = .ok (.aload_n 0, 1) := by decide +kernel
theorem dX8_add_5 : decode cX8_add 5 = .ok (.getfield 13, 3) := by decide +kernel
theorem dX8_add_8 : decode cX8_add 8 = .ok (.arraylength, 1) := by decide +kernel
theorem dX8_add_9 : decode cX8_add 9 = .ok (.if_icmp .lt 5, 3) := by decide +kernel
theorem dX8_add_12 : decode cX8_add 12 = .ok (.iconst 0, 1) := by decide +kernel
theorem dX8_add_13 : decode cX8_add 13 = .ok (.ireturn, 1) := by decide +kernel
theorem dX8_add_14 : decode cX8_add 14 = .ok (.aload_n 0, 1) := by decide +kernel
theorem dX8_add_15 : decode cX8_add 15 = .ok (.getfield 13, 3) := by decide +kernel
theorem dX8_add_18 : decode cX8_add 18 = .ok (.aload_n 0, 1) := by decide +kernel
theorem dX8_add_19 : decode cX8_add 19 = .ok (.getfield 25, 3) := by decide +kernel
theorem dX8_add_22 : decode cX8_add 22 = .ok (.iload_n 1, 1) := by decide +kernel
theorem dX8_add_23 : decode cX8_add 23 = .ok (.iastore, 1) := by decide +kernel
theorem dX8_add_24 : decode cX8_add 24 = .ok (.aload_n 0, 1) := by decide +kernel
theorem dX8_add_25 : decode cX8_add 25 = .ok (.getfield 19, 3) := by decide +kernel
theorem dX8_add_28 : decode cX8_add 28 = .ok (.aload_n 0, 1) := by decide +kernel
theorem dX8_add_29 : decode cX8_add 29 = .ok (.getfield 25, 3) := by decide +kernel
theorem dX8_add_32 : decode cX8_add 32 = .ok (.iload_n 2, 1) := by decide +kernel
theorem dX8_add_33 : decode cX8_add 33 = .ok (.iastore, 1) := by decide +kernel
theorem dX8_add_34 : decode cX8_add 34 = .ok (.aload_n 0, 1) := by decide +kernel
theorem dX8_add_35 : decode cX8_add 35 = .ok (.getfield 22, 3) := by decide +kernel
theorem dX8_add_38 : decode cX8_add 38 = .ok (.aload_n 0, 1) := by decide +kernel
theorem dX8_add_39 : decode cX8_add 39 = .ok (.getfield 25, 3) := by decide +kernel
theorem dX8_add_42 : decode cX8_add 42 = .ok (.iload_n 3, 1) := by decide +kernel
theorem dX8_add_43 : decode cX8_add 43 = .ok (.iastore, 1) := by decide +kernel
theorem dX8_add_44 : decode cX8_add 44 = .ok (.aload_n 0, 1) := by decide +kernel
theorem dX8_add_45 : decode cX8_add 45 = .ok (.dup, 1) := by decide +kernel
theorem dX8_add_46 : decode cX8_add 46 = .ok (.getfield 25, 3) := by decide +kernel
theorem dX8_add_49 : decode cX8_add 49 = .ok (.iconst 1, 1) := by decide +kernel
theorem dX8_add_50 : decode cX8_add 50 = .ok (.iadd, 1) := by decide +kernel
theorem dX8_add_51 : decode cX8_add 51 = .ok (.putfield 25, 3) := by decide +kernel
theorem dX8_add_54 : decode cX8_add 54 = .ok (.iconst 1, 1) := by decide +kernel
theorem dX8_add_55 : decode cX8_add 55 = .ok (.ireturn, 1) := by decide +kernel
theorem dX8_empty_0 : decode cX8_empty 0 = .ok (.aload_n 0, 1) := by decide +kernel
theorem dX8_empty_1 : decode cX8_empty 1 = .ok (.getfield 25, 3) := by decide +kernel
theorem dX8_empty_4 : decode cX8_empty 4 = .ok (.istore_n 1, 1) := by decide +kernel
theorem dX8_empty_5 : decode cX8_empty 5 = .ok (.aload_n 0, 1) := by decide +kernel
theorem dX8_empty_6 : decode cX8_empty 6 = .ok (.iconst 0, 1) := by decide +kernel
theorem dX8_empty_7 : decode cX8_empty 7 = .ok (.putfield 25, 3) := by decide +kernel
theorem dX8_empty_10 : decode cX8_empty 10 = .ok (.iload_n 1, 1) := by decide +kernel
theorem dX8_empty_11 : decode cX8_empty 11 = .ok (.ireturn, 1) := by decide +kernel
theorem dX9_init_0 : decode cX9_init 0 = .ok (.aload_n 0, 1) := by decide +kernel
theorem dX9_init_1 : decode cX9_init 1 = .ok (.invokespecial 3, 3) := by decide +kernel
theorem dX9_init_4 : decode cX9_init 4 = .ok (.aload_n 0, 1) := by decide +kernel
theorem dX9_init_5 : decode cX9_init 5 = .ok (.bipush 80, 2) := by decide +kernel
theorem dX9_init_7 : decode cX9_init 7 = .ok (.newarray .int, 2) := by decide +kernel
theorem dX9_init_9 : decode cX9_init 9 = .ok (.putfield 9, 3) := by decide +kernel
theorem dX9_init_12 : decode cX9_init 12 = .ok (.return_, 1) := by decide +kernel
theorem dX9_takeFour_0 : decode cX9_takeFour 0 = .ok (.aload_n 0, 1) := by decide +kernel
theorem dX9_takeFour_1 : decode cX9_takeFour 1 = .ok (.getfield 15, 3) := by decide +kernel
theorem dX9_takeFour_4 : decode cX9_takeFour 4 = .ok (.iconst 4, 1) := by decide +kernel
theorem dX9_takeFour_5 : decode cX9_takeFour 5 = .ok (.iadd, 1) := by decide +kernel
theorem dX9_takeFour_6 : decode cX9_takeFour 6 = .ok (.aload_n 0, 1) := by decide +kernel
theorem dX9_takeFour_7 : decode cX9_takeFour 7 = .ok (.getfield 9, 3) := by decide +kernel
theorem dX9_takeFour_10 : decode cX9_takeFour 10 = .ok (.arraylength, 1) := by decide +kernel
theorem dX9_takeFour_11 : decode cX9_takeFour 11 = .ok (.if_icmp .le 5, 3) := by decide +kernel
theorem dX9_takeFour_14 : decode cX9_takeFour 14 = .ok (.iconst 0, 1) := by decide +kernel
theorem dX9_takeFour_15 : decode cX9_takeFour 15 = .ok (.ireturn, 1) := by decide +kernel
theorem dX9_takeFour_16 : decode cX9_takeFour 16 = .ok (.bipush 24, 2) := by decide +kernel
theorem dX9_takeFour_18 : decode cX9_takeFour 18 = .ok (.istore_n 2, 1) := by decide +kernel
theorem dX9_takeFour_19 : decode cX9_takeFour 19 = .ok (.iload_n 2, 1) := by decide +kernel
theorem dX9_takeFour_20 : decode cX9_takeFour 20 = .ok (.ifCond .lt 35, 3) := by decide +kernel
theorem dX9_takeFour_23 : decode cX9_takeFour 23 = .ok (.aload_n 0, 1) := by decide +kernel
theorem dX9_takeFour_24 : decode cX9_takeFour 24 = .ok (.getfield 9, 3) := by decide +kernel
theorem dX9_takeFour_27 : decode cX9_takeFour 27 = .ok (.aload_n 0, 1) := by decide +kernel
theorem dX9_takeFour_28 : decode cX9_takeFour 28 = .ok (.getfield 15, 3) := by decide +kernel
theorem dX9_takeFour_31 : decode cX9_takeFour 31 = .ok (.iload_n 1, 1) := by decide +kernel
theorem dX9_takeFour_32 : decode cX9_takeFour 32 = .ok (.iload_n 2, 1) := by decide +kernel
theorem dX9_takeFour_33 : decode cX9_takeFour 33 = .ok (.ishr, 1) := by decide +kernel
theorem dX9_takeFour_34 : decode cX9_takeFour 34 = .ok (.sipush 255, 3) := by decide +kernel
theorem dX9_takeFour_37 : decode cX9_takeFour 37 = .ok (.iand, 1) := by decide +kernel
theorem dX9_takeFour_38 : decode cX9_takeFour 38 = .ok (.iastore, 1) := by decide +kernel
theorem dX9_takeFour_39 : decode cX9_takeFour 39 = .ok (.aload_n 0, 1) := by decide +kernel
theorem dX9_takeFour_40 : decode cX9_takeFour 40 = .ok (.dup, 1) := by decide +kernel
theorem dX9_takeFour_41 : decode cX9_takeFour 41 = .ok (.getfield 15, 3) := by decide +kernel
theorem dX9_takeFour_44 : decode cX9_takeFour 44 = .ok (.iconst 1, 1) := by decide +kernel
theorem dX9_takeFour_45 : decode cX9_takeFour 45 = .ok (.iadd, 1) := by decide +kernel
theorem dX9_takeFour_46 : decode cX9_takeFour 46 = .ok (.putfield 15, 3) := by decide +kernel
theorem dX9_takeFour_49 : decode cX9_takeFour 49 = .ok (.iinc 2 (-8), 3) := by decide +kernel
theorem dX9_takeFour_52 : decode cX9_takeFour 52 = .ok (.goto (-33), 3) := by decide +kernel
theorem dX9_takeFour_55 : decode cX9_takeFour 55 = .ok (.iconst 1, 1) := by decide +kernel
theorem dX9_takeFour_56 : decode cX9_takeFour 56 = .ok (.ireturn, 1) := by decide +kernel
theorem dX9_cut_0 : decode cX9_cut 0 = .ok (.iload_n 1, 1) := by decide +kernel
theorem dX9_cut_1 : decode cX9_cut 1 = .ok (.ifCond .lt 11, 3) := by decide +kernel
theorem dX9_cut_4 : decode cX9_cut 4 = .ok (.iload_n 1, 1) := by decide +kernel
theorem dX9_cut_5 : decode cX9_cut 5 = .ok (.aload_n 0, 1) := by decide +kernel
theorem dX9_cut_6 : decode cX9_cut 6 = .ok (.getfield 15, 3) := by decide +kernel
theorem dX9_cut_9 : decode cX9_cut 9 = .ok (.if_icmp .le 5, 3) := by decide +kernel
theorem dX9_cut_12 : decode cX9_cut 12 = .ok (.iconst 0, 1) := by decide +kernel
theorem dX9_cut_13 : decode cX9_cut 13 = .ok (.ireturn, 1) := by decide +kernel
theorem dX9_cut_14 : decode cX9_cut 14 = .ok (.aload_n 0, 1) := by decide +kernel
theorem dX9_cut_15 : decode cX9_cut 15 = .ok (.iload_n 1, 1) := by decide +kernel
theorem dX9_cut_16 : decode cX9_cut 16 = .ok (.putfield 15, 3) := by decide +kernel
theorem dX9_cut_19 : decode cX9_cut 19 = .ok (.iconst 1, 1) := by decide +kernel
theorem dX9_cut_20 : decode cX9_cut 20 = .ok (.ireturn, 1) := by decide +kernel
theorem dX9_empty_0 : decode cX9_empty 0 = .ok (.aload_n 0, 1) := by decide +kernel
theorem dX9_empty_1 : decode cX9_empty 1 = .ok (.iconst 0, 1) := by decide +kernel
theorem dX9_empty_2 : decode cX9_empty 2 = .ok (.putfield 15, 3) := by decide +kernel
theorem dX9_empty_5 : decode cX9_empty 5 = .ok (.return_, 1) := by decide +kernel
theorem dX9_at_0 : decode cX9_at 0 = .ok (.iload_n 1, 1) := by decide +kernel
theorem dX9_at_1 : decode cX9_at 1 = .ok (.ifCond .lt 20, 3) := by decide +kernel
theorem dX9_at_4 : decode cX9_at 4 = .ok (.iload_n 1, 1) := by decide +kernel
theorem dX9_at_5 : decode cX9_at 5 = .ok (.aload_n 0, 1) := by decide +kernel
theorem dX9_at_6 : decode cX9_at 6 = .ok (.getfield 15, 3) := by decide +kernel
theorem dX9_at_9 : decode cX9_at 9 = .ok (.if_icmp .ge 12, 3) := by decide +kernel
theorem dX9_at_12 : decode cX9_at 12 = .ok (.aload_n 0, 1) := by decide +kernel
theorem dX9_at_13 : decode cX9_at 13 = .ok (.getfield 9, 3) := by decide +kernel
theorem dX9_at_16 : decode cX9_at 16 = .ok (.iload_n 1, 1) := by decide +kernel
theorem dX9_at_17 : decode cX9_at 17 = .ok (.iaload, 1) := by decide +kernel
theorem dX9_at_18 : decode cX9_at 18 = .ok (.goto 4, 3) := by decide +kernel
theorem dX9_at_21 : decode cX9_at 21 = .ok (.iconst (-1), 1) := by decide +kernel
theorem dX9_at_22 : decode cX9_at 22 = .ok (.ireturn, 1) := by decide +kernel
theorem dX9_digit_0 : decode cX9_digit 0 = .ok (.aload_n 0, 1) := by decide +kernel
theorem dX9_digit_1 : decode cX9_digit 1 = .ok (.iload_n 1, 1) := by decide +kernel
theorem dX9_digit_2 : decode cX9_digit 2 = .ok (.invokevirtual 19, 3) := by decide +kernel
theorem dX9_digit_5 : decode cX9_digit 5 = .ok (.bipush 48, 2) := by decide +kernel
theorem dX9_digit_7 : decode cX9_digit 7 = .ok (.isub, 1) := by decide +kernel
theorem dX9_digit_8 : decode cX9_digit 8 = .ok (.ireturn, 1) := by decide +kernel
theorem dX9_signed_0 : decode cX9_signed 0 = .ok (.aload_n 0, 1) := by decide +kernel
theorem dX9_signed_1 : decode cX9_signed 1 = .ok (.iload_n 1, 1) := by decide +kernel
theorem dX9_signed_2 : decode cX9_signed 2 = .ok (.invokevirtual 19, 3) := by decide +kernel
theorem dX9_signed_5 : decode cX9_signed 5 = .ok (.bipush 45, 2) := by decide +kernel
theorem dX9_signed_7 : decode cX9_signed 7 = .ok (.if_icmp .ne 14, 3) := by decide +kernel
theorem dX9_signed_10 : decode cX9_signed 10 = .ok (.aload_n 0, 1) := by decide +kernel
theorem dX9_signed_11 : decode cX9_signed 11 = .ok (.iload_n 1, 1) := by decide +kernel
theorem dX9_signed_12 : decode cX9_signed 12 = .ok (.iconst 1, 1) := by decide +kernel
theorem dX9_signed_13 : decode cX9_signed 13 = .ok (.iadd, 1) := by decide +kernel
theorem dX9_signed_14 : decode cX9_signed 14 = .ok (.invokevirtual 23, 3) := by decide +kernel
theorem dX9_signed_17 : decode cX9_signed 17 = .ok (.ineg, 1) := by decide +kernel
theorem dX9_signed_18 : decode cX9_signed 18 = .ok (.goto 10, 3) := by decide +kernel
theorem dX9_signed_21 : decode cX9_signed 21 = .ok (.aload_n 0, 1) := by decide +kernel
theorem dX9_signed_22 : decode cX9_signed 22 = .ok (.iload_n 1, 1) := by decide +kernel
theorem dX9_signed_23 : decode cX9_signed 23 = .ok (.iconst 1, 1) := by decide +kernel
theorem dX9_signed_24 : decode cX9_signed 24 = .ok (.iadd, 1) := by decide +kernel
theorem dX9_signed_25 : decode cX9_signed 25 = .ok (.invokevirtual 23, 3) := by decide +kernel
theorem dX9_signed_28 : decode cX9_signed 28 = .ok (.ireturn, 1) := by decide +kernel
theorem dX9_thoughtsFault_0 : decode cX9_thoughtsFault 0 = .ok (.aload_n 0, 1) := by decide +kernel
theorem dX9_thoughtsFault_1 : decode cX9_thoughtsFault 1 = .ok (.ldc 26, 2) := by decide +kernel
theorem dX9_thoughtsFault_3 : decode cX9_thoughtsFault 3 = .ok (.bipush 6, 2) := by decide +kernel
theorem dX9_thoughtsFault_5 : decode cX9_thoughtsFault 5 = .ok (.invokevirtual 28, 3) := by decide +kernel
theorem dX9_thoughtsFault_8 : decode cX9_thoughtsFault 8 = .ok (.istore_n 1, 1) := by decide +kernel
theorem dX9_thoughtsFault_9 : decode cX9_thoughtsFault 9 = .ok (.iload_n 1, 1) := by decide +kernel
theorem dX9_thoughtsFault_10 : decode cX9_thoughtsFault 10 = .ok (.iconst (-1), 1) := by decide +kernel
theorem dX9_thoughtsFault_11 : decode cX9_thoughtsFault 11 = .ok (.if_icmp .ne 19, 3) := by decide +kernel
theorem dX9_thoughtsFault_14 : decode cX9_thoughtsFault 14 = .ok (.aload_n 0, 1) := by decide +kernel
theorem dX9_thoughtsFault_15 : decode cX9_thoughtsFault 15 = .ok (.getfield 15, 3) := by decide +kernel
theorem dX9_thoughtsFault_18 : decode cX9_thoughtsFault 18 = .ok (.bipush 6, 2) := by decide +kernel
theorem dX9_thoughtsFault_20 : decode cX9_thoughtsFault 20 = .ok (.if_icmp .ge 10, 3) := by decide +kernel
theorem dX9_thoughtsFault_23 : decode cX9_thoughtsFault 23 = .ok (.aload_n 0, 1) := by decide +kernel
theorem dX9_thoughtsFault_24 : decode cX9_thoughtsFault 24 = .ok (.getfield 15, 3) := by decide +kernel
theorem dX9_thoughtsFault_27 : decode cX9_thoughtsFault 27 = .ok (.goto 4, 3) := by decide +kernel
theorem dX9_thoughtsFault_30 : decode cX9_thoughtsFault 30 = .ok (.iload_n 1, 1) := by decide +kernel
theorem dX9_thoughtsFault_31 : decode cX9_thoughtsFault 31 = .ok (.ireturn, 1) := by decide +kernel
theorem dX9_brothersFault_0 : decode cX9_brothersFault 0 = .ok (.bipush 7, 2) := by decide +kernel
theorem dX9_brothersFault_2 : decode cX9_brothersFault 2 = .ok (.iload_n 1, 1) := by decide +kernel
theorem dX9_brothersFault_3 : decode cX9_brothersFault 3 = .ok (.isub, 1) := by decide +kernel
theorem dX9_brothersFault_4 : decode cX9_brothersFault 4 = .ok (.ldc 32, 2) := by decide +kernel
theorem dX9_brothersFault_6 : decode cX9_brothersFault 6 = .ok (.invokevirtual 34, 3) := by decide +kernel
theorem dX9_brothersFault_9 : decode cX9_brothersFault 9 = .ok (.imul, 1) := by decide +kernel
theorem dX9_brothersFault_10 : decode cX9_brothersFault 10 = .ok (.istore_n 2, 1) := by decide +kernel
theorem dX9_brothersFault_11 : decode cX9_brothersFault 11 = .ok (.aload_n 0, 1) := by decide +kernel
theorem dX9_brothersFault_12 : decode cX9_brothersFault 12 = .ok (.ldc 32, 2) := by decide +kernel
theorem dX9_brothersFault_14 : decode cX9_brothersFault 14 = .ok (.iload_n 2, 1) := by decide +kernel
theorem dX9_brothersFault_15 : decode cX9_brothersFault 15 = .ok (.bipush 34, 2) := by decide +kernel
theorem dX9_brothersFault_17 : decode cX9_brothersFault 17 = .ok (.invokestatic 40, 3) := by decide +kernel
theorem dX9_brothersFault_20 : decode cX9_brothersFault 20 = .ok (.invokevirtual 28, 3) := by decide +kernel
theorem dX9_brothersFault_23 : decode cX9_brothersFault 23 = .ok (.istore_n 3, 1) := by decide +kernel
theorem dX9_brothersFault_24 : decode cX9_brothersFault 24 = .ok (.aload_n 0, 1) := by decide +kernel
theorem dX9_brothersFault_25 : decode cX9_brothersFault 25 = .ok (.getfield 15, 3) := by decide +kernel
theorem dX9_brothersFault_28 : decode cX9_brothersFault 28 = .ok (.ifCond .eq 23, 3) := by decide +kernel
theorem dX9_brothersFault_31 : decode cX9_brothersFault 31 = .ok (.aload_n 0, 1) := by decide +kernel
theorem dX9_brothersFault_32 : decode cX9_brothersFault 32 = .ok (.getfield 15, 3) := by decide +kernel
theorem dX9_brothersFault_35 : decode cX9_brothersFault 35 = .ok (.ldc 32, 2) := by decide +kernel
theorem dX9_brothersFault_37 : decode cX9_brothersFault 37 = .ok (.invokevirtual 34, 3) := by decide +kernel
theorem dX9_brothersFault_40 : decode cX9_brothersFault 40 = .ok (.irem, 1) := by decide +kernel
theorem dX9_brothersFault_41 : decode cX9_brothersFault 41 = .ok (.ldc 32, 2) := by decide +kernel
theorem dX9_brothersFault_43 : decode cX9_brothersFault 43 = .ok (.invokevirtual 34, 3) := by decide +kernel
theorem dX9_brothersFault_46 : decode cX9_brothersFault 46 = .ok (.iconst 1, 1) := by decide +kernel
theorem dX9_brothersFault_47 : decode cX9_brothersFault 47 = .ok (.isub, 1) := by decide +kernel
theorem dX9_brothersFault_48 : decode cX9_brothersFault 48 = .ok (.if_icmp .ne 7, 3) := by decide +kernel
theorem dX9_brothersFault_51 : decode cX9_brothersFault 51 = .ok (.iconst 1, 1) := by decide +kernel
theorem dX9_brothersFault_52 : decode cX9_brothersFault 52 = .ok (.goto 4, 3) := by decide +kernel
theorem dX9_brothersFault_55 : decode cX9_brothersFault 55 = .ok (.iconst 0, 1) := by decide +kernel
theorem dX9_brothersFault_56 : decode cX9_brothersFault 56 = .ok (.istore 4, 2) := by decide +kernel
theorem dX9_brothersFault_58 : decode cX9_brothersFault 58 = .ok (.iload_n 3, 1) := by decide +kernel
theorem dX9_brothersFault_59 : decode cX9_brothersFault 59 = .ok (.iconst (-1), 1) := by decide +kernel
theorem dX9_brothersFault_60 : decode cX9_brothersFault 60 = .ok (.if_icmp .ne 15, 3) := by decide +kernel
theorem dX9_brothersFault_63 : decode cX9_brothersFault 63 = .ok (.iload 4, 2) := by decide +kernel
theorem dX9_brothersFault_65 : decode cX9_brothersFault 65 = .ok (.ifCond .ne 10, 3) := by decide +kernel
theorem dX9_brothersFault_68 : decode cX9_brothersFault 68 = .ok (.aload_n 0, 1) := by decide +kernel
theorem dX9_brothersFault_69 : decode cX9_brothersFault 69 = .ok (.getfield 15, 3) := by decide +kernel
theorem dX9_brothersFault_72 : decode cX9_brothersFault 72 = .ok (.goto 4, 3) := by decide +kernel
theorem dX9_brothersFault_75 : decode cX9_brothersFault 75 = .ok (.iload_n 3, 1) := by decide +kernel
theorem dX9_brothersFault_76 : decode cX9_brothersFault 76 = .ok (.ireturn, 1) := by decide +kernel
theorem dX9_windsFault_0 : decode cX9_windsFault 0 = .ok (.aload_n 0, 1) := by decide +kernel
theorem dX9_windsFault_1 : decode cX9_windsFault 1 = .ok (.ldc 46, 2) := by decide +kernel
theorem dX9_windsFault_3 : decode cX9_windsFault 3 = .ok (.bipush 40, 2) := by decide +kernel
theorem dX9_windsFault_5 : decode cX9_windsFault 5 = .ok (.invokevirtual 28, 3) := by decide +kernel
theorem dX9_windsFault_8 : decode cX9_windsFault 8 = .ok (.istore_n 1, 1) := by decide +kernel
theorem dX9_windsFault_9 : decode cX9_windsFault 9 = .ok (.iload_n 1, 1) := by decide +kernel
theorem dX9_windsFault_10 : decode cX9_windsFault 10 = .ok (.iconst (-1), 1) := by decide +kernel
theorem dX9_windsFault_11 : decode cX9_windsFault 11 = .ok (.if_icmp .ne 27, 3) := by decide +kernel
theorem dX9_windsFault_14 : decode cX9_windsFault 14 = .ok (.aload_n 0, 1) := by decide +kernel
theorem dX9_windsFault_15 : decode cX9_windsFault 15 = .ok (.getfield 15, 3) := by decide +kernel
theorem dX9_windsFault_18 : decode cX9_windsFault 18 = .ok (.ifCond .eq 13, 3) := by decide +kernel
theorem dX9_windsFault_21 : decode cX9_windsFault 21 = .ok (.aload_n 0, 1) := by decide +kernel
theorem dX9_windsFault_22 : decode cX9_windsFault 22 = .ok (.getfield 15, 3) := by decide +kernel
theorem dX9_windsFault_25 : decode cX9_windsFault 25 = .ok (.iconst 2, 1) := by decide +kernel
theorem dX9_windsFault_26 : decode cX9_windsFault 26 = .ok (.irem, 1) := by decide +kernel
theorem dX9_windsFault_27 : decode cX9_windsFault 27 = .ok (.iconst 1, 1) := by decide +kernel
theorem dX9_windsFault_28 : decode cX9_windsFault 28 = .ok (.if_icmp .ne 10, 3) := by decide +kernel
theorem dX9_windsFault_31 : decode cX9_windsFault 31 = .ok (.aload_n 0, 1) := by decide +kernel
theorem dX9_windsFault_32 : decode cX9_windsFault 32 = .ok (.getfield 15, 3) := by decide +kernel
theorem dX9_windsFault_35 : decode cX9_windsFault 35 = .ok (.goto 4, 3) := by decide +kernel
theorem dX9_windsFault_38 : decode cX9_windsFault 38 = .ok (.iload_n 1, 1) := by decide +kernel
theorem dX9_windsFault_39 : decode cX9_windsFault 39 = .ok (.ireturn, 1) := by decide +kernel
theorem dX9_watchFault_0 : decode cX9_watchFault 0 = .ok (.ldc 48, 2) := by decide +kernel
theorem dX9_watchFault_2 : decode cX9_watchFault 2 = .ok (.astore_n 1, 1) := by decide +kernel
theorem dX9_watchFault_3 : decode cX9_watchFault 3 = .ok (.iconst 0, 1) := by decide +kernel
theorem dX9_watchFault_4 : decode cX9_watchFault 4 = .ok (.istore_n 2, 1) := by decide +kernel
theorem dX9_watchFault_5 : decode cX9_watchFault 5 = .ok (.iconst 0, 1) := by decide +kernel
theorem dX9_watchFault_6 : decode cX9_watchFault 6 = .ok (.istore_n 3, 1) := by decide +kernel
theorem dX9_watchFault_7 : decode cX9_watchFault 7 = .ok (.iload_n 3, 1) := by decide +kernel
theorem dX9_watchFault_8 : decode cX9_watchFault 8 = .ok (.aload_n 0, 1) := by decide +kernel
theorem dX9_watchFault_9 : decode cX9_watchFault 9 = .ok (.getfield 15, 3) := by decide +kernel
theorem dX9_watchFault_12 : decode cX9_watchFault 12 = .ok (.if_icmp .ge 65, 3) := by decide +kernel
theorem dX9_watchFault_15 : decode cX9_watchFault 15 = .ok (.iload_n 2, 1) := by decide +kernel
theorem dX9_watchFault_16 : decode cX9_watchFault 16 = .ok (.aload_n 1, 1) := by decide +kernel
theorem dX9_watchFault_17 : decode cX9_watchFault 17 = .ok (.invokevirtual 34, 3) := by decide +kernel
theorem dX9_watchFault_20 : decode cX9_watchFault 20 = .ok (.if_icmp .lt 15, 3) := by decide +kernel
theorem dX9_watchFault_23 : decode cX9_watchFault 23 = .ok (.aload_n 0, 1) := by decide +kernel
theorem dX9_watchFault_24 : decode cX9_watchFault 24 = .ok (.getfield 9, 3) := by decide +kernel
theorem dX9_watchFault_27 : decode cX9_watchFault 27 = .ok (.iload_n 3, 1) := by decide +kernel
theorem dX9_watchFault_28 : decode cX9_watchFault 28 = .ok (.iaload, 1) := by decide +kernel
theorem dX9_watchFault_29 : decode cX9_watchFault 29 = .ok (.invokestatic 50, 3) := by decide +kernel
theorem dX9_watchFault_32 : decode cX9_watchFault 32 = .ok (.astore_n 1, 1) := by decide +kernel
theorem dX9_watchFault_33 : decode cX9_watchFault 33 = .ok (.iconst 0, 1) := by decide +kernel
theorem dX9_watchFault_34 : decode cX9_watchFault 34 = .ok (.istore_n 2, 1) := by decide +kernel
theorem dX9_watchFault_35 : decode cX9_watchFault 35 = .ok (.iload_n 3, 1) := by decide +kernel
theorem dX9_watchFault_36 : decode cX9_watchFault 36 = .ok (.bipush 60, 2) := by decide +kernel
theorem dX9_watchFault_38 : decode cX9_watchFault 38 = .ok (.if_icmp .eq 28, 3) := by decide +kernel
theorem dX9_watchFault_41 : decode cX9_watchFault 41 = .ok (.iload_n 2, 1) := by decide +kernel
theorem dX9_watchFault_42 : decode cX9_watchFault 42 = .ok (.aload_n 1, 1) := by decide +kernel
theorem dX9_watchFault_43 : decode cX9_watchFault 43 = .ok (.invokevirtual 34, 3) := by decide +kernel
theorem dX9_watchFault_46 : decode cX9_watchFault 46 = .ok (.if_icmp .ge 20, 3) := by decide +kernel
theorem dX9_watchFault_49 : decode cX9_watchFault 49 = .ok (.aload_n 1, 1) := by decide +kernel
theorem dX9_watchFault_50 : decode cX9_watchFault 50 = .ok (.iload_n 2, 1) := by decide +kernel
theorem dX9_watchFault_51 : decode cX9_watchFault 51 = .ok (.invokevirtual 54, 3) := by decide +kernel
theorem dX9_watchFault_54 : decode cX9_watchFault 54 = .ok (.aload_n 0, 1) := by decide +kernel
theorem dX9_watchFault_55 : decode cX9_watchFault 55 = .ok (.getfield 9, 3) := by decide +kernel
theorem dX9_watchFault_58 : decode cX9_watchFault 58 = .ok (.iload_n 3, 1) := by decide +kernel
theorem dX9_watchFault_59 : decode cX9_watchFault 59 = .ok (.iaload, 1) := by decide +kernel
theorem dX9_watchFault_60 : decode cX9_watchFault 60 = .ok (.invokestatic 58, 3) := by decide +kernel
theorem dX9_watchFault_63 : decode cX9_watchFault 63 = .ok (.ifCond .ne 5, 3) := by decide +kernel
theorem dX9_watchFault_66 : decode cX9_watchFault 66 = .ok (.iload_n 3, 1) := by decide +kernel
theorem dX9_watchFault_67 : decode cX9_watchFault 67 = .ok (.ireturn, 1) := by decide +kernel
theorem dX9_watchFault_68 : decode cX9_watchFault 68 = .ok (.iinc 2 1, 3) := by decide +kernel
theorem dX9_watchFault_71 : decode cX9_watchFault 71 = .ok (.iinc 3 1, 3) := by decide +kernel
theorem dX9_watchFault_74 : decode cX9_watchFault 74 = .ok (.goto (-67), 3) := by decide +kernel
theorem dX9_watchFault_77 : decode cX9_watchFault 77 = .ok (.iload_n 2, 1) := by decide +kernel
theorem dX9_watchFault_78 : decode cX9_watchFault 78 = .ok (.aload_n 1, 1) := by decide +kernel
theorem dX9_watchFault_79 : decode cX9_watchFault 79 = .ok (.invokevirtual 34, 3) := by decide +kernel
theorem dX9_watchFault_82 : decode cX9_watchFault 82 = .ok (.if_icmp .ge 10, 3) := by decide +kernel
theorem dX9_watchFault_85 : decode cX9_watchFault 85 = .ok (.aload_n 0, 1) := by decide +kernel
theorem dX9_watchFault_86 : decode cX9_watchFault 86 = .ok (.getfield 15, 3) := by decide +kernel
theorem dX9_watchFault_89 : decode cX9_watchFault 89 = .ok (.goto 4, 3) := by decide +kernel
theorem dX9_watchFault_92 : decode cX9_watchFault 92 = .ok (.iconst (-1), 1) := by decide +kernel
theorem dX9_watchFault_93 : decode cX9_watchFault 93 = .ok (.ireturn, 1) := by decide +kernel
theorem dX9_formOfAct_0 : decode cX9_formOfAct 0 = .ok (.iload_n 0, 1) := by decide +kernel
theorem dX9_formOfAct_1 : decode cX9_formOfAct 1 = .ok (.tableswitch 97 101 116 #[88, 97, 97, 97, 97, 97, 97, 97, 85, 79, 97, 91, 97, 97, 94, 82], 79) := by decide +kernel
theorem dX9_formOfAct_80 : decode cX9_formOfAct 80 = .ok (.ldc 62, 2) := by decide +kernel
theorem dX9_formOfAct_82 : decode cX9_formOfAct 82 = .ok (.areturn, 1) := by decide +kernel
theorem dX9_formOfAct_83 : decode cX9_formOfAct 83 = .ok (.ldc 64, 2) := by decide +kernel
theorem dX9_formOfAct_85 : decode cX9_formOfAct 85 = .ok (.areturn, 1) := by decide +kernel
theorem dX9_formOfAct_86 : decode cX9_formOfAct 86 = .ok (.ldc 66, 2) := by decide +kernel
theorem dX9_formOfAct_88 : decode cX9_formOfAct 88 = .ok (.areturn, 1) := by decide +kernel
theorem dX9_formOfAct_89 : decode cX9_formOfAct 89 = .ok (.ldc 68, 2) := by decide +kernel
theorem dX9_formOfAct_91 : decode cX9_formOfAct 91 = .ok (.areturn, 1) := by decide +kernel
theorem dX9_formOfAct_92 : decode cX9_formOfAct 92 = .ok (.ldc 70, 2) := by decide +kernel
theorem dX9_formOfAct_94 : decode cX9_formOfAct 94 = .ok (.areturn, 1) := by decide +kernel
theorem dX9_formOfAct_95 : decode cX9_formOfAct 95 = .ok (.ldc 72, 2) := by decide +kernel
theorem dX9_formOfAct_97 : decode cX9_formOfAct 97 = .ok (.areturn, 1) := by decide +kernel
theorem dX9_formOfAct_98 : decode cX9_formOfAct 98 = .ok (.ldc 48, 2) := by decide +kernel
theorem dX9_formOfAct_100 : decode cX9_formOfAct 100 = .ok (.areturn, 1) := by decide +kernel
theorem dX9_faultOf_0 : decode cX9_faultOf 0 = .ok (.iconst 0, 1) := by decide +kernel
theorem dX9_faultOf_1 : decode cX9_faultOf 1 = .ok (.istore_n 3, 1) := by decide +kernel
theorem dX9_faultOf_2 : decode cX9_faultOf 2 = .ok (.iconst 0, 1) := by decide +kernel
theorem dX9_faultOf_3 : decode cX9_faultOf 3 = .ok (.istore 4, 2) := by decide +kernel
theorem dX9_faultOf_5 : decode cX9_faultOf 5 = .ok (.iload 4, 2) := by decide +kernel
theorem dX9_faultOf_7 : decode cX9_faultOf 7 = .ok (.aload_n 0, 1) := by decide +kernel
theorem dX9_faultOf_8 : decode cX9_faultOf 8 = .ok (.getfield 15, 3) := by decide +kernel
theorem dX9_faultOf_11 : decode cX9_faultOf 11 = .ok (.if_icmp .ge 62, 3) := by decide +kernel
theorem dX9_faultOf_14 : decode cX9_faultOf 14 = .ok (.iload 4, 2) := by decide +kernel
theorem dX9_faultOf_16 : decode cX9_faultOf 16 = .ok (.iload_n 2, 1) := by decide +kernel
theorem dX9_faultOf_17 : decode cX9_faultOf 17 = .ok (.if_icmp .eq 29, 3) := by decide +kernel
theorem dX9_faultOf_20 : decode cX9_faultOf 20 = .ok (.iload_n 3, 1) := by decide +kernel
theorem dX9_faultOf_21 : decode cX9_faultOf 21 = .ok (.aload_n 1, 1) := by decide +kernel
theorem dX9_faultOf_22 : decode cX9_faultOf 22 = .ok (.invokevirtual 34, 3) := by decide +kernel
theorem dX9_faultOf_25 : decode cX9_faultOf 25 = .ok (.if_icmp .ge 21, 3) := by decide +kernel
theorem dX9_faultOf_28 : decode cX9_faultOf 28 = .ok (.aload_n 1, 1) := by decide +kernel
theorem dX9_faultOf_29 : decode cX9_faultOf 29 = .ok (.iload_n 3, 1) := by decide +kernel
theorem dX9_faultOf_30 : decode cX9_faultOf 30 = .ok (.invokevirtual 54, 3) := by decide +kernel
theorem dX9_faultOf_33 : decode cX9_faultOf 33 = .ok (.aload_n 0, 1) := by decide +kernel
theorem dX9_faultOf_34 : decode cX9_faultOf 34 = .ok (.getfield 9, 3) := by decide +kernel
theorem dX9_faultOf_37 : decode cX9_faultOf 37 = .ok (.iload 4, 2) := by decide +kernel
theorem dX9_faultOf_39 : decode cX9_faultOf 39 = .ok (.iaload, 1) := by decide +kernel
theorem dX9_faultOf_40 : decode cX9_faultOf 40 = .ok (.invokestatic 58, 3) := by decide +kernel
theorem dX9_faultOf_43 : decode cX9_faultOf 43 = .ok (.ifCond .ne 6, 3) := by decide +kernel
theorem dX9_faultOf_46 : decode cX9_faultOf 46 = .ok (.iload 4, 2) := by decide +kernel
theorem dX9_faultOf_48 : decode cX9_faultOf 48 = .ok (.ireturn, 1) := by decide +kernel
theorem dX9_faultOf_49 : decode cX9_faultOf 49 = .ok (.iload_n 3, 1) := by decide +kernel
theorem dX9_faultOf_50 : decode cX9_faultOf 50 = .ok (.iconst 1, 1) := by decide +kernel
theorem dX9_faultOf_51 : decode cX9_faultOf 51 = .ok (.iadd, 1) := by decide +kernel
theorem dX9_faultOf_52 : decode cX9_faultOf 52 = .ok (.aload_n 1, 1) := by decide +kernel
theorem dX9_faultOf_53 : decode cX9_faultOf 53 = .ok (.invokevirtual 34, 3) := by decide +kernel
theorem dX9_faultOf_56 : decode cX9_faultOf 56 = .ok (.if_icmp .ge 9, 3) := by decide +kernel
theorem dX9_faultOf_59 : decode cX9_faultOf 59 = .ok (.iload_n 3, 1) := by decide +kernel
theorem dX9_faultOf_60 : decode cX9_faultOf 60 = .ok (.iconst 1, 1) := by decide +kernel
theorem dX9_faultOf_61 : decode cX9_faultOf 61 = .ok (.iadd, 1) := by decide +kernel
theorem dX9_faultOf_62 : decode cX9_faultOf 62 = .ok (.goto 4, 3) := by decide +kernel
theorem dX9_faultOf_65 : decode cX9_faultOf 65 = .ok (.iconst 0, 1) := by decide +kernel
theorem dX9_faultOf_66 : decode cX9_faultOf 66 = .ok (.istore_n 3, 1) := by decide +kernel
theorem dX9_faultOf_67 : decode cX9_faultOf 67 = .ok (.iinc 4 1, 3) := by decide +kernel
theorem dX9_faultOf_70 : decode cX9_faultOf 70 = .ok (.goto (-65), 3) := by decide +kernel
theorem dX9_faultOf_73 : decode cX9_faultOf 73 = .ok (.iconst (-1), 1) := by decide +kernel
theorem dX9_faultOf_74 : decode cX9_faultOf 74 = .ok (.ireturn, 1) := by decide +kernel
theorem dX9_stands_0 : decode cX9_stands 0 = .ok (.iload_n 0, 1) := by decide +kernel
theorem dX9_stands_1 : decode cX9_stands 1 = .ok (.lookupswitch 88 #[(43, 70), (49, 61), (53, 52), (57, 43)], 43) := by decide +kernel
theorem dX9_stands_44 : decode cX9_stands 44 = .ok (.iload_n 1, 1) := by decide +kernel
theorem dX9_stands_45 : decode cX9_stands 45 = .ok (.bipush 48, 2) := by decide +kernel
theorem dX9_stands_47 : decode cX9_stands 47 = .ok (.bipush 57, 2) := by decide +kernel
theorem dX9_stands_49 : decode cX9_stands 49 = .ok (.invokestatic 74, 3) := by decide +kernel
theorem dX9_stands_52 : decode cX9_stands 52 = .ok (.ireturn, 1) := by decide +kernel
theorem dX9_stands_53 : decode cX9_stands 53 = .ok (.iload_n 1, 1) := by decide +kernel
theorem dX9_stands_54 : decode cX9_stands 54 = .ok (.bipush 48, 2) := by decide +kernel
theorem dX9_stands_56 : decode cX9_stands 56 = .ok (.bipush 53, 2) := by decide +kernel
theorem dX9_stands_58 : decode cX9_stands 58 = .ok (.invokestatic 74, 3) := by decide +kernel
theorem dX9_stands_61 : decode cX9_stands 61 = .ok (.ireturn, 1) := by decide +kernel
theorem dX9_stands_62 : decode cX9_stands 62 = .ok (.iload_n 1, 1) := by decide +kernel
theorem dX9_stands_63 : decode cX9_stands 63 = .ok (.bipush 49, 2) := by decide +kernel
theorem dX9_stands_65 : decode cX9_stands 65 = .ok (.bipush 57, 2) := by decide +kernel
theorem dX9_stands_67 : decode cX9_stands 67 = .ok (.invokestatic 74, 3) := by decide +kernel
theorem dX9_stands_70 : decode cX9_stands 70 = .ok (.ireturn, 1) := by decide +kernel
theorem dX9_stands_71 : decode cX9_stands 71 = .ok (.iload_n 1, 1) := by decide +kernel
theorem dX9_stands_72 : decode cX9_stands 72 = .ok (.bipush 43, 2) := by decide +kernel
theorem dX9_stands_74 : decode cX9_stands 74 = .ok (.if_icmp .eq 9, 3) := by decide +kernel
theorem dX9_stands_77 : decode cX9_stands 77 = .ok (.iload_n 1, 1) := by decide +kernel
theorem dX9_stands_78 : decode cX9_stands 78 = .ok (.bipush 45, 2) := by decide +kernel
theorem dX9_stands_80 : decode cX9_stands 80 = .ok (.if_icmp .ne 7, 3) := by decide +kernel
theorem dX9_stands_83 : decode cX9_stands 83 = .ok (.iconst 1, 1) := by decide +kernel
theorem dX9_stands_84 : decode cX9_stands 84 = .ok (.goto 4, 3) := by decide +kernel
theorem dX9_stands_87 : decode cX9_stands 87 = .ok (.iconst 0, 1) := by decide +kernel
theorem dX9_stands_88 : decode cX9_stands 88 = .ok (.ireturn, 1) := by decide +kernel
theorem dX9_stands_89 : decode cX9_stands 89 = .ok (.iload_n 1, 1) := by decide +kernel
theorem dX9_stands_90 : decode cX9_stands 90 = .ok (.iload_n 0, 1) := by decide +kernel
theorem dX9_stands_91 : decode cX9_stands 91 = .ok (.if_icmp .ne 7, 3) := by decide +kernel
theorem dX9_stands_94 : decode cX9_stands 94 = .ok (.iconst 1, 1) := by decide +kernel
theorem dX9_stands_95 : decode cX9_stands 95 = .ok (.goto 4, 3) := by decide +kernel
theorem dX9_stands_98 : decode cX9_stands 98 = .ok (.iconst 0, 1) := by decide +kernel
theorem dX9_stands_99 : decode cX9_stands 99 = .ok (.ireturn, 1) := by decide +kernel
theorem dJ0_length_8abf5_0 : decode cJ0_length_8abf5 0 = .ok (.aload_n 0, 1) := by decide +kernel
theorem dJ0_length_8abf5_1 : decode cJ0_length_8abf5 1 = .ok (.getfield 9, 3) := by decide +kernel
theorem dJ0_length_8abf5_4 : decode cJ0_length_8abf5 4 = .ok (.arraylength, 1) := by decide +kernel
theorem dJ0_length_8abf5_5 : decode cJ0_length_8abf5 5 = .ok (.aload_n 0, 1) := by decide +kernel
theorem dJ0_length_8abf5_6 : decode cJ0_length_8abf5 6 = .ok (.invokevirtual 335, 3) := by decide +kernel
theorem dJ0_length_8abf5_9 : decode cJ0_length_8abf5 9 = .ok (.ishr, 1) := by decide +kernel
theorem dJ0_length_8abf5_10 : decode cJ0_length_8abf5 10 = .ok (.ireturn, 1) := by decide +kernel
theorem dJ0_charAt_5068e_0 : decode cJ0_charAt_5068e 0 = .ok (.aload_n 0, 1) := by decide +kernel
theorem dJ0_charAt_5068e_1 : decode cJ0_charAt_5068e 1 = .ok (.invokevirtual 492, 3) := by decide +kernel
theorem dJ0_charAt_5068e_4 : decode cJ0_charAt_5068e 4 = .ok (.ifCond .eq 12, 3) := by decide +kernel
theorem dJ0_charAt_5068e_7 : decode cJ0_charAt_5068e 7 = .ok (.aload_n 0, 1) := by decide +kernel
theorem dJ0_charAt_5068e_8 : decode cJ0_charAt_5068e 8 = .ok (.getfield 9, 3) := by decide +kernel
theorem dJ0_charAt_5068e_11 : decode cJ0_charAt_5068e 11 = .ok (.iload_n 1, 1) := by decide +kernel
theorem dJ0_charAt_5068e_12 : decode cJ0_charAt_5068e 12 = .ok (.invokestatic 495, 3) := by decide +kernel
theorem dJ0_charAt_5068e_15 : decode cJ0_charAt_5068e 15 = .ok (.ireturn, 1) := by decide +kernel
theorem dJ0_charAt_5068e_16 : decode cJ0_charAt_5068e 16 = .ok (.aload_n 0, 1) := by decide +kernel
theorem dJ0_charAt_5068e_17 : decode cJ0_charAt_5068e 17 = .ok (.getfield 9, 3) := by decide +kernel
theorem dJ0_charAt_5068e_20 : decode cJ0_charAt_5068e 20 = .ok (.iload_n 1, 1) := by decide +kernel
theorem dJ0_charAt_5068e_21 : decode cJ0_charAt_5068e 21 = .ok (.invokestatic 498, 3) := by decide +kernel
theorem dJ0_charAt_5068e_24 : decode cJ0_charAt_5068e 24 = .ok (.ireturn, 1) := by decide +kernel
theorem dJ0_indexOf_0f7a4_0 : decode cJ0_indexOf_0f7a4 0 = .ok (.aload_n 0, 1) := by decide +kernel
theorem dJ0_indexOf_0f7a4_1 : decode cJ0_indexOf_0f7a4 1 = .ok (.iload_n 1, 1) := by decide +kernel
theorem dJ0_indexOf_0f7a4_2 : decode cJ0_indexOf_0f7a4 2 = .ok (.iconst 0, 1) := by decide +kernel
theorem dJ0_indexOf_0f7a4_3 : decode cJ0_indexOf_0f7a4 3 = .ok (.invokevirtual 633, 3) := by decide +kernel
theorem dJ0_indexOf_0f7a4_6 : decode cJ0_indexOf_0f7a4 6 = .ok (.ireturn, 1) := by decide +kernel
theorem dJ0_indexOf_7cf53_0 : decode cJ0_indexOf_7cf53 0 = .ok (.aload_n 0, 1) := by decide +kernel
theorem dJ0_indexOf_7cf53_1 : decode cJ0_indexOf_7cf53 1 = .ok (.invokevirtual 492, 3) := by decide +kernel
theorem dJ0_indexOf_7cf53_4 : decode cJ0_indexOf_7cf53 4 = .ok (.ifCond .eq 19, 3) := by decide +kernel
theorem dJ0_indexOf_7cf53_7 : decode cJ0_indexOf_7cf53 7 = .ok (.aload_n 0, 1) := by decide +kernel
theorem dJ0_indexOf_7cf53_8 : decode cJ0_indexOf_7cf53 8 = .ok (.getfield 9, 3) := by decide +kernel
theorem dJ0_indexOf_7cf53_11 : decode cJ0_indexOf_7cf53 11 = .ok (.iload_n 1, 1) := by decide +kernel
theorem dJ0_indexOf_7cf53_12 : decode cJ0_indexOf_7cf53 12 = .ok (.iload_n 2, 1) := by decide +kernel
theorem dJ0_indexOf_7cf53_13 : decode cJ0_indexOf_7cf53 13 = .ok (.aload_n 0, 1) := by decide +kernel
theorem dJ0_indexOf_7cf53_14 : decode cJ0_indexOf_7cf53 14 = .ok (.invokevirtual 505, 3) := by decide +kernel
theorem dJ0_indexOf_7cf53_17 : decode cJ0_indexOf_7cf53 17 = .ok (.invokestatic 637, 3) := by decide +kernel
theorem dJ0_indexOf_7cf53_20 : decode cJ0_indexOf_7cf53 20 = .ok (.goto 16, 3) := by decide +kernel
theorem dJ0_indexOf_7cf53_23 : decode cJ0_indexOf_7cf53 23 = .ok (.aload_n 0, 1) := by decide +kernel
theorem dJ0_indexOf_7cf53_24 : decode cJ0_indexOf_7cf53 24 = .ok (.getfield 9, 3) := by decide +kernel
theorem dJ0_indexOf_7cf53_27 : decode cJ0_indexOf_7cf53 27 = .ok (.iload_n 1, 1) := by decide +kernel
theorem dJ0_indexOf_7cf53_28 : decode cJ0_indexOf_7cf53 28 = .ok (.iload_n 2, 1) := by decide +kernel
theorem dJ0_indexOf_7cf53_29 : decode cJ0_indexOf_7cf53 29 = .ok (.aload_n 0, 1) := by decide +kernel
theorem dJ0_indexOf_7cf53_30 : decode cJ0_indexOf_7cf53 30 = .ok (.invokevirtual 505, 3) := by decide +kernel
theorem dJ0_indexOf_7cf53_33 : decode cJ0_indexOf_7cf53 33 = .ok (.invokestatic 640, 3) := by decide +kernel
theorem dJ0_indexOf_7cf53_36 : decode cJ0_indexOf_7cf53 36 = .ok (.ireturn, 1) := by decide +kernel
theorem dJ0_coder_7d493_0 : decode cJ0_coder_7d493 0 = .ok (.getstatic 38, 3) := by decide +kernel
theorem dJ0_coder_7d493_3 : decode cJ0_coder_7d493 3 = .ok (.ifCond .eq 10, 3) := by decide +kernel
theorem dJ0_coder_7d493_6 : decode cJ0_coder_7d493 6 = .ok (.aload_n 0, 1) := by decide +kernel
theorem dJ0_coder_7d493_7 : decode cJ0_coder_7d493 7 = .ok (.getfield 15, 3) := by decide +kernel
theorem dJ0_coder_7d493_10 : decode cJ0_coder_7d493 10 = .ok (.goto 4, 3) := by decide +kernel
theorem dJ0_coder_7d493_13 : decode cJ0_coder_7d493 13 = .ok (.iconst 1, 1) := by decide +kernel
theorem dJ0_coder_7d493_14 : decode cJ0_coder_7d493 14 = .ok (.ireturn, 1) := by decide +kernel
theorem dJ0_isLatin1_aae02_0 : decode cJ0_isLatin1_aae02 0 = .ok (.getstatic 38, 3) := by decide +kernel
theorem dJ0_isLatin1_aae02_3 : decode cJ0_isLatin1_aae02 3 = .ok (.ifCond .eq 14, 3) := by decide +kernel
theorem dJ0_isLatin1_aae02_6 : decode cJ0_isLatin1_aae02 6 = .ok (.aload_n 0, 1) := by decide +kernel
theorem dJ0_isLatin1_aae02_7 : decode cJ0_isLatin1_aae02 7 = .ok (.getfield 15, 3) := by decide +kernel
theorem dJ0_isLatin1_aae02_10 : decode cJ0_isLatin1_aae02 10 = .ok (.ifCond .ne 7, 3) := by decide +kernel
theorem dJ0_isLatin1_aae02_13 : decode cJ0_isLatin1_aae02 13 = .ok (.iconst 1, 1) := by decide +kernel
theorem dJ0_isLatin1_aae02_14 : decode cJ0_isLatin1_aae02 14 = .ok (.goto 4, 3) := by decide +kernel
theorem dJ0_isLatin1_aae02_17 : decode cJ0_isLatin1_aae02 17 = .ok (.iconst 0, 1) := by decide +kernel
theorem dJ0_isLatin1_aae02_18 : decode cJ0_isLatin1_aae02 18 = .ok (.ireturn, 1) := by decide +kernel
theorem dJ0_checkIndex_df160_0 : decode cJ0_checkIndex_df160 0 = .ok (.iload_n 0, 1) := by decide +kernel
theorem dJ0_checkIndex_df160_1 : decode cJ0_checkIndex_df160 1 = .ok (.iload_n 1, 1) := by decide +kernel
theorem dJ0_checkIndex_df160_2 : decode cJ0_checkIndex_df160 2 = .ok (.getstatic 1053, 3) := by decide +kernel
theorem dJ0_checkIndex_df160_5 : decode cJ0_checkIndex_df160 5 = .ok (.invokestatic 1059, 3) := by decide +kernel
theorem dJ0_checkIndex_df160_8 : decode cJ0_checkIndex_df160 8 = .ok (.pop, 1) := by decide +kernel
theorem dJ0_checkIndex_df160_9 : decode cJ0_checkIndex_df160 9 = .ok (.return_, 1) := by decide +kernel
theorem dJ0_checkBoundsBeginEnd_23922_0 : decode cJ0_checkBoundsBeginEnd_23922 0 = .ok (.iload_n 0, 1) := by decide +kernel
theorem dJ0_checkBoundsBeginEnd_23922_1 : decode cJ0_checkBoundsBeginEnd_23922 1 = .ok (.iload_n 1, 1) := by decide +kernel
theorem dJ0_checkBoundsBeginEnd_23922_2 : decode cJ0_checkBoundsBeginEnd_23922 2 = .ok (.iload_n 2, 1) := by decide +kernel
theorem dJ0_checkBoundsBeginEnd_23922_3 : decode cJ0_checkBoundsBeginEnd_23922 3 = .ok (.getstatic 1053, 3) := by decide +kernel
theorem dJ0_checkBoundsBeginEnd_23922_6 : decode cJ0_checkBoundsBeginEnd_23922 6 = .ok (.invokestatic 1062, 3) := by decide +kernel
theorem dJ0_checkBoundsBeginEnd_23922_9 : decode cJ0_checkBoundsBeginEnd_23922 9 = .ok (.pop, 1) := by decide +kernel
theorem dJ0_checkBoundsBeginEnd_23922_10 : decode cJ0_checkBoundsBeginEnd_23922 10 = .ok (.return_, 1) := by decide +kernel
theorem dJ1_charAt_3b067_0 : decode cJ1_charAt_3b067 0 = .ok (.iload_n 1, 1) := by decide +kernel
theorem dJ1_charAt_3b067_1 : decode cJ1_charAt_3b067 1 = .ok (.aload_n 0, 1) := by decide +kernel
theorem dJ1_charAt_3b067_2 : decode cJ1_charAt_3b067 2 = .ok (.arraylength, 1) := by decide +kernel
theorem dJ1_charAt_3b067_3 : decode cJ1_charAt_3b067 3 = .ok (.invokestatic 9, 3) := by decide +kernel
theorem dJ1_charAt_3b067_6 : decode cJ1_charAt_3b067 6 = .ok (.aload_n 0, 1) := by decide +kernel
theorem dJ1_charAt_3b067_7 : decode cJ1_charAt_3b067 7 = .ok (.iload_n 1, 1) := by decide +kernel
theorem dJ1_charAt_3b067_8 : decode cJ1_charAt_3b067 8 = .ok (.baload, 1) := by decide +kernel
theorem dJ1_charAt_3b067_9 : decode cJ1_charAt_3b067 9 = .ok (.sipush 255, 3) := by decide +kernel
theorem dJ1_charAt_3b067_12 : decode cJ1_charAt_3b067 12 = .ok (.iand, 1) := by decide +kernel
theorem dJ1_charAt_3b067_13 : decode cJ1_charAt_3b067 13 = .ok (.i2c, 1) := by decide +kernel
theorem dJ1_charAt_3b067_14 : decode cJ1_charAt_3b067 14 = .ok (.ireturn, 1) := by decide +kernel
theorem dJ1_canEncode_9a6ad_0 : decode cJ1_canEncode_9a6ad 0 = .ok (.iload_n 0, 1) := by decide +kernel
theorem dJ1_canEncode_9a6ad_1 : decode cJ1_canEncode_9a6ad 1 = .ok (.ifCond .lt 14, 3) := by decide +kernel
theorem dJ1_canEncode_9a6ad_4 : decode cJ1_canEncode_9a6ad 4 = .ok (.iload_n 0, 1) := by decide +kernel
theorem dJ1_canEncode_9a6ad_5 : decode cJ1_canEncode_9a6ad 5 = .ok (.sipush 255, 3) := by decide +kernel
theorem dJ1_canEncode_9a6ad_8 : decode cJ1_canEncode_9a6ad 8 = .ok (.if_icmp .gt 7, 3) := by decide +kernel
theorem dJ1_canEncode_9a6ad_11 : decode cJ1_canEncode_9a6ad 11 = .ok (.iconst 1, 1) := by decide +kernel
theorem dJ1_canEncode_9a6ad_12 : decode cJ1_canEncode_9a6ad 12 = .ok (.goto 4, 3) := by decide +kernel
theorem dJ1_canEncode_9a6ad_15 : decode cJ1_canEncode_9a6ad 15 = .ok (.iconst 0, 1) := by decide +kernel
theorem dJ1_canEncode_9a6ad_16 : decode cJ1_canEncode_9a6ad 16 = .ok (.ireturn, 1) := by decide +kernel
theorem dJ1_indexOf_4cfef_0 : decode cJ1_indexOf_4cfef 0 = .ok (.iload_n 1, 1) := by decide +kernel
theorem dJ1_indexOf_4cfef_1 : decode cJ1_indexOf_4cfef 1 = .ok (.invokestatic 88, 3) := by decide +kernel
theorem dJ1_indexOf_4cfef_4 : decode cJ1_indexOf_4cfef 4 = .ok (.ifCond .ne 5, 3) := by decide +kernel
theorem dJ1_indexOf_4cfef_7 : decode cJ1_indexOf_4cfef 7 = .ok (.iconst (-1), 1) := by decide +kernel
theorem dJ1_indexOf_4cfef_8 : decode cJ1_indexOf_4cfef 8 = .ok (.ireturn, 1) := by decide +kernel
theorem dJ1_indexOf_4cfef_9 : decode cJ1_indexOf_4cfef 9 = .ok (.iload_n 2, 1) := by decide +kernel
theorem dJ1_indexOf_4cfef_10 : decode cJ1_indexOf_4cfef 10 = .ok (.iconst 0, 1) := by decide +kernel
theorem dJ1_indexOf_4cfef_11 : decode cJ1_indexOf_4cfef 11 = .ok (.invokestatic 92, 3) := by decide +kernel
theorem dJ1_indexOf_4cfef_14 : decode cJ1_indexOf_4cfef 14 = .ok (.istore_n 2, 1) := by decide +kernel
theorem dJ1_indexOf_4cfef_15 : decode cJ1_indexOf_4cfef 15 = .ok (.iload_n 3, 1) := by decide +kernel
theorem dJ1_indexOf_4cfef_16 : decode cJ1_indexOf_4cfef 16 = .ok (.aload_n 0, 1) := by decide +kernel
theorem dJ1_indexOf_4cfef_17 : decode cJ1_indexOf_4cfef 17 = .ok (.arraylength, 1) := by decide +kernel
theorem dJ1_indexOf_4cfef_18 : decode cJ1_indexOf_4cfef 18 = .ok (.invokestatic 38, 3) := by decide +kernel
theorem dJ1_indexOf_4cfef_21 : decode cJ1_indexOf_4cfef 21 = .ok (.istore_n 3, 1) := by decide +kernel
theorem dJ1_indexOf_4cfef_22 : decode cJ1_indexOf_4cfef 22 = .ok (.iload_n 2, 1) := by decide +kernel
theorem dJ1_indexOf_4cfef_23 : decode cJ1_indexOf_4cfef 23 = .ok (.iload_n 3, 1) := by decide +kernel
theorem dJ1_indexOf_4cfef_24 : decode cJ1_indexOf_4cfef 24 = .ok (.if_icmp .lt 5, 3) := by decide +kernel
theorem dJ1_indexOf_4cfef_27 : decode cJ1_indexOf_4cfef 27 = .ok (.iconst (-1), 1) := by decide +kernel
theorem dJ1_indexOf_4cfef_28 : decode cJ1_indexOf_4cfef 28 = .ok (.ireturn, 1) := by decide +kernel
theorem dJ1_indexOf_4cfef_29 : decode cJ1_indexOf_4cfef 29 = .ok (.aload_n 0, 1) := by decide +kernel
theorem dJ1_indexOf_4cfef_30 : decode cJ1_indexOf_4cfef 30 = .ok (.iload_n 1, 1) := by decide +kernel
theorem dJ1_indexOf_4cfef_31 : decode cJ1_indexOf_4cfef 31 = .ok (.iload_n 2, 1) := by decide +kernel
theorem dJ1_indexOf_4cfef_32 : decode cJ1_indexOf_4cfef 32 = .ok (.iload_n 3, 1) := by decide +kernel
theorem dJ1_indexOf_4cfef_33 : decode cJ1_indexOf_4cfef 33 = .ok (.invokestatic 95, 3) := by decide +kernel
theorem dJ1_indexOf_4cfef_36 : decode cJ1_indexOf_4cfef 36 = .ok (.ireturn, 1) := by decide +kernel
theorem dJ1_indexOfChar_4cfef_0 : decode cJ1_indexOfChar_4cfef 0 = .ok (.iload_n 1, 1) := by decide +kernel
theorem dJ1_indexOfChar_4cfef_1 : decode cJ1_indexOfChar_4cfef 1 = .ok (.i2b, 1) := by decide +kernel
theorem dJ1_indexOfChar_4cfef_2 : decode cJ1_indexOfChar_4cfef 2 = .ok (.istore 4, 2) := by decide +kernel
theorem dJ1_indexOfChar_4cfef_4 : decode cJ1_indexOfChar_4cfef 4 = .ok (.iload_n 2, 1) := by decide +kernel
theorem dJ1_indexOfChar_4cfef_5 : decode cJ1_indexOfChar_4cfef 5 = .ok (.istore 5, 2) := by decide +kernel
theorem dJ1_indexOfChar_4cfef_7 : decode cJ1_indexOfChar_4cfef 7 = .ok (.iload 5, 2) := by decide +kernel
theorem dJ1_indexOfChar_4cfef_9 : decode cJ1_indexOfChar_4cfef 9 = .ok (.iload_n 3, 1) := by decide +kernel
theorem dJ1_indexOfChar_4cfef_10 : decode cJ1_indexOfChar_4cfef 10 = .ok (.if_icmp .ge 21, 3) := by decide +kernel
theorem dJ1_indexOfChar_4cfef_13 : decode cJ1_indexOfChar_4cfef 13 = .ok (.aload_n 0, 1) := by decide +kernel
theorem dJ1_indexOfChar_4cfef_14 : decode cJ1_indexOfChar_4cfef 14 = .ok (.iload 5, 2) := by decide +kernel
theorem dJ1_indexOfChar_4cfef_16 : decode cJ1_indexOfChar_4cfef 16 = .ok (.baload, 1) := by decide +kernel
theorem dJ1_indexOfChar_4cfef_17 : decode cJ1_indexOfChar_4cfef 17 = .ok (.iload 4, 2) := by decide +kernel
theorem dJ1_indexOfChar_4cfef_19 : decode cJ1_indexOfChar_4cfef 19 = .ok (.if_icmp .ne 6, 3) := by decide +kernel
theorem dJ1_indexOfChar_4cfef_22 : decode cJ1_indexOfChar_4cfef 22 = .ok (.iload 5, 2) := by decide +kernel
theorem dJ1_indexOfChar_4cfef_24 : decode cJ1_indexOfChar_4cfef 24 = .ok (.ireturn, 1) := by decide +kernel
theorem dJ1_indexOfChar_4cfef_25 : decode cJ1_indexOfChar_4cfef 25 = .ok (.iinc 5 1, 3) := by decide +kernel
theorem dJ1_indexOfChar_4cfef_28 : decode cJ1_indexOfChar_4cfef 28 = .ok (.goto (-21), 3) := by decide +kernel
theorem dJ1_indexOfChar_4cfef_31 : decode cJ1_indexOfChar_4cfef 31 = .ok (.iconst (-1), 1) := by decide +kernel
theorem dJ1_indexOfChar_4cfef_32 : decode cJ1_indexOfChar_4cfef 32 = .ok (.ireturn, 1) := by decide +kernel
theorem dJ3_checkIndex_8e157_0 : decode cJ3_checkIndex_8e157 0 = .ok (.iload_n 0, 1) := by decide +kernel
theorem dJ3_checkIndex_8e157_1 : decode cJ3_checkIndex_8e157 1 = .ok (.ifCond .lt 8, 3) := by decide +kernel
theorem dJ3_checkIndex_8e157_4 : decode cJ3_checkIndex_8e157 4 = .ok (.iload_n 0, 1) := by decide +kernel
theorem dJ3_checkIndex_8e157_5 : decode cJ3_checkIndex_8e157 5 = .ok (.iload_n 1, 1) := by decide +kernel
theorem dJ3_checkIndex_8e157_6 : decode cJ3_checkIndex_8e157 6 = .ok (.if_icmp .lt 10, 3) := by decide +kernel
theorem dJ3_checkIndex_8e157_9 : decode cJ3_checkIndex_8e157 9 = .ok (.aload_n 2, 1) := by decide +kernel
theorem dJ3_checkIndex_8e157_10 : decode cJ3_checkIndex_8e157 10 = .ok (.iload_n 0, 1) := by decide +kernel
theorem dJ3_checkIndex_8e157_11 : decode cJ3_checkIndex_8e157 11 = .ok (.iload_n 1, 1) := by decide +kernel
theorem dJ3_checkIndex_8e157_12 : decode cJ3_checkIndex_8e157 12 = .ok (.invokestatic 95, 3) := by decide +kernel
theorem dJ3_checkIndex_8e157_15 : decode cJ3_checkIndex_8e157 15 = .ok (.athrow, 1) := by decide +kernel
theorem dJ3_checkIndex_8e157_16 : decode cJ3_checkIndex_8e157 16 = .ok (.iload_n 0, 1) := by decide +kernel
theorem dJ3_checkIndex_8e157_17 : decode cJ3_checkIndex_8e157 17 = .ok (.ireturn, 1) := by decide +kernel
theorem dJ3_checkFromToIndex_8c36e_0 : decode cJ3_checkFromToIndex_8c36e 0 = .ok (.iload_n 0, 1) := by decide +kernel
theorem dJ3_checkFromToIndex_8c36e_1 : decode cJ3_checkFromToIndex_8c36e 1 = .ok (.ifCond .lt 13, 3) := by decide +kernel
theorem dJ3_checkFromToIndex_8c36e_4 : decode cJ3_checkFromToIndex_8c36e 4 = .ok (.iload_n 0, 1) := by decide +kernel
theorem dJ3_checkFromToIndex_8c36e_5 : decode cJ3_checkFromToIndex_8c36e 5 = .ok (.iload_n 1, 1) := by decide +kernel
theorem dJ3_checkFromToIndex_8c36e_6 : decode cJ3_checkFromToIndex_8c36e 6 = .ok (.if_icmp .gt 8, 3) := by decide +kernel
theorem dJ3_checkFromToIndex_8c36e_9 : decode cJ3_checkFromToIndex_8c36e 9 = .ok (.iload_n 1, 1) := by decide +kernel
theorem dJ3_checkFromToIndex_8c36e_10 : decode cJ3_checkFromToIndex_8c36e 10 = .ok (.iload_n 2, 1) := by decide +kernel
theorem dJ3_checkFromToIndex_8c36e_11 : decode cJ3_checkFromToIndex_8c36e 11 = .ok (.if_icmp .le 11, 3) := by decide +kernel
theorem dJ3_checkFromToIndex_8c36e_14 : decode cJ3_checkFromToIndex_8c36e 14 = .ok (.aload_n 3, 1) := by decide +kernel
theorem dJ3_checkFromToIndex_8c36e_15 : decode cJ3_checkFromToIndex_8c36e 15 = .ok (.iload_n 0, 1) := by decide +kernel
theorem dJ3_checkFromToIndex_8c36e_16 : decode cJ3_checkFromToIndex_8c36e 16 = .ok (.iload_n 1, 1) := by decide +kernel
theorem dJ3_checkFromToIndex_8c36e_17 : decode cJ3_checkFromToIndex_8c36e 17 = .ok (.iload_n 2, 1) := by decide +kernel
theorem dJ3_checkFromToIndex_8c36e_18 : decode cJ3_checkFromToIndex_8c36e 18 = .ok (.invokestatic 99, 3) := by decide +kernel
theorem dJ3_checkFromToIndex_8c36e_21 : decode cJ3_checkFromToIndex_8c36e 21 = .ok (.athrow, 1) := by decide +kernel
theorem dJ3_checkFromToIndex_8c36e_22 : decode cJ3_checkFromToIndex_8c36e 22 = .ok (.iload_n 0, 1) := by decide +kernel
theorem dJ3_checkFromToIndex_8c36e_23 : decode cJ3_checkFromToIndex_8c36e 23 = .ok (.ireturn, 1) := by decide +kernel
theorem dJ6_bitCount_0f7a4_0 : decode cJ6_bitCount_0f7a4 0 = .ok (.iload_n 0, 1) := by decide +kernel
theorem dJ6_bitCount_0f7a4_1 : decode cJ6_bitCount_0f7a4 1 = .ok (.iload_n 0, 1) := by decide +kernel
theorem dJ6_bitCount_0f7a4_2 : decode cJ6_bitCount_0f7a4 2 = .ok (.iconst 1, 1) := by decide +kernel
theorem dJ6_bitCount_0f7a4_3 : decode cJ6_bitCount_0f7a4 3 = .ok (.iushr, 1) := by decide +kernel
theorem dJ6_bitCount_0f7a4_4 : decode cJ6_bitCount_0f7a4 4 = .ok (.ldc_w 265, 3) := by decide +kernel
theorem dJ6_bitCount_0f7a4_7 : decode cJ6_bitCount_0f7a4 7 = .ok (.iand, 1) := by decide +kernel
theorem dJ6_bitCount_0f7a4_8 : decode cJ6_bitCount_0f7a4 8 = .ok (.isub, 1) := by decide +kernel
theorem dJ6_bitCount_0f7a4_9 : decode cJ6_bitCount_0f7a4 9 = .ok (.istore_n 0, 1) := by decide +kernel
theorem dJ6_bitCount_0f7a4_10 : decode cJ6_bitCount_0f7a4 10 = .ok (.iload_n 0, 1) := by decide +kernel
theorem dJ6_bitCount_0f7a4_11 : decode cJ6_bitCount_0f7a4 11 = .ok (.ldc_w 266, 3) := by decide +kernel
theorem dJ6_bitCount_0f7a4_14 : decode cJ6_bitCount_0f7a4 14 = .ok (.iand, 1) := by decide +kernel
theorem dJ6_bitCount_0f7a4_15 : decode cJ6_bitCount_0f7a4 15 = .ok (.iload_n 0, 1) := by decide +kernel
theorem dJ6_bitCount_0f7a4_16 : decode cJ6_bitCount_0f7a4 16 = .ok (.iconst 2, 1) := by decide +kernel
theorem dJ6_bitCount_0f7a4_17 : decode cJ6_bitCount_0f7a4 17 = .ok (.iushr, 1) := by decide +kernel
theorem dJ6_bitCount_0f7a4_18 : decode cJ6_bitCount_0f7a4 18 = .ok (.ldc_w 266, 3) := by decide +kernel
theorem dJ6_bitCount_0f7a4_21 : decode cJ6_bitCount_0f7a4 21 = .ok (.iand, 1) := by decide +kernel
theorem dJ6_bitCount_0f7a4_22 : decode cJ6_bitCount_0f7a4 22 = .ok (.iadd, 1) := by decide +kernel
theorem dJ6_bitCount_0f7a4_23 : decode cJ6_bitCount_0f7a4 23 = .ok (.istore_n 0, 1) := by decide +kernel
theorem dJ6_bitCount_0f7a4_24 : decode cJ6_bitCount_0f7a4 24 = .ok (.iload_n 0, 1) := by decide +kernel
theorem dJ6_bitCount_0f7a4_25 : decode cJ6_bitCount_0f7a4 25 = .ok (.iload_n 0, 1) := by decide +kernel
theorem dJ6_bitCount_0f7a4_26 : decode cJ6_bitCount_0f7a4 26 = .ok (.iconst 4, 1) := by decide +kernel
theorem dJ6_bitCount_0f7a4_27 : decode cJ6_bitCount_0f7a4 27 = .ok (.iushr, 1) := by decide +kernel
theorem dJ6_bitCount_0f7a4_28 : decode cJ6_bitCount_0f7a4 28 = .ok (.iadd, 1) := by decide +kernel
theorem dJ6_bitCount_0f7a4_29 : decode cJ6_bitCount_0f7a4 29 = .ok (.ldc_w 267, 3) := by decide +kernel
theorem dJ6_bitCount_0f7a4_32 : decode cJ6_bitCount_0f7a4 32 = .ok (.iand, 1) := by decide +kernel
theorem dJ6_bitCount_0f7a4_33 : decode cJ6_bitCount_0f7a4 33 = .ok (.istore_n 0, 1) := by decide +kernel
theorem dJ6_bitCount_0f7a4_34 : decode cJ6_bitCount_0f7a4 34 = .ok (.iload_n 0, 1) := by decide +kernel
theorem dJ6_bitCount_0f7a4_35 : decode cJ6_bitCount_0f7a4 35 = .ok (.iload_n 0, 1) := by decide +kernel
theorem dJ6_bitCount_0f7a4_36 : decode cJ6_bitCount_0f7a4 36 = .ok (.bipush 8, 2) := by decide +kernel
theorem dJ6_bitCount_0f7a4_38 : decode cJ6_bitCount_0f7a4 38 = .ok (.iushr, 1) := by decide +kernel
theorem dJ6_bitCount_0f7a4_39 : decode cJ6_bitCount_0f7a4 39 = .ok (.iadd, 1) := by decide +kernel
theorem dJ6_bitCount_0f7a4_40 : decode cJ6_bitCount_0f7a4 40 = .ok (.istore_n 0, 1) := by decide +kernel
theorem dJ6_bitCount_0f7a4_41 : decode cJ6_bitCount_0f7a4 41 = .ok (.iload_n 0, 1) := by decide +kernel
theorem dJ6_bitCount_0f7a4_42 : decode cJ6_bitCount_0f7a4 42 = .ok (.iload_n 0, 1) := by decide +kernel
theorem dJ6_bitCount_0f7a4_43 : decode cJ6_bitCount_0f7a4 43 = .ok (.bipush 16, 2) := by decide +kernel
theorem dJ6_bitCount_0f7a4_45 : decode cJ6_bitCount_0f7a4 45 = .ok (.iushr, 1) := by decide +kernel
theorem dJ6_bitCount_0f7a4_46 : decode cJ6_bitCount_0f7a4 46 = .ok (.iadd, 1) := by decide +kernel
theorem dJ6_bitCount_0f7a4_47 : decode cJ6_bitCount_0f7a4 47 = .ok (.istore_n 0, 1) := by decide +kernel
theorem dJ6_bitCount_0f7a4_48 : decode cJ6_bitCount_0f7a4 48 = .ok (.iload_n 0, 1) := by decide +kernel
theorem dJ6_bitCount_0f7a4_49 : decode cJ6_bitCount_0f7a4 49 = .ok (.bipush 63, 2) := by decide +kernel
theorem dJ6_bitCount_0f7a4_51 : decode cJ6_bitCount_0f7a4 51 = .ok (.iand, 1) := by decide +kernel
theorem dJ6_bitCount_0f7a4_52 : decode cJ6_bitCount_0f7a4 52 = .ok (.ireturn, 1) := by decide +kernel
