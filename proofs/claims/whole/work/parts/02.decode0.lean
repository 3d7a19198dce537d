theorem dX0_init_0 : decode cX0_init 0 = .ok (.aload_n 0, 1) := by decide +kernel
theorem dX0_init_1 : decode cX0_init 1 = .ok (.invokespecial 1, 3) := by decide +kernel
theorem dX0_init_4 : decode cX0_init 4 = .ok (.return_, 1) := by decide +kernel
theorem dX0_draw_0 : decode cX0_draw 0 = .ok (.aload_n 0, 1) := by decide +kernel
theorem dX0_draw_1 : decode cX0_draw 1 = .ok (.aload_n 0, 1) := by decide +kernel
theorem dX0_draw_2 : decode cX0_draw 2 = .ok (.getfield 7, 3) := by decide +kernel
theorem dX0_draw_5 : decode cX0_draw 5 = .ok (.ldc2_w 13, 3) := by decide +kernel
theorem dX0_draw_8 : decode cX0_draw 8 = .ok (.lmul, 1) := by decide +kernel
theorem dX0_draw_9 : decode cX0_draw 9 = .ok (.ldc2_w 15, 3) := by decide +kernel
theorem dX0_draw_12 : decode cX0_draw 12 = .ok (.ladd, 1) := by decide +kernel
theorem dX0_draw_13 : decode cX0_draw 13 = .ok (.putfield 7, 3) := by decide +kernel
theorem dX0_draw_16 : decode cX0_draw 16 = .ok (.iload_n 1, 1) := by decide +kernel
theorem dX0_draw_17 : decode cX0_draw 17 = .ok (.iconst 1, 1) := by decide +kernel
theorem dX0_draw_18 : decode cX0_draw 18 = .ok (.if_icmp .ge 7, 3) := by decide +kernel
theorem dX0_draw_21 : decode cX0_draw 21 = .ok (.iconst 0, 1) := by decide +kernel
theorem dX0_draw_22 : decode cX0_draw 22 = .ok (.goto 14, 3) := by decide +kernel
theorem dX0_draw_25 : decode cX0_draw 25 = .ok (.aload_n 0, 1) := by decide +kernel
theorem dX0_draw_26 : decode cX0_draw 26 = .ok (.getfield 7, 3) := by decide +kernel
theorem dX0_draw_29 : decode cX0_draw 29 = .ok (.bipush 33, 2) := by decide +kernel
theorem dX0_draw_31 : decode cX0_draw 31 = .ok (.lushr, 1) := by decide +kernel
theorem dX0_draw_32 : decode cX0_draw 32 = .ok (.iload_n 1, 1) := by decide +kernel
theorem dX0_draw_33 : decode cX0_draw 33 = .ok (.i2l, 1) := by decide +kernel
theorem dX0_draw_34 : decode cX0_draw 34 = .ok (.lrem, 1) := by decide +kernel
theorem dX0_draw_35 : decode cX0_draw 35 = .ok (.l2i, 1) := by decide +kernel
theorem dX0_draw_36 : decode cX0_draw 36 = .ok (.ireturn, 1) := by decide +kernel
theorem dX1_init_0 : decode cX1_init 0 = .ok (.aload_n 0, 1) := by decide +kernel
theorem dX1_init_1 : decode cX1_init 1 = .ok (.invokespecial 3, 3) := by decide +kernel
theorem dX1_init_4 : decode cX1_init 4 = .ok (.aload_n 0, 1) := by decide +kernel
theorem dX1_init_5 : decode cX1_init 5 = .ok (.new 9, 3) := by decide +kernel
theorem dX1_init_8 : decode cX1_init 8 = .ok (.dup, 1) := by decide +kernel
theorem dX1_init_9 : decode cX1_init 9 = .ok (.invokespecial 11, 3) := by decide +kernel
theorem dX1_init_12 : decode cX1_init 12 = .ok (.putfield 12, 3) := by decide +kernel
theorem dX1_init_15 : decode cX1_init 15 = .ok (.aload_n 0, 1) := by decide +kernel
theorem dX1_init_16 : decode cX1_init 16 = .ok (.new 18, 3) := by decide +kernel
theorem dX1_init_19 : decode cX1_init 19 = .ok (.dup, 1) := by decide +kernel
theorem dX1_init_20 : decode cX1_init 20 = .ok (.sipush 600, 3) := by decide +kernel
theorem dX1_init_23 : decode cX1_init 23 = .ok (.invokespecial 20, 3) := by decide +kernel
theorem dX1_init_26 : decode cX1_init 26 = .ok (.putfield 23, 3) := by decide +kernel
theorem dX1_init_29 : decode cX1_init 29 = .ok (.aload_n 0, 1) := by decide +kernel
theorem dX1_init_30 : decode cX1_init 30 = .ok (.new 18, 3) := by decide +kernel
theorem dX1_init_33 : decode cX1_init 33 = .ok (.dup, 1) := by decide +kernel
theorem dX1_init_34 : decode cX1_init 34 = .ok (.sipush 600, 3) := by decide +kernel
theorem dX1_init_37 : decode cX1_init 37 = .ok (.invokespecial 20, 3) := by decide +kernel
theorem dX1_init_40 : decode cX1_init 40 = .ok (.putfield 27, 3) := by decide +kernel
theorem dX1_init_43 : decode cX1_init 43 = .ok (.aload_n 0, 1) := by decide +kernel
theorem dX1_init_44 : decode cX1_init 44 = .ok (.new 18, 3) := by decide +kernel
theorem dX1_init_47 : decode cX1_init 47 = .ok (.dup, 1) := by decide +kernel
theorem dX1_init_48 : decode cX1_init 48 = .ok (.sipush 200, 3) := by decide +kernel
theorem dX1_init_51 : decode cX1_init 51 = .ok (.invokespecial 20, 3) := by decide +kernel
theorem dX1_init_54 : decode cX1_init 54 = .ok (.putfield 30, 3) := by decide +kernel
theorem dX1_init_57 : decode cX1_init 57 = .ok (.return_, 1) := by decide +kernel
theorem dX1_make_0 : decode cX1_make 0 = .ok (.aload_n 1, 1) := by decide +kernel
theorem dX1_make_1 : decode cX1_make 1 = .ok (.getfield 33, 3) := by decide +kernel
theorem dX1_make_4 : decode cX1_make 4 = .ok (.invokevirtual 39, 3) := by decide +kernel
theorem dX1_make_7 : decode cX1_make 7 = .ok (.istore_n 3, 1) := by decide +kernel
theorem dX1_make_8 : decode cX1_make 8 = .ok (.aload_n 0, 1) := by decide +kernel
theorem dX1_make_9 : decode cX1_make 9 = .ok (.getfield 12, 3) := by decide +kernel
theorem dX1_make_12 : decode cX1_make 12 = .ok (.getfield 45, 3) := by decide +kernel
theorem dX1_make_15 : decode cX1_make 15 = .ok (.iload_n 3, 1) := by decide +kernel
theorem dX1_make_16 : decode cX1_make 16 = .ok (.aload_n 1, 1) := by decide +kernel
theorem dX1_make_17 : decode cX1_make 17 = .ok (.getfield 49, 3) := by decide +kernel
theorem dX1_make_20 : decode cX1_make 20 = .ok (.isub, 1) := by decide +kernel
theorem dX1_make_21 : decode cX1_make 21 = .ok (.invokestatic 52, 3) := by decide +kernel
theorem dX1_make_24 : decode cX1_make 24 = .ok (.istore 4, 2) := by decide +kernel
theorem dX1_make_26 : decode cX1_make 26 = .ok (.aload_n 1, 1) := by decide +kernel
theorem dX1_make_27 : decode cX1_make 27 = .ok (.getfield 49, 3) := by decide +kernel
theorem dX1_make_30 : decode cX1_make 30 = .ok (.iload 4, 2) := by decide +kernel
theorem dX1_make_32 : decode cX1_make 32 = .ok (.iadd, 1) := by decide +kernel
theorem dX1_make_33 : decode cX1_make 33 = .ok (.iload_n 3, 1) := by decide +kernel
theorem dX1_make_34 : decode cX1_make 34 = .ok (.if_icmp .lt 7, 3) := by decide +kernel
theorem dX1_make_37 : decode cX1_make 37 = .ok (.iconst 1, 1) := by decide +kernel
theorem dX1_make_38 : decode cX1_make 38 = .ok (.goto 4, 3) := by decide +kernel
theorem dX1_make_41 : decode cX1_make 41 = .ok (.iconst 0, 1) := by decide +kernel
theorem dX1_make_42 : decode cX1_make 42 = .ok (.istore 5, 2) := by decide +kernel
theorem dX1_make_44 : decode cX1_make 44 = .ok (.aload_n 0, 1) := by decide +kernel
theorem dX1_make_45 : decode cX1_make 45 = .ok (.getfield 23, 3) := by decide +kernel
theorem dX1_make_48 : decode cX1_make 48 = .ok (.invokevirtual 58, 3) := by decide +kernel
theorem dX1_make_51 : decode cX1_make 51 = .ok (.aload_n 0, 1) := by decide +kernel
theorem dX1_make_52 : decode cX1_make 52 = .ok (.getfield 23, 3) := by decide +kernel
theorem dX1_make_55 : decode cX1_make 55 = .ok (.bipush 64, 2) := by decide +kernel
theorem dX1_make_57 : decode cX1_make 57 = .ok (.iload_n 2, 1) := by decide +kernel
theorem dX1_make_58 : decode cX1_make 58 = .ok (.imul, 1) := by decide +kernel
theorem dX1_make_59 : decode cX1_make 59 = .ok (.aload_n 1, 1) := by decide +kernel
theorem dX1_make_60 : decode cX1_make 60 = .ok (.getfield 49, 3) := by decide +kernel
theorem dX1_make_63 : decode cX1_make 63 = .ok (.ifCond .ne 8, 3) := by decide +kernel
theorem dX1_make_66 : decode cX1_make 66 = .ok (.bipush 32, 2) := by decide +kernel
theorem dX1_make_68 : decode cX1_make 68 = .ok (.goto 4, 3) := by decide +kernel
theorem dX1_make_71 : decode cX1_make 71 = .ok (.iconst 0, 1) := by decide +kernel
theorem dX1_make_72 : decode cX1_make 72 = .ok (.iadd, 1) := by decide +kernel
theorem dX1_make_73 : decode cX1_make 73 = .ok (.iload 5, 2) := by decide +kernel
theorem dX1_make_75 : decode cX1_make 75 = .ok (.ifCond .eq 8, 3) := by decide +kernel
theorem dX1_make_78 : decode cX1_make 78 = .ok (.bipush 16, 2) := by decide +kernel
theorem dX1_make_80 : decode cX1_make 80 = .ok (.goto 4, 3) := by decide +kernel
theorem dX1_make_83 : decode cX1_make 83 = .ok (.iconst 0, 1) := by decide +kernel
theorem dX1_make_84 : decode cX1_make 84 = .ok (.iadd, 1) := by decide +kernel
theorem dX1_make_85 : decode cX1_make 85 = .ok (.aload_n 1, 1) := by decide +kernel
theorem dX1_make_86 : decode cX1_make 86 = .ok (.getfield 61, 3) := by decide +kernel
theorem dX1_make_89 : decode cX1_make 89 = .ok (.iadd, 1) := by decide +kernel
theorem dX1_make_90 : decode cX1_make 90 = .ok (.invokevirtual 64, 3) := by decide +kernel
theorem dX1_make_93 : decode cX1_make 93 = .ok (.aload_n 0, 1) := by decide +kernel
theorem dX1_make_94 : decode cX1_make 94 = .ok (.getfield 23, 3) := by decide +kernel
theorem dX1_make_97 : decode cX1_make 97 = .ok (.aload_n 1, 1) := by decide +kernel
theorem dX1_make_98 : decode cX1_make 98 = .ok (.getfield 33, 3) := by decide +kernel
theorem dX1_make_101 : decode cX1_make 101 = .ok (.getfield 67, 3) := by decide +kernel
theorem dX1_make_104 : decode cX1_make 104 = .ok (.aload_n 1, 1) := by decide +kernel
theorem dX1_make_105 : decode cX1_make 105 = .ok (.getfield 49, 3) := by decide +kernel
theorem dX1_make_108 : decode cX1_make 108 = .ok (.iload 4, 2) := by decide +kernel
theorem dX1_make_110 : decode cX1_make 110 = .ok (.invokevirtual 70, 3) := by decide +kernel
theorem dX1_make_113 : decode cX1_make 113 = .ok (.aload_n 0, 1) := by decide +kernel
theorem dX1_make_114 : decode cX1_make 114 = .ok (.getfield 12, 3) := by decide +kernel
theorem dX1_make_117 : decode cX1_make 117 = .ok (.getfield 74, 3) := by decide +kernel
theorem dX1_make_120 : decode cX1_make 120 = .ok (.ifCond .eq 21, 3) := by decide +kernel
theorem dX1_make_123 : decode cX1_make 123 = .ok (.aload_n 0, 1) := by decide +kernel
theorem dX1_make_124 : decode cX1_make 124 = .ok (.getfield 23, 3) := by decide +kernel
theorem dX1_make_127 : decode cX1_make 127 = .ok (.aload_n 0, 1) := by decide +kernel
theorem dX1_make_128 : decode cX1_make 128 = .ok (.aload_n 0, 1) := by decide +kernel
theorem dX1_make_129 : decode cX1_make 129 = .ok (.getfield 23, 3) := by decide +kernel
theorem dX1_make_132 : decode cX1_make 132 = .ok (.getfield 77, 3) := by decide +kernel
theorem dX1_make_135 : decode cX1_make 135 = .ok (.invokevirtual 78, 3) := by decide +kernel
theorem dX1_make_138 : decode cX1_make 138 = .ok (.invokevirtual 64, 3) := by decide +kernel
theorem dX1_make_141 : decode cX1_make 141 = .ok (.aload_n 0, 1) := by decide +kernel
theorem dX1_make_142 : decode cX1_make 142 = .ok (.getfield 12, 3) := by decide +kernel
theorem dX1_make_145 : decode cX1_make 145 = .ok (.getfield 82, 3) := by decide +kernel
theorem dX1_make_148 : decode cX1_make 148 = .ok (.aload_n 0, 1) := by decide +kernel
theorem dX1_make_149 : decode cX1_make 149 = .ok (.getfield 23, 3) := by decide +kernel
theorem dX1_make_152 : decode cX1_make 152 = .ok (.aload_n 0, 1) := by decide +kernel
theorem dX1_make_153 : decode cX1_make 153 = .ok (.getfield 12, 3) := by decide +kernel
theorem dX1_make_156 : decode cX1_make 156 = .ok (.getfield 86, 3) := by decide +kernel
theorem dX1_make_159 : decode cX1_make 159 = .ok (.aload_n 0, 1) := by decide +kernel
theorem dX1_make_160 : decode cX1_make 160 = .ok (.getfield 27, 3) := by decide +kernel
theorem dX1_make_163 : decode cX1_make 163 = .ok (.invokevirtual 89, 3) := by decide +kernel
theorem dX1_make_166 : decode cX1_make 166 = .ok (.iload 4, 2) := by decide +kernel
theorem dX1_make_168 : decode cX1_make 168 = .ok (.ireturn, 1) := by decide +kernel
theorem dX1_checkOf_0 : decode cX1_checkOf 0 = .ok (.iconst 0, 1) := by decide +kernel
theorem dX1_checkOf_1 : decode cX1_checkOf 1 = .ok (.istore_n 2, 1) := by decide +kernel
theorem dX1_checkOf_2 : decode cX1_checkOf 2 = .ok (.iconst 0, 1) := by decide +kernel
theorem dX1_checkOf_3 : decode cX1_checkOf 3 = .ok (.istore_n 3, 1) := by decide +kernel
theorem dX1_checkOf_4 : decode cX1_checkOf 4 = .ok (.iload_n 3, 1) := by decide +kernel
theorem dX1_checkOf_5 : decode cX1_checkOf 5 = .ok (.iload_n 1, 1) := by decide +kernel
theorem dX1_checkOf_6 : decode cX1_checkOf 6 = .ok (.if_icmp .ge 51, 3) := by decide +kernel
theorem dX1_checkOf_9 : decode cX1_checkOf 9 = .ok (.aload_n 0, 1) := by decide +kernel
theorem dX1_checkOf_10 : decode cX1_checkOf 10 = .ok (.getfield 12, 3) := by decide +kernel
theorem dX1_checkOf_13 : decode cX1_checkOf 13 = .ok (.getfield 74, 3) := by decide +kernel
theorem dX1_checkOf_16 : decode cX1_checkOf 16 = .ok (.iconst 2, 1) := by decide +kernel
theorem dX1_checkOf_17 : decode cX1_checkOf 17 = .ok (.if_icmp .ne 19, 3) := by decide +kernel
theorem dX1_checkOf_20 : decode cX1_checkOf 20 = .ok (.iload_n 2, 1) := by decide +kernel
theorem dX1_checkOf_21 : decode cX1_checkOf 21 = .ok (.aload_n 0, 1) := by decide +kernel
theorem dX1_checkOf_22 : decode cX1_checkOf 22 = .ok (.getfield 23, 3) := by decide +kernel
theorem dX1_checkOf_25 : decode cX1_checkOf 25 = .ok (.iload_n 3, 1) := by decide +kernel
theorem dX1_checkOf_26 : decode cX1_checkOf 26 = .ok (.invokevirtual 95, 3) := by decide +kernel
theorem dX1_checkOf_29 : decode cX1_checkOf 29 = .ok (.ixor, 1) := by decide +kernel
theorem dX1_checkOf_30 : decode cX1_checkOf 30 = .ok (.invokestatic 98, 3) := by decide +kernel
theorem dX1_checkOf_33 : decode cX1_checkOf 33 = .ok (.goto 17, 3) := by decide +kernel
theorem dX1_checkOf_36 : decode cX1_checkOf 36 = .ok (.iload_n 2, 1) := by decide +kernel
theorem dX1_checkOf_37 : decode cX1_checkOf 37 = .ok (.aload_n 0, 1) := by decide +kernel
theorem dX1_checkOf_38 : decode cX1_checkOf 38 = .ok (.getfield 23, 3) := by decide +kernel
theorem dX1_checkOf_41 : decode cX1_checkOf 41 = .ok (.iload_n 3, 1) := by decide +kernel
theorem dX1_checkOf_42 : decode cX1_checkOf 42 = .ok (.invokevirtual 95, 3) := by decide +kernel
theorem dX1_checkOf_45 : decode cX1_checkOf 45 = .ok (.iadd, 1) := by decide +kernel
theorem dX1_checkOf_46 : decode cX1_checkOf 46 = .ok (.sipush 255, 3) := by decide +kernel
theorem dX1_checkOf_49 : decode cX1_checkOf 49 = .ok (.iand, 1) := by decide +kernel
theorem dX1_checkOf_50 : decode cX1_checkOf 50 = .ok (.istore_n 2, 1) := by decide +kernel
theorem dX1_checkOf_51 : decode cX1_checkOf 51 = .ok (.iinc 3 1, 3) := by decide +kernel
theorem dX1_checkOf_54 : decode cX1_checkOf 54 = .ok (.goto (-50), 3) := by decide +kernel
theorem dX1_checkOf_57 : decode cX1_checkOf 57 = .ok (.iload_n 2, 1) := by decide +kernel
theorem dX1_checkOf_58 : decode cX1_checkOf 58 = .ok (.ireturn, 1) := by decide +kernel
theorem dX1_crcStep_0 : decode cX1_crcStep 0 = .ok (.iload_n 0, 1) := by decide +kernel
theorem dX1_crcStep_1 : decode cX1_crcStep 1 = .ok (.istore_n 1, 1) := by decide +kernel
theorem dX1_crcStep_2 : decode cX1_crcStep 2 = .ok (.iconst 0, 1) := by decide +kernel
theorem dX1_crcStep_3 : decode cX1_crcStep 3 = .ok (.istore_n 2, 1) := by decide +kernel
theorem dX1_crcStep_4 : decode cX1_crcStep 4 = .ok (.iload_n 2, 1) := by decide +kernel
theorem dX1_crcStep_5 : decode cX1_crcStep 5 = .ok (.bipush 8, 2) := by decide +kernel
theorem dX1_crcStep_7 : decode cX1_crcStep 7 = .ok (.if_icmp .ge 31, 3) := by decide +kernel
theorem dX1_crcStep_10 : decode cX1_crcStep 10 = .ok (.iconst 2, 1) := by decide +kernel
theorem dX1_crcStep_11 : decode cX1_crcStep 11 = .ok (.iload_n 1, 1) := by decide +kernel
theorem dX1_crcStep_12 : decode cX1_crcStep 12 = .ok (.imul, 1) := by decide +kernel
theorem dX1_crcStep_13 : decode cX1_crcStep 13 = .ok (.sipush 255, 3) := by decide +kernel
theorem dX1_crcStep_16 : decode cX1_crcStep 16 = .ok (.iand, 1) := by decide +kernel
theorem dX1_crcStep_17 : decode cX1_crcStep 17 = .ok (.iload_n 1, 1) := by decide +kernel
theorem dX1_crcStep_18 : decode cX1_crcStep 18 = .ok (.sipush 128, 3) := by decide +kernel
theorem dX1_crcStep_21 : decode cX1_crcStep 21 = .ok (.if_icmp .lt 8, 3) := by decide +kernel
theorem dX1_crcStep_24 : decode cX1_crcStep 24 = .ok (.bipush 7, 2) := by decide +kernel
theorem dX1_crcStep_26 : decode cX1_crcStep 26 = .ok (.goto 4, 3) := by decide +kernel
theorem dX1_crcStep_29 : decode cX1_crcStep 29 = .ok (.iconst 0, 1) := by decide +kernel
theorem dX1_crcStep_30 : decode cX1_crcStep 30 = .ok (.ixor, 1) := by decide +kernel
theorem dX1_crcStep_31 : decode cX1_crcStep 31 = .ok (.istore_n 1, 1) := by decide +kernel
theorem dX1_crcStep_32 : decode cX1_crcStep 32 = .ok (.iinc 2 1, 3) := by decide +kernel
theorem dX1_crcStep_35 : decode cX1_crcStep 35 = .ok (.goto (-31), 3) := by decide +kernel
theorem dX1_crcStep_38 : decode cX1_crcStep 38 = .ok (.iload_n 1, 1) := by decide +kernel
theorem dX1_crcStep_39 : decode cX1_crcStep 39 = .ok (.ireturn, 1) := by decide +kernel
theorem dX1_judge_0 : decode cX1_judge 0 = .ok (.iload_n 3, 1) := by decide +kernel
theorem dX1_judge_1 : decode cX1_judge 1 = .ok (.sipush 200, 3) := by decide +kernel
theorem dX1_judge_4 : decode cX1_judge 4 = .ok (.if_icmp .gt 31, 3) := by decide +kernel
theorem dX1_judge_7 : decode cX1_judge 7 = .ok (.aload_n 0, 1) := by decide +kernel
theorem dX1_judge_8 : decode cX1_judge 8 = .ok (.getfield 12, 3) := by decide +kernel
theorem dX1_judge_11 : decode cX1_judge 11 = .ok (.getfield 82, 3) := by decide +kernel
theorem dX1_judge_14 : decode cX1_judge 14 = .ok (.aload_n 1, 1) := by decide +kernel
theorem dX1_judge_15 : decode cX1_judge 15 = .ok (.iload_n 2, 1) := by decide +kernel
theorem dX1_judge_16 : decode cX1_judge 16 = .ok (.iload_n 3, 1) := by decide +kernel
theorem dX1_judge_17 : decode cX1_judge 17 = .ok (.aload_n 0, 1) := by decide +kernel
theorem dX1_judge_18 : decode cX1_judge 18 = .ok (.getfield 12, 3) := by decide +kernel
theorem dX1_judge_21 : decode cX1_judge 21 = .ok (.getfield 86, 3) := by decide +kernel
theorem dX1_judge_24 : decode cX1_judge 24 = .ok (.aload_n 0, 1) := by decide +kernel
theorem dX1_judge_25 : decode cX1_judge 25 = .ok (.getfield 23, 3) := by decide +kernel
theorem dX1_judge_28 : decode cX1_judge 28 = .ok (.invokevirtual 101, 3) := by decide +kernel
theorem dX1_judge_31 : decode cX1_judge 31 = .ok (.iconst (-1), 1) := by decide +kernel
theorem dX1_judge_32 : decode cX1_judge 32 = .ok (.if_icmp .eq 5, 3) := by decide +kernel
theorem dX1_judge_35 : decode cX1_judge 35 = .ok (.iconst 2, 1) := by decide +kernel
theorem dX1_judge_36 : decode cX1_judge 36 = .ok (.ireturn, 1) := by decide +kernel
theorem dX1_judge_37 : decode cX1_judge 37 = .ok (.aload_n 0, 1) := by decide +kernel
theorem dX1_judge_38 : decode cX1_judge 38 = .ok (.getfield 23, 3) := by decide +kernel
theorem dX1_judge_41 : decode cX1_judge 41 = .ok (.getfield 77, 3) := by decide +kernel
theorem dX1_judge_44 : decode cX1_judge 44 = .ok (.aload_n 0, 1) := by decide +kernel
theorem dX1_judge_45 : decode cX1_judge 45 = .ok (.getfield 12, 3) := by decide +kernel
theorem dX1_judge_48 : decode cX1_judge 48 = .ok (.invokevirtual 105, 3) := by decide +kernel
theorem dX1_judge_51 : decode cX1_judge 51 = .ok (.isub, 1) := by decide +kernel
theorem dX1_judge_52 : decode cX1_judge 52 = .ok (.istore 4, 2) := by decide +kernel
theorem dX1_judge_54 : decode cX1_judge 54 = .ok (.iload 4, 2) := by decide +kernel
theorem dX1_judge_56 : decode cX1_judge 56 = .ok (.iconst 1, 1) := by decide +kernel
theorem dX1_judge_57 : decode cX1_judge 57 = .ok (.if_icmp .ge 5, 3) := by decide +kernel
theorem dX1_judge_60 : decode cX1_judge 60 = .ok (.iconst 3, 1) := by decide +kernel
theorem dX1_judge_61 : decode cX1_judge 61 = .ok (.ireturn, 1) := by decide +kernel
theorem dX1_judge_62 : decode cX1_judge 62 = .ok (.aload_n 0, 1) := by decide +kernel
theorem dX1_judge_63 : decode cX1_judge 63 = .ok (.getfield 12, 3) := by decide +kernel
theorem dX1_judge_66 : decode cX1_judge 66 = .ok (.getfield 74, 3) := by decide +kernel
theorem dX1_judge_69 : decode cX1_judge 69 = .ok (.ifCond .eq 23, 3) := by decide +kernel
theorem dX1_judge_72 : decode cX1_judge 72 = .ok (.aload_n 0, 1) := by decide +kernel
theorem dX1_judge_73 : decode cX1_judge 73 = .ok (.getfield 23, 3) := by decide +kernel
theorem dX1_judge_76 : decode cX1_judge 76 = .ok (.iload 4, 2) := by decide +kernel
theorem dX1_judge_78 : decode cX1_judge 78 = .ok (.invokevirtual 95, 3) := by decide +kernel
theorem dX1_judge_81 : decode cX1_judge 81 = .ok (.aload_n 0, 1) := by decide +kernel
theorem dX1_judge_82 : decode cX1_judge 82 = .ok (.iload 4, 2) := by decide +kernel
theorem dX1_judge_84 : decode cX1_judge 84 = .ok (.invokevirtual 78, 3) := by decide +kernel
theorem dX1_judge_87 : decode cX1_judge 87 = .ok (.if_icmp .eq 5, 3) := by decide +kernel
theorem dX1_judge_90 : decode cX1_judge 90 = .ok (.iconst 3, 1) := by decide +kernel
theorem dX1_judge_91 : decode cX1_judge 91 = .ok (.ireturn, 1) := by decide +kernel
theorem dX1_judge_92 : decode cX1_judge 92 = .ok (.aload_n 0, 1) := by decide +kernel
theorem dX1_judge_93 : decode cX1_judge 93 = .ok (.aload_n 0, 1) := by decide +kernel
theorem dX1_judge_94 : decode cX1_judge 94 = .ok (.getfield 23, 3) := by decide +kernel
theorem dX1_judge_97 : decode cX1_judge 97 = .ok (.iconst 0, 1) := by decide +kernel
theorem dX1_judge_98 : decode cX1_judge 98 = .ok (.invokevirtual 95, 3) := by decide +kernel
theorem dX1_judge_101 : decode cX1_judge 101 = .ok (.putfield 108, 3) := by decide +kernel
theorem dX1_judge_104 : decode cX1_judge 104 = .ok (.aload_n 0, 1) := by decide +kernel
theorem dX1_judge_105 : decode cX1_judge 105 = .ok (.iload 4, 2) := by decide +kernel
theorem dX1_judge_107 : decode cX1_judge 107 = .ok (.iconst 1, 1) := by decide +kernel
theorem dX1_judge_108 : decode cX1_judge 108 = .ok (.isub, 1) := by decide +kernel
theorem dX1_judge_109 : decode cX1_judge 109 = .ok (.putfield 111, 3) := by decide +kernel
theorem dX1_judge_112 : decode cX1_judge 112 = .ok (.aload_n 0, 1) := by decide +kernel
theorem dX1_judge_113 : decode cX1_judge 113 = .ok (.getfield 108, 3) := by decide +kernel
theorem dX1_judge_116 : decode cX1_judge 116 = .ok (.bipush 6, 2) := by decide +kernel
theorem dX1_judge_118 : decode cX1_judge 118 = .ok (.ishr, 1) := by decide +kernel
theorem dX1_judge_119 : decode cX1_judge 119 = .ok (.aload_n 0, 1) := by decide +kernel
theorem dX1_judge_120 : decode cX1_judge 120 = .ok (.getfield 12, 3) := by decide +kernel
theorem dX1_judge_123 : decode cX1_judge 123 = .ok (.getfield 114, 3) := by decide +kernel
theorem dX1_judge_126 : decode cX1_judge 126 = .ok (.if_icmp .ge 17, 3) := by decide +kernel
theorem dX1_judge_129 : decode cX1_judge 129 = .ok (.aload_n 0, 1) := by decide +kernel
theorem dX1_judge_130 : decode cX1_judge 130 = .ok (.getfield 111, 3) := by decide +kernel
theorem dX1_judge_133 : decode cX1_judge 133 = .ok (.aload_n 0, 1) := by decide +kernel
theorem dX1_judge_134 : decode cX1_judge 134 = .ok (.getfield 12, 3) := by decide +kernel
theorem dX1_judge_137 : decode cX1_judge 137 = .ok (.getfield 45, 3) := by decide +kernel
theorem dX1_judge_140 : decode cX1_judge 140 = .ok (.if_icmp .le 7, 3) := by decide +kernel
theorem dX1_judge_143 : decode cX1_judge 143 = .ok (.iconst 4, 1) := by decide +kernel
theorem dX1_judge_144 : decode cX1_judge 144 = .ok (.goto 4, 3) := by decide +kernel
theorem dX1_judge_147 : decode cX1_judge 147 = .ok (.iconst 0, 1) := by decide +kernel
theorem dX1_judge_148 : decode cX1_judge 148 = .ok (.ireturn, 1) := by decide +kernel
theorem dX1_blindFlips_0 : decode cX1_blindFlips 0 = .ok (.aload_n 0, 1) := by decide +kernel
theorem dX1_blindFlips_1 : decode cX1_blindFlips 1 = .ok (.getfield 30, 3) := by decide +kernel
theorem dX1_blindFlips_4 : decode cX1_blindFlips 4 = .ok (.invokevirtual 58, 3) := by decide +kernel
theorem dX1_blindFlips_7 : decode cX1_blindFlips 7 = .ok (.aload_n 0, 1) := by decide +kernel
theorem dX1_blindFlips_8 : decode cX1_blindFlips 8 = .ok (.getfield 30, 3) := by decide +kernel
theorem dX1_blindFlips_11 : decode cX1_blindFlips 11 = .ok (.aload_n 1, 1) := by decide +kernel
theorem dX1_blindFlips_12 : decode cX1_blindFlips 12 = .ok (.iload_n 2, 1) := by decide +kernel
theorem dX1_blindFlips_13 : decode cX1_blindFlips 13 = .ok (.iload_n 3, 1) := by decide +kernel
theorem dX1_blindFlips_14 : decode cX1_blindFlips 14 = .ok (.invokevirtual 70, 3) := by decide +kernel
theorem dX1_blindFlips_17 : decode cX1_blindFlips 17 = .ok (.iconst 0, 1) := by decide +kernel
theorem dX1_blindFlips_18 : decode cX1_blindFlips 18 = .ok (.istore 4, 2) := by decide +kernel
theorem dX1_blindFlips_20 : decode cX1_blindFlips 20 = .ok (.iconst 0, 1) := by decide +kernel
theorem dX1_blindFlips_21 : decode cX1_blindFlips 21 = .ok (.istore 5, 2) := by decide +kernel
theorem dX1_blindFlips_23 : decode cX1_blindFlips 23 = .ok (.iconst 0, 1) := by decide +kernel
theorem dX1_blindFlips_24 : decode cX1_blindFlips 24 = .ok (.istore 6, 2) := by decide +kernel
theorem dX1_blindFlips_26 : decode cX1_blindFlips 26 = .ok (.iload 5, 2) := by decide +kernel
theorem dX1_blindFlips_28 : decode cX1_blindFlips 28 = .ok (.iload_n 3, 1) := by decide +kernel
theorem dX1_blindFlips_29 : decode cX1_blindFlips 29 = .ok (.if_icmp .ge 134, 3) := by decide +kernel
theorem dX1_blindFlips_32 : decode cX1_blindFlips 32 = .ok (.iload 6, 2) := by decide +kernel
theorem dX1_blindFlips_34 : decode cX1_blindFlips 34 = .ok (.iload_n 3, 1) := by decide +kernel
theorem dX1_blindFlips_35 : decode cX1_blindFlips 35 = .ok (.if_icmp .ge 128, 3) := by decide +kernel
theorem dX1_blindFlips_38 : decode cX1_blindFlips 38 = .ok (.iload_n 3, 1) := by decide +kernel
theorem dX1_blindFlips_39 : decode cX1_blindFlips 39 = .ok (.iload 5, 2) := by decide +kernel
theorem dX1_blindFlips_41 : decode cX1_blindFlips 41 = .ok (.isub, 1) := by decide +kernel
theorem dX1_blindFlips_42 : decode cX1_blindFlips 42 = .ok (.iconst 1, 1) := by decide +kernel
theorem dX1_blindFlips_43 : decode cX1_blindFlips 43 = .ok (.isub, 1) := by decide +kernel
theorem dX1_blindFlips_44 : decode cX1_blindFlips 44 = .ok (.istore 7, 2) := by decide +kernel
theorem dX1_blindFlips_46 : decode cX1_blindFlips 46 = .ok (.aload_n 0, 1) := by decide +kernel
theorem dX1_blindFlips_47 : decode cX1_blindFlips 47 = .ok (.getfield 12, 3) := by decide +kernel
theorem dX1_blindFlips_50 : decode cX1_blindFlips 50 = .ok (.getfield 82, 3) := by decide +kernel
theorem dX1_blindFlips_53 : decode cX1_blindFlips 53 = .ok (.aload_n 0, 1) := by decide +kernel
theorem dX1_blindFlips_54 : decode cX1_blindFlips 54 = .ok (.getfield 30, 3) := by decide +kernel
theorem dX1_blindFlips_57 : decode cX1_blindFlips 57 = .ok (.iload 5, 2) := by decide +kernel
theorem dX1_blindFlips_59 : decode cX1_blindFlips 59 = .ok (.invokevirtual 95, 3) := by decide +kernel
theorem dX1_blindFlips_62 : decode cX1_blindFlips 62 = .ok (.iload 7, 2) := by decide +kernel
theorem dX1_blindFlips_64 : decode cX1_blindFlips 64 = .ok (.aload_n 0, 1) := by decide +kernel
theorem dX1_blindFlips_65 : decode cX1_blindFlips 65 = .ok (.getfield 12, 3) := by decide +kernel
theorem dX1_blindFlips_68 : decode cX1_blindFlips 68 = .ok (.getfield 86, 3) := by decide +kernel
theorem dX1_blindFlips_71 : decode cX1_blindFlips 71 = .ok (.invokevirtual 117, 3) := by decide +kernel
theorem dX1_blindFlips_74 : decode cX1_blindFlips 74 = .ok (.istore 8, 2) := by decide +kernel
theorem dX1_blindFlips_76 : decode cX1_blindFlips 76 = .ok (.iload 8, 2) := by decide +kernel
theorem dX1_blindFlips_78 : decode cX1_blindFlips 78 = .ok (.iconst (-1), 1) := by decide +kernel
theorem dX1_blindFlips_79 : decode cX1_blindFlips 79 = .ok (.if_icmp .ne 6, 3) := by decide +kernel
theorem dX1_blindFlips_82 : decode cX1_blindFlips 82 = .ok (.iload 4, 2) := by decide +kernel
theorem dX1_blindFlips_84 : decode cX1_blindFlips 84 = .ok (.ireturn, 1) := by decide +kernel
theorem dX1_blindFlips_85 : decode cX1_blindFlips 85 = .ok (.iload 4, 2) := by decide +kernel
theorem dX1_blindFlips_87 : decode cX1_blindFlips 87 = .ok (.aload_n 0, 1) := by decide +kernel
theorem dX1_blindFlips_88 : decode cX1_blindFlips 88 = .ok (.iload 5, 2) := by decide +kernel
theorem dX1_blindFlips_90 : decode cX1_blindFlips 90 = .ok (.iload 7, 2) := by decide +kernel
theorem dX1_blindFlips_92 : decode cX1_blindFlips 92 = .ok (.invokevirtual 121, 3) := by decide +kernel
theorem dX1_blindFlips_95 : decode cX1_blindFlips 95 = .ok (.iadd, 1) := by decide +kernel
theorem dX1_blindFlips_96 : decode cX1_blindFlips 96 = .ok (.istore 4, 2) := by decide +kernel
theorem dX1_blindFlips_98 : decode cX1_blindFlips 98 = .ok (.aload_n 0, 1) := by decide +kernel
theorem dX1_blindFlips_99 : decode cX1_blindFlips 99 = .ok (.getfield 12, 3) := by decide +kernel
theorem dX1_blindFlips_102 : decode cX1_blindFlips 102 = .ok (.getfield 74, 3) := by decide +kernel
theorem dX1_blindFlips_105 : decode cX1_blindFlips 105 = .ok (.ifCond .ne 43, 3) := by decide +kernel
theorem dX1_blindFlips_108 : decode cX1_blindFlips 108 = .ok (.iload 4, 2) := by decide +kernel
theorem dX1_blindFlips_110 : decode cX1_blindFlips 110 = .ok (.sipush 254, 3) := by decide +kernel
theorem dX1_blindFlips_113 : decode cX1_blindFlips 113 = .ok (.iload 8, 2) := by decide +kernel
theorem dX1_blindFlips_115 : decode cX1_blindFlips 115 = .ok (.imul, 1) := by decide +kernel
theorem dX1_blindFlips_116 : decode cX1_blindFlips 116 = .ok (.iadd, 1) := by decide +kernel
theorem dX1_blindFlips_117 : decode cX1_blindFlips 117 = .ok (.istore 4, 2) := by decide +kernel
theorem dX1_blindFlips_119 : decode cX1_blindFlips 119 = .ok (.iload 5, 2) := by decide +kernel
theorem dX1_blindFlips_121 : decode cX1_blindFlips 121 = .ok (.ifCond .ne 27, 3) := by decide +kernel
theorem dX1_blindFlips_124 : decode cX1_blindFlips 124 = .ok (.iload 8, 2) := by decide +kernel
theorem dX1_blindFlips_126 : decode cX1_blindFlips 126 = .ok (.ifCond .le 22, 3) := by decide +kernel
theorem dX1_blindFlips_129 : decode cX1_blindFlips 129 = .ok (.iload 4, 2) := by decide +kernel
theorem dX1_blindFlips_131 : decode cX1_blindFlips 131 = .ok (.sipush 256, 3) := by decide +kernel
theorem dX1_blindFlips_134 : decode cX1_blindFlips 134 = .ok (.bipush 64, 2) := by decide +kernel
theorem dX1_blindFlips_136 : decode cX1_blindFlips 136 = .ok (.aload_n 0, 1) := by decide +kernel
theorem dX1_blindFlips_137 : decode cX1_blindFlips 137 = .ok (.getfield 12, 3) := by decide +kernel
theorem dX1_blindFlips_140 : decode cX1_blindFlips 140 = .ok (.getfield 114, 3) := by decide +kernel
theorem dX1_blindFlips_143 : decode cX1_blindFlips 143 = .ok (.imul, 1) := by decide +kernel
theorem dX1_blindFlips_144 : decode cX1_blindFlips 144 = .ok (.isub, 1) := by decide +kernel
theorem dX1_blindFlips_145 : decode cX1_blindFlips 145 = .ok (.isub, 1) := by decide +kernel
theorem dX1_blindFlips_146 : decode cX1_blindFlips 146 = .ok (.istore 4, 2) := by decide +kernel
theorem dX1_blindFlips_148 : decode cX1_blindFlips 148 = .ok (.iload 5, 2) := by decide +kernel
theorem dX1_blindFlips_150 : decode cX1_blindFlips 150 = .ok (.iconst 1, 1) := by decide +kernel
theorem dX1_blindFlips_151 : decode cX1_blindFlips 151 = .ok (.iload 8, 2) := by decide +kernel
theorem dX1_blindFlips_153 : decode cX1_blindFlips 153 = .ok (.iadd, 1) := by decide +kernel
theorem dX1_blindFlips_154 : decode cX1_blindFlips 154 = .ok (.iadd, 1) := by decide +kernel
theorem dX1_blindFlips_155 : decode cX1_blindFlips 155 = .ok (.istore 5, 2) := by decide +kernel
theorem dX1_blindFlips_157 : decode cX1_blindFlips 157 = .ok (.iinc 6 1, 3) := by decide +kernel
theorem dX1_blindFlips_160 : decode cX1_blindFlips 160 = .ok (.goto (-134), 3) := by decide +kernel
theorem dX1_blindFlips_163 : decode cX1_blindFlips 163 = .ok (.iload 4, 2) := by decide +kernel
theorem dX1_blindFlips_165 : decode cX1_blindFlips 165 = .ok (.ireturn, 1) := by decide +kernel
theorem dX1_blindCodes_0 : decode cX1_blindCodes 0 = .ok (.iconst 0, 1) := by decide +kernel
theorem dX1_blindCodes_1 : decode cX1_blindCodes 1 = .ok (.istore_n 3, 1) := by decide +kernel
theorem dX1_blindCodes_2 : decode cX1_blindCodes 2 = .ok (.aload_n 0, 1) := by decide +kernel
theorem dX1_blindCodes_3 : decode cX1_blindCodes 3 = .ok (.getfield 30, 3) := by decide +kernel
theorem dX1_blindCodes_6 : decode cX1_blindCodes 6 = .ok (.iload_n 1, 1) := by decide +kernel
theorem dX1_blindCodes_7 : decode cX1_blindCodes 7 = .ok (.invokevirtual 95, 3) := by decide +kernel
theorem dX1_blindCodes_10 : decode cX1_blindCodes 10 = .ok (.istore 4, 2) := by decide +kernel
theorem dX1_blindCodes_12 : decode cX1_blindCodes 12 = .ok (.iconst 1, 1) := by decide +kernel
theorem dX1_blindCodes_13 : decode cX1_blindCodes 13 = .ok (.istore 5, 2) := by decide +kernel
theorem dX1_blindCodes_15 : decode cX1_blindCodes 15 = .ok (.iload 5, 2) := by decide +kernel
theorem dX1_blindCodes_17 : decode cX1_blindCodes 17 = .ok (.sipush 255, 3) := by decide +kernel
theorem dX1_blindCodes_20 : decode cX1_blindCodes 20 = .ok (.if_icmp .gt 77, 3) := by decide +kernel
theorem dX1_blindCodes_23 : decode cX1_blindCodes 23 = .ok (.iload 5, 2) := by decide +kernel
theorem dX1_blindCodes_25 : decode cX1_blindCodes 25 = .ok (.iload 4, 2) := by decide +kernel
theorem dX1_blindCodes_27 : decode cX1_blindCodes 27 = .ok (.if_icmp .eq 64, 3) := by decide +kernel
theorem dX1_blindCodes_30 : decode cX1_blindCodes 30 = .ok (.aload_n 0, 1) := by decide +kernel
theorem dX1_blindCodes_31 : decode cX1_blindCodes 31 = .ok (.getfield 12, 3) := by decide +kernel
theorem dX1_blindCodes_34 : decode cX1_blindCodes 34 = .ok (.getfield 82, 3) := by decide +kernel
theorem dX1_blindCodes_37 : decode cX1_blindCodes 37 = .ok (.iload 5, 2) := by decide +kernel
theorem dX1_blindCodes_39 : decode cX1_blindCodes 39 = .ok (.iload_n 2, 1) := by decide +kernel
theorem dX1_blindCodes_40 : decode cX1_blindCodes 40 = .ok (.aload_n 0, 1) := by decide +kernel
theorem dX1_blindCodes_41 : decode cX1_blindCodes 41 = .ok (.getfield 12, 3) := by decide +kernel
theorem dX1_blindCodes_44 : decode cX1_blindCodes 44 = .ok (.getfield 86, 3) := by decide +kernel
theorem dX1_blindCodes_47 : decode cX1_blindCodes 47 = .ok (.invokevirtual 117, 3) := by decide +kernel
theorem dX1_blindCodes_50 : decode cX1_blindCodes 50 = .ok (.iconst (-1), 1) := by decide +kernel
theorem dX1_blindCodes_51 : decode cX1_blindCodes 51 = .ok (.if_icmp .eq 40, 3) := by decide +kernel
theorem dX1_blindCodes_54 : decode cX1_blindCodes 54 = .ok (.aload_n 0, 1) := by decide +kernel
theorem dX1_blindCodes_55 : decode cX1_blindCodes 55 = .ok (.getfield 30, 3) := by decide +kernel
theorem dX1_blindCodes_58 : decode cX1_blindCodes 58 = .ok (.iload_n 1, 1) := by decide +kernel
theorem dX1_blindCodes_59 : decode cX1_blindCodes 59 = .ok (.iload 5, 2) := by decide +kernel
theorem dX1_blindCodes_61 : decode cX1_blindCodes 61 = .ok (.invokevirtual 124, 3) := by decide +kernel
theorem dX1_blindCodes_64 : decode cX1_blindCodes 64 = .ok (.iload_n 3, 1) := by decide +kernel
theorem dX1_blindCodes_65 : decode cX1_blindCodes 65 = .ok (.aload_n 0, 1) := by decide +kernel
theorem dX1_blindCodes_66 : decode cX1_blindCodes 66 = .ok (.aload_n 0, 1) := by decide +kernel
theorem dX1_blindCodes_67 : decode cX1_blindCodes 67 = .ok (.getfield 30, 3) := by decide +kernel
theorem dX1_blindCodes_70 : decode cX1_blindCodes 70 = .ok (.iconst 0, 1) := by decide +kernel
theorem dX1_blindCodes_71 : decode cX1_blindCodes 71 = .ok (.aload_n 0, 1) := by decide +kernel
theorem dX1_blindCodes_72 : decode cX1_blindCodes 72 = .ok (.getfield 30, 3) := by decide +kernel
theorem dX1_blindCodes_75 : decode cX1_blindCodes 75 = .ok (.getfield 77, 3) := by decide +kernel
theorem dX1_blindCodes_78 : decode cX1_blindCodes 78 = .ok (.invokevirtual 128, 3) := by decide +kernel
theorem dX1_blindCodes_81 : decode cX1_blindCodes 81 = .ok (.ifCond .ne 7, 3) := by decide +kernel
theorem dX1_blindCodes_84 : decode cX1_blindCodes 84 = .ok (.iconst 1, 1) := by decide +kernel
theorem dX1_blindCodes_85 : decode cX1_blindCodes 85 = .ok (.goto 4, 3) := by decide +kernel
theorem dX1_blindCodes_88 : decode cX1_blindCodes 88 = .ok (.iconst 0, 1) := by decide +kernel
theorem dX1_blindCodes_89 : decode cX1_blindCodes 89 = .ok (.iadd, 1) := by decide +kernel
theorem dX1_blindCodes_90 : decode cX1_blindCodes 90 = .ok (.istore_n 3, 1) := by decide +kernel
theorem dX1_blindCodes_91 : decode cX1_blindCodes 91 = .ok (.iinc 5 1, 3) := by decide +kernel
theorem dX1_blindCodes_94 : decode cX1_blindCodes 94 = .ok (.goto (-79), 3) := by decide +kernel
theorem dX1_blindCodes_97 : decode cX1_blindCodes 97 = .ok (.aload_n 0, 1) := by decide +kernel
theorem dX1_blindCodes_98 : decode cX1_blindCodes 98 = .ok (.getfield 30, 3) := by decide +kernel
theorem dX1_blindCodes_101 : decode cX1_blindCodes 101 = .ok (.iload_n 1, 1) := by decide +kernel
theorem dX1_blindCodes_102 : decode cX1_blindCodes 102 = .ok (.iload 4, 2) := by decide +kernel
theorem dX1_blindCodes_104 : decode cX1_blindCodes 104 = .ok (.invokevirtual 124, 3) := by decide +kernel
theorem dX1_blindCodes_107 : decode cX1_blindCodes 107 = .ok (.iload_n 3, 1) := by decide +kernel
theorem dX1_blindCodes_108 : decode cX1_blindCodes 108 = .ok (.ireturn, 1) := by decide +kernel
theorem dX2_init_0 : decode cX2_init 0 = .ok (.aload_n 0, 1) := by decide +kernel
theorem dX2_init_1 : decode cX2_init 1 = .ok (.invokespecial 3, 3) := by decide +kernel
theorem dX2_init_4 : decode cX2_init 4 = .ok (.aload_n 0, 1) := by decide +kernel
theorem dX2_init_5 : decode cX2_init 5 = .ok (.new 9, 3) := by decide +kernel
theorem dX2_init_8 : decode cX2_init 8 = .ok (.dup, 1) := by decide +kernel
theorem dX2_init_9 : decode cX2_init 9 = .ok (.sipush 960, 3) := by decide +kernel
theorem dX2_init_12 : decode cX2_init 12 = .ok (.invokespecial 11, 3) := by decide +kernel
theorem dX2_init_15 : decode cX2_init 15 = .ok (.putfield 14, 3) := by decide +kernel
theorem dX2_init_18 : decode cX2_init 18 = .ok (.aload_n 0, 1) := by decide +kernel
theorem dX2_init_19 : decode cX2_init 19 = .ok (.new 9, 3) := by decide +kernel
theorem dX2_init_22 : decode cX2_init 22 = .ok (.dup, 1) := by decide +kernel
theorem dX2_init_23 : decode cX2_init 23 = .ok (.bipush 8, 2) := by decide +kernel
theorem dX2_init_25 : decode cX2_init 25 = .ok (.invokespecial 11, 3) := by decide +kernel
theorem dX2_init_28 : decode cX2_init 28 = .ok (.putfield 20, 3) := by decide +kernel
theorem dX2_init_31 : decode cX2_init 31 = .ok (.aload_n 0, 1) := by decide +kernel
theorem dX2_init_32 : decode cX2_init 32 = .ok (.new 9, 3) := by decide +kernel
theorem dX2_init_35 : decode cX2_init 35 = .ok (.dup, 1) := by decide +kernel
theorem dX2_init_36 : decode cX2_init 36 = .ok (.bipush 8, 2) := by decide +kernel
theorem dX2_init_38 : decode cX2_init 38 = .ok (.invokespecial 11, 3) := by decide +kernel
theorem dX2_init_41 : decode cX2_init 41 = .ok (.putfield 23, 3) := by decide +kernel
theorem dX2_init_44 : decode cX2_init 44 = .ok (.return_, 1) := by decide +kernel
theorem dX2_many_0 : decode cX2_many 0 = .ok (.aload_n 0, 1) := by decide +kernel
theorem dX2_many_1 : decode cX2_many 1 = .ok (.getfield 20, 3) := by decide +kernel
theorem dX2_many_4 : decode cX2_many 4 = .ok (.getfield 26, 3) := by decide +kernel
theorem dX2_many_7 : decode cX2_many 7 = .ok (.ireturn, 1) := by decide +kernel
theorem dX2_firstLength_0 : decode cX2_firstLength 0 = .ok (.iconst 0, 1) := by decide +kernel
theorem dX2_firstLength_1 : decode cX2_firstLength 1 = .ok (.aload_n 0, 1) := by decide +kernel
theorem dX2_firstLength_2 : decode cX2_firstLength 2 = .ok (.getfield 20, 3) := by decide +kernel
theorem dX2_firstLength_5 : decode cX2_firstLength 5 = .ok (.iconst 0, 1) := by decide +kernel
theorem dX2_firstLength_6 : decode cX2_firstLength 6 = .ok (.invokevirtual 30, 3) := by decide +kernel
theorem dX2_firstLength_9 : decode cX2_firstLength 9 = .ok (.invokestatic 34, 3) := by decide +kernel
theorem dX2_firstLength_12 : decode cX2_firstLength 12 = .ok (.ireturn, 1) := by decide +kernel
theorem dX2_firstFrames_0 : decode cX2_firstFrames 0 = .ok (.iconst 0, 1) := by decide +kernel
theorem dX2_firstFrames_1 : decode cX2_firstFrames 1 = .ok (.aload_n 0, 1) := by decide +kernel
theorem dX2_firstFrames_2 : decode cX2_firstFrames 2 = .ok (.getfield 23, 3) := by decide +kernel
theorem dX2_firstFrames_5 : decode cX2_firstFrames 5 = .ok (.iconst 0, 1) := by decide +kernel
theorem dX2_firstFrames_6 : decode cX2_firstFrames 6 = .ok (.invokevirtual 30, 3) := by decide +kernel
theorem dX2_firstFrames_9 : decode cX2_firstFrames 9 = .ok (.invokestatic 34, 3) := by decide +kernel
theorem dX2_firstFrames_12 : decode cX2_firstFrames 12 = .ok (.ireturn, 1) := by decide +kernel
theorem dX2_push_0 : decode cX2_push 0 = .ok (.aload_n 0, 1) := by decide +kernel
theorem dX2_push_1 : decode cX2_push 1 = .ok (.getfield 14, 3) := by decide +kernel
theorem dX2_push_4 : decode cX2_push 4 = .ok (.aload_n 1, 1) := by decide +kernel
theorem dX2_push_5 : decode cX2_push 5 = .ok (.iconst 0, 1) := by decide +kernel
theorem dX2_push_6 : decode cX2_push 6 = .ok (.aload_n 1, 1) := by decide +kernel
theorem dX2_push_7 : decode cX2_push 7 = .ok (.getfield 26, 3) := by decide +kernel
theorem dX2_push_10 : decode cX2_push 10 = .ok (.invokevirtual 40, 3) := by decide +kernel
theorem dX2_push_13 : decode cX2_push 13 = .ok (.aload_n 0, 1) := by decide +kernel
theorem dX2_push_14 : decode cX2_push 14 = .ok (.getfield 20, 3) := by decide +kernel
theorem dX2_push_17 : decode cX2_push 17 = .ok (.aload_n 1, 1) := by decide +kernel
theorem dX2_push_18 : decode cX2_push 18 = .ok (.getfield 26, 3) := by decide +kernel
theorem dX2_push_21 : decode cX2_push 21 = .ok (.invokevirtual 44, 3) := by decide +kernel
theorem dX2_push_24 : decode cX2_push 24 = .ok (.aload_n 0, 1) := by decide +kernel
theorem dX2_push_25 : decode cX2_push 25 = .ok (.getfield 23, 3) := by decide +kernel
theorem dX2_push_28 : decode cX2_push 28 = .ok (.iload_n 2, 1) := by decide +kernel
theorem dX2_push_29 : decode cX2_push 29 = .ok (.invokevirtual 44, 3) := by decide +kernel
theorem dX2_push_32 : decode cX2_push 32 = .ok (.return_, 1) := by decide +kernel
theorem dX2_dropFirst_0 : decode cX2_dropFirst 0 = .ok (.aload_n 0, 1) := by decide +kernel
theorem dX2_dropFirst_1 : decode cX2_dropFirst 1 = .ok (.getfield 14, 3) := by decide +kernel
theorem dX2_dropFirst_4 : decode cX2_dropFirst 4 = .ok (.aload_n 0, 1) := by decide +kernel
theorem dX2_dropFirst_5 : decode cX2_dropFirst 5 = .ok (.invokevirtual 47, 3) := by decide +kernel
theorem dX2_dropFirst_8 : decode cX2_dropFirst 8 = .ok (.invokevirtual 51, 3) := by decide +kernel
theorem dX2_dropFirst_11 : decode cX2_dropFirst 11 = .ok (.aload_n 0, 1) := by decide +kernel
theorem dX2_dropFirst_12 : decode cX2_dropFirst 12 = .ok (.getfield 20, 3) := by decide +kernel
theorem dX2_dropFirst_15 : decode cX2_dropFirst 15 = .ok (.iconst 1, 1) := by decide +kernel
theorem dX2_dropFirst_16 : decode cX2_dropFirst 16 = .ok (.invokevirtual 51, 3) := by decide +kernel
theorem dX2_dropFirst_19 : decode cX2_dropFirst 19 = .ok (.aload_n 0, 1) := by decide +kernel
theorem dX2_dropFirst_20 : decode cX2_dropFirst 20 = .ok (.getfield 23, 3) := by decide +kernel
theorem dX2_dropFirst_23 : decode cX2_dropFirst 23 = .ok (.iconst 1, 1) := by decide +kernel
theorem dX2_dropFirst_24 : decode cX2_dropFirst 24 = .ok (.invokevirtual 51, 3) := by decide +kernel
theorem dX2_dropFirst_27 : decode cX2_dropFirst 27 = .ok (.return_, 1) := by decide +kernel
theorem dX2_clear_0 : decode cX2_clear 0 = .ok (.aload_n 0, 1) := by decide +kernel
theorem dX2_clear_1 : decode cX2_clear 1 = .ok (.getfield 14, 3) := by decide +kernel
theorem dX2_clear_4 : decode cX2_clear 4 = .ok (.invokevirtual 54, 3) := by decide +kernel
theorem dX2_clear_7 : decode cX2_clear 7 = .ok (.aload_n 0, 1) := by decide +kernel
theorem dX2_clear_8 : decode cX2_clear 8 = .ok (.getfield 20, 3) := by decide +kernel
theorem dX2_clear_11 : decode cX2_clear 11 = .ok (.invokevirtual 54, 3) := by decide +kernel
theorem dX2_clear_14 : decode cX2_clear 14 = .ok (.aload_n 0, 1) := by decide +kernel
theorem dX2_clear_15 : decode cX2_clear 15 = .ok (.getfield 23, 3) := by decide +kernel
theorem dX2_clear_18 : decode cX2_clear 18 = .ok (.invokevirtual 54, 3) := by decide +kernel
theorem dX2_clear_21 : decode cX2_clear 21 = .ok (.return_, 1) := by decide +kernel
theorem dX2_copyFrom_0 : decode cX2_copyFrom 0 = .ok (.aload_n 0, 1) := by decide +kernel
theorem dX2_copyFrom_1 : decode cX2_copyFrom 1 = .ok (.getfield 14, 3) := by decide +kernel
theorem dX2_copyFrom_4 : decode cX2_copyFrom 4 = .ok (.aload_n 1, 1) := by decide +kernel
theorem dX2_copyFrom_5 : decode cX2_copyFrom 5 = .ok (.getfield 14, 3) := by decide +kernel
theorem dX2_copyFrom_8 : decode cX2_copyFrom 8 = .ok (.invokevirtual 57, 3) := by decide +kernel
theorem dX2_copyFrom_11 : decode cX2_copyFrom 11 = .ok (.aload_n 0, 1) := by decide +kernel
theorem dX2_copyFrom_12 : decode cX2_copyFrom 12 = .ok (.getfield 20, 3) := by decide +kernel
theorem dX2_copyFrom_15 : decode cX2_copyFrom 15 = .ok (.aload_n 1, 1) := by decide +kernel
theorem dX2_copyFrom_16 : decode cX2_copyFrom 16 = .ok (.getfield 20, 3) := by decide +kernel
theorem dX2_copyFrom_19 : decode cX2_copyFrom 19 = .ok (.invokevirtual 57, 3) := by decide +kernel
theorem dX2_copyFrom_22 : decode cX2_copyFrom 22 = .ok (.aload_n 0, 1) := by decide +kernel
theorem dX2_copyFrom_23 : decode cX2_copyFrom 23 = .ok (.getfield 23, 3) := by decide +kernel
theorem dX2_copyFrom_26 : decode cX2_copyFrom 26 = .ok (.aload_n 1, 1) := by decide +kernel
theorem dX2_copyFrom_27 : decode cX2_copyFrom 27 = .ok (.getfield 23, 3) := by decide +kernel
theorem dX2_copyFrom_30 : decode cX2_copyFrom 30 = .ok (.invokevirtual 57, 3) := by decide +kernel
theorem dX2_copyFrom_33 : decode cX2_copyFrom 33 = .ok (.return_, 1) := by decide +kernel
theorem dX3_init_0 : decode cX3_init 0 = .ok (.aload_n 0, 1) := by decide +kernel
theorem dX3_init_1 : decode cX3_init 1 = .ok (.invokespecial 3, 3) := by decide +kernel
theorem dX3_init_4 : decode cX3_init 4 = .ok (.aload_n 0, 1) := by decide +kernel
theorem dX3_init_5 : decode cX3_init 5 = .ok (.bipush 13, 2) := by decide +kernel
theorem dX3_init_7 : decode cX3_init 7 = .ok (.anewarray 9, 3) := by decide +kernel
theorem dX3_init_10 : decode cX3_init 10 = .ok (.putfield 11, 3) := by decide +kernel
theorem dX3_init_13 : decode cX3_init 13 = .ok (.return_, 1) := by decide +kernel
theorem dX3_forget_0 : decode cX3_forget 0 = .ok (.aload_n 0, 1) := by decide +kernel
theorem dX3_forget_1 : decode cX3_forget 1 = .ok (.iconst 0, 1) := by decide +kernel
theorem dX3_forget_2 : decode cX3_forget 2 = .ok (.putfield 17, 3) := by decide +kernel
theorem dX3_forget_5 : decode cX3_forget 5 = .ok (.return_, 1) := by decide +kernel
theorem dX3_stage_0 : decode cX3_stage 0 = .ok (.aload_n 0, 1) := by decide +kernel
theorem dX3_stage_1 : decode cX3_stage 1 = .ok (.getfield 11, 3) := by decide +kernel
theorem dX3_stage_4 : decode cX3_stage 4 = .ok (.aload_n 0, 1) := by decide +kernel
theorem dX3_stage_5 : decode cX3_stage 5 = .ok (.getfield 21, 3) := by decide +kernel
theorem dX3_stage_8 : decode cX3_stage 8 = .ok (.aaload, 1) := by decide +kernel
theorem dX3_stage_9 : decode cX3_stage 9 = .ok (.ifnonnull 19, 3) := by decide +kernel
theorem dX3_stage_12 : decode cX3_stage 12 = .ok (.aload_n 0, 1) := by decide +kernel
theorem dX3_stage_13 : decode cX3_stage 13 = .ok (.getfield 11, 3) := by decide +kernel
theorem dX3_stage_16 : decode cX3_stage 16 = .ok (.aload_n 0, 1) := by decide +kernel
theorem dX3_stage_17 : decode cX3_stage 17 = .ok (.getfield 21, 3) := by decide +kernel
theorem dX3_stage_20 : decode cX3_stage 20 = .ok (.new 9, 3) := by decide +kernel
theorem dX3_stage_23 : decode cX3_stage 23 = .ok (.dup, 1) := by decide +kernel
theorem dX3_stage_24 : decode cX3_stage 24 = .ok (.invokespecial 24, 3) := by decide +kernel
theorem dX3_stage_27 : decode cX3_stage 27 = .ok (.aastore, 1) := by decide +kernel
theorem dX3_stage_28 : decode cX3_stage 28 = .ok (.aload_n 0, 1) := by decide +kernel
theorem dX3_stage_29 : decode cX3_stage 29 = .ok (.getfield 11, 3) := by decide +kernel
theorem dX3_stage_32 : decode cX3_stage 32 = .ok (.aload_n 0, 1) := by decide +kernel
theorem dX3_stage_33 : decode cX3_stage 33 = .ok (.getfield 21, 3) := by decide +kernel
theorem dX3_stage_36 : decode cX3_stage 36 = .ok (.aaload, 1) := by decide +kernel
theorem dX3_stage_37 : decode cX3_stage 37 = .ok (.aload_n 1, 1) := by decide +kernel
theorem dX3_stage_38 : decode cX3_stage 38 = .ok (.invokevirtual 25, 3) := by decide +kernel
theorem dX3_stage_41 : decode cX3_stage 41 = .ok (.return_, 1) := by decide +kernel
theorem dX3_commit_0 : decode cX3_commit 0 = .ok (.aload_n 0, 1) := by decide +kernel
theorem dX3_commit_1 : decode cX3_commit 1 = .ok (.aload_n 0, 1) := by decide +kernel
theorem dX3_commit_2 : decode cX3_commit 2 = .ok (.getfield 21, 3) := by decide +kernel
theorem dX3_commit_5 : decode cX3_commit 5 = .ok (.iconst 1, 1) := by decide +kernel
theorem dX3_commit_6 : decode cX3_commit 6 = .ok (.iadd, 1) := by decide +kernel
theorem dX3_commit_7 : decode cX3_commit 7 = .ok (.bipush 13, 2) := by decide +kernel
theorem dX3_commit_9 : decode cX3_commit 9 = .ok (.irem, 1) := by decide +kernel
theorem dX3_commit_10 : decode cX3_commit 10 = .ok (.putfield 21, 3) := by decide +kernel
theorem dX3_commit_13 : decode cX3_commit 13 = .ok (.aload_n 0, 1) := by decide +kernel
theorem dX3_commit_14 : decode cX3_commit 14 = .ok (.bipush 12, 2) := by decide +kernel
theorem dX3_commit_16 : decode cX3_commit 16 = .ok (.aload_n 0, 1) := by decide +kernel
theorem dX3_commit_17 : decode cX3_commit 17 = .ok (.getfield 17, 3) := by decide +kernel
theorem dX3_commit_20 : decode cX3_commit 20 = .ok (.iconst 1, 1) := by decide +kernel
theorem dX3_commit_21 : decode cX3_commit 21 = .ok (.iadd, 1) := by decide +kernel
theorem dX3_commit_22 : decode cX3_commit 22 = .ok (.invokestatic 29, 3) := by decide +kernel
theorem dX3_commit_25 : decode cX3_commit 25 = .ok (.putfield 17, 3) := by decide +kernel
theorem dX3_commit_28 : decode cX3_commit 28 = .ok (.return_, 1) := by decide +kernel
theorem dX3_swapBack_0 : decode cX3_swapBack 0 = .ok (.aload_n 0, 1) := by decide +kernel
theorem dX3_swapBack_1 : decode cX3_swapBack 1 = .ok (.getfield 21, 3) := by decide +kernel
theorem dX3_swapBack_4 : decode cX3_swapBack 4 = .ok (.bipush 12, 2) := by decide +kernel
theorem dX3_swapBack_6 : decode cX3_swapBack 6 = .ok (.iadd, 1) := by decide +kernel
theorem dX3_swapBack_7 : decode cX3_swapBack 7 = .ok (.bipush 13, 2) := by decide +kernel
theorem dX3_swapBack_9 : decode cX3_swapBack 9 = .ok (.irem, 1) := by decide +kernel
theorem dX3_swapBack_10 : decode cX3_swapBack 10 = .ok (.istore_n 2, 1) := by decide +kernel
theorem dX3_swapBack_11 : decode cX3_swapBack 11 = .ok (.aload_n 0, 1) := by decide +kernel
theorem dX3_swapBack_12 : decode cX3_swapBack 12 = .ok (.getfield 11, 3) := by decide +kernel
theorem dX3_swapBack_15 : decode cX3_swapBack 15 = .ok (.iload_n 2, 1) := by decide +kernel
theorem dX3_swapBack_16 : decode cX3_swapBack 16 = .ok (.aaload, 1) := by decide +kernel
theorem dX3_swapBack_17 : decode cX3_swapBack 17 = .ok (.astore_n 3, 1) := by decide +kernel
theorem dX3_swapBack_18 : decode cX3_swapBack 18 = .ok (.aload_n 0, 1) := by decide +kernel
theorem dX3_swapBack_19 : decode cX3_swapBack 19 = .ok (.getfield 17, 3) := by decide +kernel
theorem dX3_swapBack_22 : decode cX3_swapBack 22 = .ok (.ifCond .eq 7, 3) := by decide +kernel
theorem dX3_swapBack_25 : decode cX3_swapBack 25 = .ok (.aload_n 3, 1) := by decide +kernel
theorem dX3_swapBack_26 : decode cX3_swapBack 26 = .ok (.ifnonnull 5, 3) := by decide +kernel
theorem dX3_swapBack_29 : decode cX3_swapBack 29 = .ok (.aload_n 1, 1) := by decide +kernel
theorem dX3_swapBack_30 : decode cX3_swapBack 30 = .ok (.areturn, 1) := by decide +kernel
theorem dX3_swapBack_31 : decode cX3_swapBack 31 = .ok (.aload_n 0, 1) := by decide +kernel
theorem dX3_swapBack_32 : decode cX3_swapBack 32 = .ok (.getfield 11, 3) := by decide +kernel
theorem dX3_swapBack_35 : decode cX3_swapBack 35 = .ok (.iload_n 2, 1) := by decide +kernel
theorem dX3_swapBack_36 : decode cX3_swapBack 36 = .ok (.aload_n 1, 1) := by decide +kernel
theorem dX3_swapBack_37 : decode cX3_swapBack 37 = .ok (.aastore, 1) := by decide +kernel
theorem dX3_swapBack_38 : decode cX3_swapBack 38 = .ok (.aload_n 0, 1) := by decide +kernel
theorem dX3_swapBack_39 : decode cX3_swapBack 39 = .ok (.iload_n 2, 1) := by decide +kernel
theorem dX3_swapBack_40 : decode cX3_swapBack 40 = .ok (.putfield 21, 3) := by decide +kernel
theorem dX3_swapBack_43 : decode cX3_swapBack 43 = .ok (.aload_n 0, 1) := by decide +kernel
theorem dX3_swapBack_44 : decode cX3_swapBack 44 = .ok (.dup, 1) := by decide +kernel
theorem dX3_swapBack_45 : decode cX3_swapBack 45 = .ok (.getfield 17, 3) := by decide +kernel
theorem dX3_swapBack_48 : decode cX3_swapBack 48 = .ok (.iconst 1, 1) := by decide +kernel
theorem dX3_swapBack_49 : decode cX3_swapBack 49 = .ok (.isub, 1) := by decide +kernel
theorem dX3_swapBack_50 : decode cX3_swapBack 50 = .ok (.putfield 17, 3) := by decide +kernel
theorem dX3_swapBack_53 : decode cX3_swapBack 53 = .ok (.aload_n 3, 1) := by decide +kernel
theorem dX3_swapBack_54 : decode cX3_swapBack 54 = .ok (.areturn, 1) := by decide +kernel
theorem dX4_init_0 : decode cX4_init 0 = .ok (.aload_n 0, 1) := by decide +kernel
theorem dX4_init_1 : decode cX4_init 1 = .ok (.invokespecial 3, 3) := by decide +kernel
theorem dX4_init_4 : decode cX4_init 4 = .ok (.aload_n 0, 1) := by decide +kernel
theorem dX4_init_5 : decode cX4_init 5 = .ok (.new 9, 3) := by decide +kernel
theorem dX4_init_8 : decode cX4_init 8 = .ok (.dup, 1) := by decide +kernel
theorem dX4_init_9 : decode cX4_init 9 = .ok (.invokespecial 11, 3) := by decide +kernel
theorem dX4_init_12 : decode cX4_init 12 = .ok (.putfield 12, 3) := by decide +kernel
theorem dX4_init_15 : decode cX4_init 15 = .ok (.aload_n 0, 1) := by decide +kernel
theorem dX4_init_16 : decode cX4_init 16 = .ok (.new 9, 3) := by decide +kernel
theorem dX4_init_19 : decode cX4_init 19 = .ok (.dup, 1) := by decide +kernel
theorem dX4_init_20 : decode cX4_init 20 = .ok (.invokespecial 11, 3) := by decide +kernel
theorem dX4_init_23 : decode cX4_init 23 = .ok (.putfield 18, 3) := by decide +kernel
theorem dX4_init_26 : decode cX4_init 26 = .ok (.aload_n 0, 1) := by decide +kernel
theorem dX4_init_27 : decode cX4_init 27 = .ok (.new 21, 3) := by decide +kernel
theorem dX4_init_30 : decode cX4_init 30 = .ok (.dup, 1) := by decide +kernel
theorem dX4_init_31 : decode cX4_init 31 = .ok (.bipush 120, 2) := by decide +kernel
theorem dX4_init_33 : decode cX4_init 33 = .ok (.invokespecial 23, 3) := by decide +kernel
theorem dX4_init_36 : decode cX4_init 36 = .ok (.putfield 26, 3) := by decide +kernel
theorem dX4_init_39 : decode cX4_init 39 = .ok (.return_, 1) := by decide +kernel
theorem dX4_reset_0 : decode cX4_reset 0 = .ok (.aload_n 0, 1) := by decide +kernel
theorem dX4_reset_1 : decode cX4_reset 1 = .ok (.getfield 12, 3) := by decide +kernel
theorem dX4_reset_4 : decode cX4_reset 4 = .ok (.invokevirtual 30, 3) := by decide +kernel
theorem dX4_reset_7 : decode cX4_reset 7 = .ok (.aload_n 0, 1) := by decide +kernel
theorem dX4_reset_8 : decode cX4_reset 8 = .ok (.getfield 18, 3) := by decide +kernel
theorem dX4_reset_11 : decode cX4_reset 11 = .ok (.invokevirtual 30, 3) := by decide +kernel
theorem dX4_reset_14 : decode cX4_reset 14 = .ok (.aload_n 0, 1) := by decide +kernel
theorem dX4_reset_15 : decode cX4_reset 15 = .ok (.getfield 26, 3) := by decide +kernel
theorem dX4_reset_18 : decode cX4_reset 18 = .ok (.invokevirtual 33, 3) := by decide +kernel
theorem dX4_reset_21 : decode cX4_reset 21 = .ok (.aload_n 0, 1) := by decide +kernel
theorem dX4_reset_22 : decode cX4_reset 22 = .ok (.iload_n 1, 1) := by decide +kernel
theorem dX4_reset_23 : decode cX4_reset 23 = .ok (.putfield 34, 3) := by decide +kernel
theorem dX4_reset_26 : decode cX4_reset 26 = .ok (.aload_n 0, 1) := by decide +kernel
theorem dX4_reset_27 : decode cX4_reset 27 = .ok (.iload_n 1, 1) := by decide +kernel
theorem dX4_reset_28 : decode cX4_reset 28 = .ok (.putfield 38, 3) := by decide +kernel
theorem dX4_reset_31 : decode cX4_reset 31 = .ok (.aload_n 0, 1) := by decide +kernel
theorem dX4_reset_32 : decode cX4_reset 32 = .ok (.iconst 0, 1) := by decide +kernel
theorem dX4_reset_33 : decode cX4_reset 33 = .ok (.putfield 41, 3) := by decide +kernel
theorem dX4_reset_36 : decode cX4_reset 36 = .ok (.aload_n 0, 1) := by decide +kernel
theorem dX4_reset_37 : decode cX4_reset 37 = .ok (.iconst 0, 1) := by decide +kernel
theorem dX4_reset_38 : decode cX4_reset 38 = .ok (.putfield 44, 3) := by decide +kernel
theorem dX4_reset_41 : decode cX4_reset 41 = .ok (.aload_n 0, 1) := by decide +kernel
theorem dX4_reset_42 : decode cX4_reset 42 = .ok (.iconst 0, 1) := by decide +kernel
theorem dX4_reset_43 : decode cX4_reset 43 = .ok (.putfield 47, 3) := by decide +kernel
theorem dX4_reset_46 : decode cX4_reset 46 = .ok (.aload_n 0, 1) := by decide +kernel
theorem dX4_reset_47 : decode cX4_reset 47 = .ok (.iconst 0, 1) := by decide +kernel
theorem dX4_reset_48 : decode cX4_reset 48 = .ok (.putfield 50, 3) := by decide +kernel
theorem dX4_reset_51 : decode cX4_reset 51 = .ok (.aload_n 0, 1) := by decide +kernel
theorem dX4_reset_52 : decode cX4_reset 52 = .ok (.iconst 0, 1) := by decide +kernel
theorem dX4_reset_53 : decode cX4_reset 53 = .ok (.putfield 53, 3) := by decide +kernel
theorem dX4_reset_56 : decode cX4_reset 56 = .ok (.aload_n 0, 1) := by decide +kernel
theorem dX4_reset_57 : decode cX4_reset 57 = .ok (.iconst 0, 1) := by decide +kernel
theorem dX4_reset_58 : decode cX4_reset 58 = .ok (.putfield 56, 3) := by decide +kernel
theorem dX4_reset_61 : decode cX4_reset 61 = .ok (.aload_n 0, 1) := by decide +kernel
theorem dX4_reset_62 : decode cX4_reset 62 = .ok (.iconst 0, 1) := by decide +kernel
theorem dX4_reset_63 : decode cX4_reset 63 = .ok (.putfield 59, 3) := by decide +kernel
theorem dX4_reset_66 : decode cX4_reset 66 = .ok (.return_, 1) := by decide +kernel
theorem dX4_copyFrom_0 : decode cX4_copyFrom 0 = .ok (.aload_n 0, 1) := by decide +kernel
theorem dX4_copyFrom_1 : decode cX4_copyFrom 1 = .ok (.getfield 12, 3) := by decide +kernel
theorem dX4_copyFrom_4 : decode cX4_copyFrom 4 = .ok (.aload_n 1, 1) := by decide +kernel
theorem dX4_copyFrom_5 : decode cX4_copyFrom 5 = .ok (.getfield 12, 3) := by decide +kernel
theorem dX4_copyFrom_8 : decode cX4_copyFrom 8 = .ok (.invokevirtual 62, 3) := by decide +kernel
theorem dX4_copyFrom_11 : decode cX4_copyFrom 11 = .ok (.aload_n 0, 1) := by decide +kernel
theorem dX4_copyFrom_12 : decode cX4_copyFrom 12 = .ok (.getfield 18, 3) := by decide +kernel
theorem dX4_copyFrom_15 : decode cX4_copyFrom 15 = .ok (.aload_n 1, 1) := by decide +kernel
theorem dX4_copyFrom_16 : decode cX4_copyFrom 16 = .ok (.getfield 18, 3) := by decide +kernel
theorem dX4_copyFrom_19 : decode cX4_copyFrom 19 = .ok (.invokevirtual 62, 3) := by decide +kernel
theorem dX4_copyFrom_22 : decode cX4_copyFrom 22 = .ok (.aload_n 0, 1) := by decide +kernel
theorem dX4_copyFrom_23 : decode cX4_copyFrom 23 = .ok (.getfield 26, 3) := by decide +kernel
theorem dX4_copyFrom_26 : decode cX4_copyFrom 26 = .ok (.aload_n 1, 1) := by decide +kernel
theorem dX4_copyFrom_27 : decode cX4_copyFrom 27 = .ok (.getfield 26, 3) := by decide +kernel
theorem dX4_copyFrom_30 : decode cX4_copyFrom 30 = .ok (.invokevirtual 66, 3) := by decide +kernel
theorem dX4_copyFrom_33 : decode cX4_copyFrom 33 = .ok (.aload_n 0, 1) := by decide +kernel
theorem dX4_copyFrom_34 : decode cX4_copyFrom 34 = .ok (.aload_n 1, 1) := by decide +kernel
theorem dX4_copyFrom_35 : decode cX4_copyFrom 35 = .ok (.getfield 34, 3) := by decide +kernel
theorem dX4_copyFrom_38 : decode cX4_copyFrom 38 = .ok (.putfield 34, 3) := by decide +kernel
theorem dX4_copyFrom_41 : decode cX4_copyFrom 41 = .ok (.aload_n 0, 1) := by decide +kernel
theorem dX4_copyFrom_42 : decode cX4_copyFrom 42 = .ok (.aload_n 1, 1) := by decide +kernel
theorem dX4_copyFrom_43 : decode cX4_copyFrom 43 = .ok (.getfield 38, 3) := by decide +kernel
theorem dX4_copyFrom_46 : decode cX4_copyFrom 46 = .ok (.putfield 38, 3) := by decide +kernel
theorem dX4_copyFrom_49 : decode cX4_copyFrom 49 = .ok (.aload_n 0, 1) := by decide +kernel
theorem dX4_copyFrom_50 : decode cX4_copyFrom 50 = .ok (.aload_n 1, 1) := by decide +kernel
theorem dX4_copyFrom_51 : decode cX4_copyFrom 51 = .ok (.getfield 41, 3) := by decide +kernel
theorem dX4_copyFrom_54 : decode cX4_copyFrom 54 = .ok (.putfield 41, 3) := by decide +kernel
theorem dX4_copyFrom_57 : decode cX4_copyFrom 57 = .ok (.aload_n 0, 1) := by decide +kernel
theorem dX4_copyFrom_58 : decode cX4_copyFrom 58 = .ok (.aload_n 1, 1) := by decide +kernel
theorem dX4_copyFrom_59 : decode cX4_copyFrom 59 = .ok (.getfield 44, 3) := by decide +kernel
theorem dX4_copyFrom_62 : decode cX4_copyFrom 62 = .ok (.putfield 44, 3) := by decide +kernel
theorem dX4_copyFrom_65 : decode cX4_copyFrom 65 = .ok (.aload_n 0, 1) := by decide +kernel
theorem dX4_copyFrom_66 : decode cX4_copyFrom 66 = .ok (.aload_n 1, 1) := by decide +kernel
theorem dX4_copyFrom_67 : decode cX4_copyFrom 67 = .ok (.getfield 47, 3) := by decide +kernel
theorem dX4_copyFrom_70 : decode cX4_copyFrom 70 = .ok (.putfield 47, 3) := by decide +kernel
theorem dX4_copyFrom_73 : decode cX4_copyFrom 73 = .ok (.aload_n 0, 1) := by decide +kernel
theorem dX4_copyFrom_74 : decode cX4_copyFrom 74 = .ok (.aload_n 1, 1) := by decide +kernel
theorem dX4_copyFrom_75 : decode cX4_copyFrom 75 = .ok (.getfield 50, 3) := by decide +kernel
theorem dX4_copyFrom_78 : decode cX4_copyFrom 78 = .ok (.putfield 50, 3) := by decide +kernel
theorem dX4_copyFrom_81 : decode cX4_copyFrom 81 = .ok (.aload_n 0, 1) := by decide +kernel
theorem dX4_copyFrom_82 : decode cX4_copyFrom 82 = .ok (.aload_n 1, 1) := by decide +kernel
theorem dX4_copyFrom_83 : decode cX4_copyFrom 83 = .ok (.getfield 53, 3) := by decide +kernel
theorem dX4_copyFrom_86 : decode cX4_copyFrom 86 = .ok (.putfield 53, 3) := by decide +kernel
theorem dX4_copyFrom_89 : decode cX4_copyFrom 89 = .ok (.aload_n 0, 1) := by decide +kernel
theorem dX4_copyFrom_90 : decode cX4_copyFrom 90 = .ok (.aload_n 1, 1) := by decide +kernel
theorem dX4_copyFrom_91 : decode cX4_copyFrom 91 = .ok (.getfield 56, 3) := by decide +kernel
theorem dX4_copyFrom_94 : decode cX4_copyFrom 94 = .ok (.putfield 56, 3) := by decide +kernel
theorem dX4_copyFrom_97 : decode cX4_copyFrom 97 = .ok (.aload_n 0, 1) := by decide +kernel
theorem dX4_copyFrom_98 : decode cX4_copyFrom 98 = .ok (.aload_n 1, 1) := by decide +kernel
theorem dX4_copyFrom_99 : decode cX4_copyFrom 99 = .ok (.getfield 59, 3) := by decide +kernel
theorem dX4_copyFrom_102 : decode cX4_copyFrom 102 = .ok (.putfield 59, 3) := by decide +kernel
theorem dX4_copyFrom_105 : decode cX4_copyFrom 105 = .ok (.return_, 1) := by decide +kernel
theorem dX4_frameWasPut_0 : decode cX4_frameWasPut 0 = .ok (.aload_n 0, 1) := by decide +kernel
theorem dX4_frameWasPut_1 : decode cX4_frameWasPut 1 = .ok (.dup, 1) := by decide +kernel
theorem dX4_frameWasPut_2 : decode cX4_frameWasPut 2 = .ok (.getfield 38, 3) := by decide +kernel
theorem dX4_frameWasPut_5 : decode cX4_frameWasPut 5 = .ok (.iconst 1, 1) := by decide +kernel
theorem dX4_frameWasPut_6 : decode cX4_frameWasPut 6 = .ok (.isub, 1) := by decide +kernel
theorem dX4_frameWasPut_7 : decode cX4_frameWasPut 7 = .ok (.putfield 38, 3) := by decide +kernel
theorem dX4_frameWasPut_10 : decode cX4_frameWasPut 10 = .ok (.aload_n 0, 1) := by decide +kernel
theorem dX4_frameWasPut_11 : decode cX4_frameWasPut 11 = .ok (.aload_n 0, 1) := by decide +kernel
theorem dX4_frameWasPut_12 : decode cX4_frameWasPut 12 = .ok (.getfield 44, 3) := by decide +kernel
theorem dX4_frameWasPut_15 : decode cX4_frameWasPut 15 = .ok (.iconst 1, 1) := by decide +kernel
theorem dX4_frameWasPut_16 : decode cX4_frameWasPut 16 = .ok (.iadd, 1) := by decide +kernel
theorem dX4_frameWasPut_17 : decode cX4_frameWasPut 17 = .ok (.bipush 15, 2) := by decide +kernel
theorem dX4_frameWasPut_19 : decode cX4_frameWasPut 19 = .ok (.iand, 1) := by decide +kernel
theorem dX4_frameWasPut_20 : decode cX4_frameWasPut 20 = .ok (.putfield 44, 3) := by decide +kernel
theorem dX4_frameWasPut_23 : decode cX4_frameWasPut 23 = .ok (.aload_n 0, 1) := by decide +kernel
theorem dX4_frameWasPut_24 : decode cX4_frameWasPut 24 = .ok (.dup, 1) := by decide +kernel
theorem dX4_frameWasPut_25 : decode cX4_frameWasPut 25 = .ok (.getfield 41, 3) := by decide +kernel
theorem dX4_frameWasPut_28 : decode cX4_frameWasPut 28 = .ok (.iload_n 1, 1) := by decide +kernel
theorem dX4_frameWasPut_29 : decode cX4_frameWasPut 29 = .ok (.iadd, 1) := by decide +kernel
theorem dX4_frameWasPut_30 : decode cX4_frameWasPut 30 = .ok (.putfield 41, 3) := by decide +kernel
theorem dX4_frameWasPut_33 : decode cX4_frameWasPut 33 = .ok (.aload_n 0, 1) := by decide +kernel
theorem dX4_frameWasPut_34 : decode cX4_frameWasPut 34 = .ok (.getfield 41, 3) := by decide +kernel
theorem dX4_frameWasPut_37 : decode cX4_frameWasPut 37 = .ok (.aload_n 0, 1) := by decide +kernel
theorem dX4_frameWasPut_38 : decode cX4_frameWasPut 38 = .ok (.getfield 12, 3) := by decide +kernel
theorem dX4_frameWasPut_41 : decode cX4_frameWasPut 41 = .ok (.invokevirtual 69, 3) := by decide +kernel
theorem dX4_frameWasPut_44 : decode cX4_frameWasPut 44 = .ok (.if_icmp .lt 15, 3) := by decide +kernel
theorem dX4_frameWasPut_47 : decode cX4_frameWasPut 47 = .ok (.aload_n 0, 1) := by decide +kernel
theorem dX4_frameWasPut_48 : decode cX4_frameWasPut 48 = .ok (.getfield 12, 3) := by decide +kernel
theorem dX4_frameWasPut_51 : decode cX4_frameWasPut 51 = .ok (.invokevirtual 73, 3) := by decide +kernel
theorem dX4_frameWasPut_54 : decode cX4_frameWasPut 54 = .ok (.aload_n 0, 1) := by decide +kernel
theorem dX4_frameWasPut_55 : decode cX4_frameWasPut 55 = .ok (.iconst 0, 1) := by decide +kernel
theorem dX4_frameWasPut_56 : decode cX4_frameWasPut 56 = .ok (.putfield 41, 3) := by decide +kernel
theorem dX4_frameWasPut_59 : decode cX4_frameWasPut 59 = .ok (.return_, 1) := by decide +kernel
theorem dX4_accept_0 : decode cX4_accept 0 = .ok (.aload_n 1, 1) := by decide +kernel
theorem dX4_accept_1 : decode cX4_accept 1 = .ok (.iconst 0, 1) := by decide +kernel
theorem dX4_accept_2 : decode cX4_accept 2 = .ok (.invokevirtual 76, 3) := by decide +kernel
theorem dX4_accept_5 : decode cX4_accept 5 = .ok (.istore_n 3, 1) := by decide +kernel
theorem dX4_accept_6 : decode cX4_accept 6 = .ok (.iload_n 3, 1) := by decide +kernel
theorem dX4_accept_7 : decode cX4_accept 7 = .ok (.bipush 15, 2) := by decide +kernel
theorem dX4_accept_9 : decode cX4_accept 9 = .ok (.iand, 1) := by decide +kernel
theorem dX4_accept_10 : decode cX4_accept 10 = .ok (.istore 4, 2) := by decide +kernel
theorem dX4_accept_12 : decode cX4_accept 12 = .ok (.iload 4, 2) := by decide +kernel
theorem dX4_accept_14 : decode cX4_accept 14 = .ok (.aload_n 0, 1) := by decide +kernel
theorem dX4_accept_15 : decode cX4_accept 15 = .ok (.getfield 47, 3) := by decide +kernel
theorem dX4_accept_18 : decode cX4_accept 18 = .ok (.if_icmp .eq 26, 3) := by decide +kernel
theorem dX4_accept_21 : decode cX4_accept 21 = .ok (.aload_n 0, 1) := by decide +kernel
theorem dX4_accept_22 : decode cX4_accept 22 = .ok (.dup, 1) := by decide +kernel
theorem dX4_accept_23 : decode cX4_accept 23 = .ok (.getfield 50, 3) := by decide +kernel
theorem dX4_accept_26 : decode cX4_accept 26 = .ok (.iload 4, 2) := by decide +kernel
theorem dX4_accept_28 : decode cX4_accept 28 = .ok (.aload_n 0, 1) := by decide +kernel
theorem dX4_accept_29 : decode cX4_accept 29 = .ok (.getfield 47, 3) := by decide +kernel
theorem dX4_accept_32 : decode cX4_accept 32 = .ok (.isub, 1) := by decide +kernel
theorem dX4_accept_33 : decode cX4_accept 33 = .ok (.bipush 15, 2) := by decide +kernel
theorem dX4_accept_35 : decode cX4_accept 35 = .ok (.iand, 1) := by decide +kernel
theorem dX4_accept_36 : decode cX4_accept 36 = .ok (.iadd, 1) := by decide +kernel
theorem dX4_accept_37 : decode cX4_accept 37 = .ok (.putfield 50, 3) := by decide +kernel
theorem dX4_accept_40 : decode cX4_accept 40 = .ok (.aload_n 0, 1) := by decide +kernel
theorem dX4_accept_41 : decode cX4_accept 41 = .ok (.invokevirtual 80, 3) := by decide +kernel
theorem dX4_accept_44 : decode cX4_accept 44 = .ok (.aload_n 0, 1) := by decide +kernel
theorem dX4_accept_45 : decode cX4_accept 45 = .ok (.iload 4, 2) := by decide +kernel
theorem dX4_accept_47 : decode cX4_accept 47 = .ok (.iconst 1, 1) := by decide +kernel
theorem dX4_accept_48 : decode cX4_accept 48 = .ok (.iadd, 1) := by decide +kernel
theorem dX4_accept_49 : decode cX4_accept 49 = .ok (.bipush 15, 2) := by decide +kernel
theorem dX4_accept_51 : decode cX4_accept 51 = .ok (.iand, 1) := by decide +kernel
theorem dX4_accept_52 : decode cX4_accept 52 = .ok (.putfield 47, 3) := by decide +kernel
theorem dX4_accept_55 : decode cX4_accept 55 = .ok (.iload_n 3, 1) := by decide +kernel
theorem dX4_accept_56 : decode cX4_accept 56 = .ok (.bipush 32, 2) := by decide +kernel
theorem dX4_accept_58 : decode cX4_accept 58 = .ok (.iand, 1) := by decide +kernel
theorem dX4_accept_59 : decode cX4_accept 59 = .ok (.ifCond .eq 10, 3) := by decide +kernel
theorem dX4_accept_62 : decode cX4_accept 62 = .ok (.aload_n 0, 1) := by decide +kernel
theorem dX4_accept_63 : decode cX4_accept 63 = .ok (.invokevirtual 80, 3) := by decide +kernel
theorem dX4_accept_66 : decode cX4_accept 66 = .ok (.goto 32, 3) := by decide +kernel
theorem dX4_accept_69 : decode cX4_accept 69 = .ok (.aload_n 0, 1) := by decide +kernel
theorem dX4_accept_70 : decode cX4_accept 70 = .ok (.getfield 56, 3) := by decide +kernel
theorem dX4_accept_73 : decode cX4_accept 73 = .ok (.ifCond .ne 5, 3) := by decide +kernel
theorem dX4_accept_76 : decode cX4_accept 76 = .ok (.iconst 5, 1) := by decide +kernel
theorem dX4_accept_77 : decode cX4_accept 77 = .ok (.ireturn, 1) := by decide +kernel
theorem dX4_accept_78 : decode cX4_accept 78 = .ok (.aload_n 0, 1) := by decide +kernel
theorem dX4_accept_79 : decode cX4_accept 79 = .ok (.getfield 26, 3) := by decide +kernel
theorem dX4_accept_82 : decode cX4_accept 82 = .ok (.getfield 83, 3) := by decide +kernel
theorem dX4_accept_85 : decode cX4_accept 85 = .ok (.iload_n 2, 1) := by decide +kernel
theorem dX4_accept_86 : decode cX4_accept 86 = .ok (.iadd, 1) := by decide +kernel
theorem dX4_accept_87 : decode cX4_accept 87 = .ok (.bipush 120, 2) := by decide +kernel
theorem dX4_accept_89 : decode cX4_accept 89 = .ok (.if_icmp .le 9, 3) := by decide +kernel
theorem dX4_accept_92 : decode cX4_accept 92 = .ok (.aload_n 0, 1) := by decide +kernel
theorem dX4_accept_93 : decode cX4_accept 93 = .ok (.invokevirtual 80, 3) := by decide +kernel
theorem dX4_accept_96 : decode cX4_accept 96 = .ok (.iconst 5, 1) := by decide +kernel
theorem dX4_accept_97 : decode cX4_accept 97 = .ok (.ireturn, 1) := by decide +kernel
theorem dX4_accept_98 : decode cX4_accept 98 = .ok (.aload_n 0, 1) := by decide +kernel
theorem dX4_accept_99 : decode cX4_accept 99 = .ok (.getfield 26, 3) := by decide +kernel
theorem dX4_accept_102 : decode cX4_accept 102 = .ok (.aload_n 1, 1) := by decide +kernel
theorem dX4_accept_103 : decode cX4_accept 103 = .ok (.iconst 1, 1) := by decide +kernel
theorem dX4_accept_104 : decode cX4_accept 104 = .ok (.iload_n 2, 1) := by decide +kernel
theorem dX4_accept_105 : decode cX4_accept 105 = .ok (.invokevirtual 86, 3) := by decide +kernel
theorem dX4_accept_108 : decode cX4_accept 108 = .ok (.aload_n 0, 1) := by decide +kernel
theorem dX4_accept_109 : decode cX4_accept 109 = .ok (.dup, 1) := by decide +kernel
theorem dX4_accept_110 : decode cX4_accept 110 = .ok (.getfield 56, 3) := by decide +kernel
theorem dX4_accept_113 : decode cX4_accept 113 = .ok (.iconst 1, 1) := by decide +kernel
theorem dX4_accept_114 : decode cX4_accept 114 = .ok (.iadd, 1) := by decide +kernel
theorem dX4_accept_115 : decode cX4_accept 115 = .ok (.putfield 56, 3) := by decide +kernel
theorem dX4_accept_118 : decode cX4_accept 118 = .ok (.iload_n 3, 1) := by decide +kernel
theorem dX4_accept_119 : decode cX4_accept 119 = .ok (.bipush 16, 2) := by decide +kernel
theorem dX4_accept_121 : decode cX4_accept 121 = .ok (.iand, 1) := by decide +kernel
theorem dX4_accept_122 : decode cX4_accept 122 = .ok (.ifCond .ne 5, 3) := by decide +kernel
theorem dX4_accept_125 : decode cX4_accept 125 = .ok (.iconst 0, 1) := by decide +kernel
theorem dX4_accept_126 : decode cX4_accept 126 = .ok (.ireturn, 1) := by decide +kernel
theorem dX4_accept_127 : decode cX4_accept 127 = .ok (.aload_n 0, 1) := by decide +kernel
theorem dX4_accept_128 : decode cX4_accept 128 = .ok (.getfield 18, 3) := by decide +kernel
theorem dX4_accept_131 : decode cX4_accept 131 = .ok (.invokevirtual 90, 3) := by decide +kernel
theorem dX4_accept_134 : decode cX4_accept 134 = .ok (.bipush 8, 2) := by decide +kernel
theorem dX4_accept_136 : decode cX4_accept 136 = .ok (.if_icmp .lt 10, 3) := by decide +kernel
theorem dX4_accept_139 : decode cX4_accept 139 = .ok (.aload_n 0, 1) := by decide +kernel
theorem dX4_accept_140 : decode cX4_accept 140 = .ok (.invokevirtual 80, 3) := by decide +kernel
theorem dX4_accept_143 : decode cX4_accept 143 = .ok (.bipush 6, 2) := by decide +kernel
theorem dX4_accept_145 : decode cX4_accept 145 = .ok (.ireturn, 1) := by decide +kernel
theorem dX4_accept_146 : decode cX4_accept 146 = .ok (.aload_n 0, 1) := by decide +kernel
theorem dX4_accept_147 : decode cX4_accept 147 = .ok (.getfield 18, 3) := by decide +kernel
theorem dX4_accept_150 : decode cX4_accept 150 = .ok (.aload_n 0, 1) := by decide +kernel
theorem dX4_accept_151 : decode cX4_accept 151 = .ok (.getfield 26, 3) := by decide +kernel
theorem dX4_accept_154 : decode cX4_accept 154 = .ok (.aload_n 0, 1) := by decide +kernel
theorem dX4_accept_155 : decode cX4_accept 155 = .ok (.getfield 56, 3) := by decide +kernel
theorem dX4_accept_158 : decode cX4_accept 158 = .ok (.invokevirtual 93, 3) := by decide +kernel
theorem dX4_accept_161 : decode cX4_accept 161 = .ok (.aload_n 0, 1) := by decide +kernel
theorem dX4_accept_162 : decode cX4_accept 162 = .ok (.getfield 26, 3) := by decide +kernel
theorem dX4_accept_165 : decode cX4_accept 165 = .ok (.invokevirtual 33, 3) := by decide +kernel
theorem dX4_accept_168 : decode cX4_accept 168 = .ok (.aload_n 0, 1) := by decide +kernel
theorem dX4_accept_169 : decode cX4_accept 169 = .ok (.iconst 0, 1) := by decide +kernel
theorem dX4_accept_170 : decode cX4_accept 170 = .ok (.putfield 56, 3) := by decide +kernel
theorem dX4_accept_173 : decode cX4_accept 173 = .ok (.iconst 1, 1) := by decide +kernel
theorem dX4_accept_174 : decode cX4_accept 174 = .ok (.ireturn, 1) := by decide +kernel
theorem dX4_tear_0 : decode cX4_tear 0 = .ok (.aload_n 0, 1) := by decide +kernel
theorem dX4_tear_1 : decode cX4_tear 1 = .ok (.getfield 56, 3) := by decide +kernel
theorem dX4_tear_4 : decode cX4_tear 4 = .ok (.ifCond .le 13, 3) := by decide +kernel
theorem dX4_tear_7 : decode cX4_tear 7 = .ok (.aload_n 0, 1) := by decide +kernel
theorem dX4_tear_8 : decode cX4_tear 8 = .ok (.dup, 1) := by decide +kernel
theorem dX4_tear_9 : decode cX4_tear 9 = .ok (.getfield 53, 3) := by decide +kernel
theorem dX4_tear_12 : decode cX4_tear 12 = .ok (.iconst 1, 1) := by decide +kernel
theorem dX4_tear_13 : decode cX4_tear 13 = .ok (.iadd, 1) := by decide +kernel
theorem dX4_tear_14 : decode cX4_tear 14 = .ok (.putfield 53, 3) := by decide +kernel
theorem dX4_tear_17 : decode cX4_tear 17 = .ok (.aload_n 0, 1) := by decide +kernel
theorem dX4_tear_18 : decode cX4_tear 18 = .ok (.getfield 26, 3) := by decide +kernel
theorem dX4_tear_21 : decode cX4_tear 21 = .ok (.invokevirtual 33, 3) := by decide +kernel
theorem dX4_tear_24 : decode cX4_tear 24 = .ok (.aload_n 0, 1) := by decide +kernel
theorem dX4_tear_25 : decode cX4_tear 25 = .ok (.iconst 0, 1) := by decide +kernel
theorem dX4_tear_26 : decode cX4_tear 26 = .ok (.putfield 56, 3) := by decide +kernel
theorem dX4_tear_29 : decode cX4_tear 29 = .ok (.return_, 1) := by decide +kernel
theorem dX4_giveInto_0 : decode cX4_giveInto 0 = .ok (.aload_n 1, 1) := by decide +kernel
theorem dX4_giveInto_1 : decode cX4_giveInto 1 = .ok (.invokevirtual 33, 3) := by decide +kernel
theorem dX4_giveInto_4 : decode cX4_giveInto 4 = .ok (.aload_n 1, 1) := by decide +kernel
theorem dX4_giveInto_5 : decode cX4_giveInto 5 = .ok (.aload_n 0, 1) := by decide +kernel
theorem dX4_giveInto_6 : decode cX4_giveInto 6 = .ok (.getfield 18, 3) := by decide +kernel
theorem dX4_giveInto_9 : decode cX4_giveInto 9 = .ok (.getfield 97, 3) := by decide +kernel
theorem dX4_giveInto_12 : decode cX4_giveInto 12 = .ok (.iconst 0, 1) := by decide +kernel
theorem dX4_giveInto_13 : decode cX4_giveInto 13 = .ok (.aload_n 0, 1) := by decide +kernel
theorem dX4_giveInto_14 : decode cX4_giveInto 14 = .ok (.getfield 18, 3) := by decide +kernel
theorem dX4_giveInto_17 : decode cX4_giveInto 17 = .ok (.invokevirtual 69, 3) := by decide +kernel
theorem dX4_giveInto_20 : decode cX4_giveInto 20 = .ok (.invokevirtual 86, 3) := by decide +kernel
theorem dX4_giveInto_23 : decode cX4_giveInto 23 = .ok (.aload_n 0, 1) := by decide +kernel
theorem dX4_giveInto_24 : decode cX4_giveInto 24 = .ok (.aload_n 0, 1) := by decide +kernel
theorem dX4_giveInto_25 : decode cX4_giveInto 25 = .ok (.getfield 34, 3) := by decide +kernel
theorem dX4_giveInto_28 : decode cX4_giveInto 28 = .ok (.aload_n 0, 1) := by decide +kernel
theorem dX4_giveInto_29 : decode cX4_giveInto 29 = .ok (.getfield 38, 3) := by decide +kernel
theorem dX4_giveInto_32 : decode cX4_giveInto 32 = .ok (.aload_n 0, 1) := by decide +kernel
theorem dX4_giveInto_33 : decode cX4_giveInto 33 = .ok (.getfield 18, 3) := by decide +kernel
theorem dX4_giveInto_36 : decode cX4_giveInto 36 = .ok (.invokevirtual 100, 3) := by decide +kernel
theorem dX4_giveInto_39 : decode cX4_giveInto 39 = .ok (.iadd, 1) := by decide +kernel
theorem dX4_giveInto_40 : decode cX4_giveInto 40 = .ok (.invokestatic 103, 3) := by decide +kernel
theorem dX4_giveInto_43 : decode cX4_giveInto 43 = .ok (.putfield 38, 3) := by decide +kernel
theorem dX4_giveInto_46 : decode cX4_giveInto 46 = .ok (.aload_n 0, 1) := by decide +kernel
theorem dX4_giveInto_47 : decode cX4_giveInto 47 = .ok (.getfield 18, 3) := by decide +kernel
theorem dX4_giveInto_50 : decode cX4_giveInto 50 = .ok (.invokevirtual 73, 3) := by decide +kernel
theorem dX4_giveInto_53 : decode cX4_giveInto 53 = .ok (.aload_n 0, 1) := by decide +kernel
theorem dX4_giveInto_54 : decode cX4_giveInto 54 = .ok (.dup, 1) := by decide +kernel
theorem dX4_giveInto_55 : decode cX4_giveInto 55 = .ok (.getfield 59, 3) := by decide +kernel
theorem dX4_giveInto_58 : decode cX4_giveInto 58 = .ok (.iconst 1, 1) := by decide +kernel
theorem dX4_giveInto_59 : decode cX4_giveInto 59 = .ok (.iadd, 1) := by decide +kernel
theorem dX4_giveInto_60 : decode cX4_giveInto 60 = .ok (.putfield 59, 3) := by decide +kernel
theorem dX4_giveInto_63 : decode cX4_giveInto 63 = .ok (.return_, 1) := by decide +kernel
theorem dX5_init_0 : decode cX5_init 0 = .ok (.aload_n 0, 1) := by decide +kernel
theorem dX5_init_1 : decode cX5_init 1 = .ok (.invokespecial 3, 3) := by decide +kernel
theorem dX5_init_4 : decode cX5_init 4 = .ok (.aload_n 0, 1) := by decide +kernel
theorem dX5_init_5 : decode cX5_init 5 = .ok (.iconst 0, 1) := by decide +kernel
theorem dX5_init_6 : decode cX5_init 6 = .ok (.newarray .int, 2) := by decide +kernel
theorem dX5_init_8 : decode cX5_init 8 = .ok (.putfield 9, 3) := by decide +kernel
theorem dX5_init_11 : decode cX5_init 11 = .ok (.aload_n 0, 1) := by decide +kernel
theorem dX5_init_12 : decode cX5_init 12 = .ok (.iload_n 1, 1) := by decide +kernel
theorem dX5_init_13 : decode cX5_init 13 = .ok (.putfield 15, 3) := by decide +kernel
theorem dX5_init_16 : decode cX5_init 16 = .ok (.return_, 1) := by decide +kernel
theorem dX5_has_0 : decode cX5_has 0 = .ok (.iload_n 1, 1) := by decide +kernel
theorem dX5_has_1 : decode cX5_has 1 = .ok (.ifCond .lt 15, 3) := by decide +kernel
theorem dX5_has_4 : decode cX5_has 4 = .ok (.iload_n 1, 1) := by decide +kernel
theorem dX5_has_5 : decode cX5_has 5 = .ok (.aload_n 0, 1) := by decide +kernel
theorem dX5_has_6 : decode cX5_has 6 = .ok (.getfield 19, 3) := by decide +kernel
theorem dX5_has_9 : decode cX5_has 9 = .ok (.if_icmp .ge 7, 3) := by decide +kernel
theorem dX5_has_12 : decode cX5_has 12 = .ok (.iconst 1, 1) := by decide +kernel
theorem dX5_has_13 : decode cX5_has 13 = .ok (.goto 4, 3) := by decide +kernel
theorem dX5_has_16 : decode cX5_has 16 = .ok (.iconst 0, 1) := by decide +kernel
theorem dX5_has_17 : decode cX5_has 17 = .ok (.ireturn, 1) := by decide +kernel
theorem dX5_at_0 : decode cX5_at 0 = .ok (.aload_n 0, 1) := by decide +kernel
theorem dX5_at_1 : decode cX5_at 1 = .ok (.iload_n 1, 1) := by decide +kernel
theorem dX5_at_2 : decode cX5_at 2 = .ok (.invokevirtual 22, 3) := by decide +kernel
theorem dX5_at_5 : decode cX5_at 5 = .ok (.ifCond .eq 12, 3) := by decide +kernel
theorem dX5_at_8 : decode cX5_at 8 = .ok (.aload_n 0, 1) := by decide +kernel
theorem dX5_at_9 : decode cX5_at 9 = .ok (.getfield 9, 3) := by decide +kernel
theorem dX5_at_12 : decode cX5_at 12 = .ok (.iload_n 1, 1) := by decide +kernel
theorem dX5_at_13 : decode cX5_at 13 = .ok (.iaload, 1) := by decide +kernel
theorem dX5_at_14 : decode cX5_at 14 = .ok (.goto 4, 3) := by decide +kernel
theorem dX5_at_17 : decode cX5_at 17 = .ok (.iconst (-1), 1) := by decide +kernel
theorem dX5_at_18 : decode cX5_at 18 = .ok (.ireturn, 1) := by decide +kernel
theorem dX5_set_0 : decode cX5_set 0 = .ok (.aload_n 0, 1) := by decide +kernel
theorem dX5_set_1 : decode cX5_set 1 = .ok (.iload_n 1, 1) := by decide +kernel
theorem dX5_set_2 : decode cX5_set 2 = .ok (.invokevirtual 22, 3) := by decide +kernel
theorem dX5_set_5 : decode cX5_set 5 = .ok (.ifCond .eq 10, 3) := by decide +kernel
theorem dX5_set_8 : decode cX5_set 8 = .ok (.aload_n 0, 1) := by decide +kernel
theorem dX5_set_9 : decode cX5_set 9 = .ok (.getfield 9, 3) := by decide +kernel
theorem dX5_set_12 : decode cX5_set 12 = .ok (.iload_n 1, 1) := by decide +kernel
theorem dX5_set_13 : decode cX5_set 13 = .ok (.iload_n 2, 1) := by decide +kernel
theorem dX5_set_14 : decode cX5_set 14 = .ok (.iastore, 1) := by decide +kernel
theorem dX5_set_15 : decode cX5_set 15 = .ok (.return_, 1) := by decide +kernel
theorem dX5_clear_0 : decode cX5_clear 0 = .ok (.aload_n 0, 1) := by decide +kernel
theorem dX5_clear_1 : decode cX5_clear 1 = .ok (.iconst 0, 1) := by decide +kernel
theorem dX5_clear_2 : decode cX5_clear 2 = .ok (.putfield 19, 3) := by decide +kernel
theorem dX5_clear_5 : decode cX5_clear 5 = .ok (.return_, 1) := by decide +kernel
theorem dX5_add_0 : decode cX5_add 0 = .ok (.aload_n 0, 1) := by decide +kernel
theorem dX5_add_1 : decode cX5_add 1 = .ok (.getfield 19, 3) := by decide +kernel
theorem dX5_add_4 : decode cX5_add 4 = .ok (.aload_n 0, 1) := by decide +kernel
theorem dX5_add_5 : decode cX5_add 5 = .ok (.getfield 15, 3) := by decide +kernel
theorem dX5_add_8 : decode cX5_add 8 = .ok (.if_icmp .ge 33, 3) := by decide +kernel
theorem dX5_add_11 : decode cX5_add 11 = .ok (.aload_n 0, 1) := by decide +kernel
theorem dX5_add_12 : decode cX5_add 12 = .ok (.aload_n 0, 1) := by decide +kernel
theorem dX5_add_13 : decode cX5_add 13 = .ok (.getfield 19, 3) := by decide +kernel
theorem dX5_add_16 : decode cX5_add 16 = .ok (.iconst 1, 1) := by decide +kernel
theorem dX5_add_17 : decode cX5_add 17 = .ok (.iadd, 1) := by decide +kernel
theorem dX5_add_18 : decode cX5_add 18 = .ok (.invokevirtual 26, 3) := by decide +kernel
theorem dX5_add_21 : decode cX5_add 21 = .ok (.aload_n 0, 1) := by decide +kernel
theorem dX5_add_22 : decode cX5_add 22 = .ok (.getfield 9, 3) := by decide +kernel
theorem dX5_add_25 : decode cX5_add 25 = .ok (.aload_n 0, 1) := by decide +kernel
theorem dX5_add_26 : decode cX5_add 26 = .ok (.getfield 19, 3) := by decide +kernel
theorem dX5_add_29 : decode cX5_add 29 = .ok (.iload_n 1, 1) := by decide +kernel
theorem dX5_add_30 : decode cX5_add 30 = .ok (.iastore, 1) := by decide +kernel
theorem dX5_add_31 : decode cX5_add 31 = .ok (.aload_n 0, 1) := by decide +kernel
theorem dX5_add_32 : decode cX5_add 32 = .ok (.dup, 1) := by decide +kernel
theorem dX5_add_33 : decode cX5_add 33 = .ok (.getfield 19, 3) := by decide +kernel
theorem dX5_add_36 : decode cX5_add 36 = .ok (.iconst 1, 1) := by decide +kernel
theorem dX5_add_37 : decode cX5_add 37 = .ok (.iadd, 1) := by decide +kernel
theorem dX5_add_38 : decode cX5_add 38 = .ok (.putfield 19, 3) := by decide +kernel
theorem dX5_add_41 : decode cX5_add 41 = .ok (.return_, 1) := by decide +kernel
theorem dX5_addAll_0 : decode cX5_addAll 0 = .ok (.iload_n 2, 1) := by decide +kernel
theorem dX5_addAll_1 : decode cX5_addAll 1 = .ok (.ifCond .lt 30, 3) := by decide +kernel
theorem dX5_addAll_4 : decode cX5_addAll 4 = .ok (.iload_n 3, 1) := by decide +kernel
theorem dX5_addAll_5 : decode cX5_addAll 5 = .ok (.ifCond .le 26, 3) := by decide +kernel
theorem dX5_addAll_8 : decode cX5_addAll 8 = .ok (.iload_n 3, 1) := by decide +kernel
theorem dX5_addAll_9 : decode cX5_addAll 9 = .ok (.aload_n 1, 1) := by decide +kernel
theorem dX5_addAll_10 : decode cX5_addAll 10 = .ok (.getfield 19, 3) := by decide +kernel
theorem dX5_addAll_13 : decode cX5_addAll 13 = .ok (.iload_n 2, 1) := by decide +kernel
theorem dX5_addAll_14 : decode cX5_addAll 14 = .ok (.isub, 1) := by decide +kernel
theorem dX5_addAll_15 : decode cX5_addAll 15 = .ok (.if_icmp .gt 16, 3) := by decide +kernel
theorem dX5_addAll_18 : decode cX5_addAll 18 = .ok (.iload_n 3, 1) := by decide +kernel
theorem dX5_addAll_19 : decode cX5_addAll 19 = .ok (.aload_n 0, 1) := by decide +kernel
theorem dX5_addAll_20 : decode cX5_addAll 20 = .ok (.getfield 15, 3) := by decide +kernel
theorem dX5_addAll_23 : decode cX5_addAll 23 = .ok (.aload_n 0, 1) := by decide +kernel
theorem dX5_addAll_24 : decode cX5_addAll 24 = .ok (.getfield 19, 3) := by decide +kernel
theorem dX5_addAll_27 : decode cX5_addAll 27 = .ok (.isub, 1) := by decide +kernel
theorem dX5_addAll_28 : decode cX5_addAll 28 = .ok (.if_icmp .le 4, 3) := by decide +kernel
theorem dX5_addAll_31 : decode cX5_addAll 31 = .ok (.return_, 1) := by decide +kernel
theorem dX5_addAll_32 : decode cX5_addAll 32 = .ok (.aload_n 0, 1) := by decide +kernel
theorem dX5_addAll_33 : decode cX5_addAll 33 = .ok (.aload_n 0, 1) := by decide +kernel
theorem dX5_addAll_34 : decode cX5_addAll 34 = .ok (.getfield 19, 3) := by decide +kernel
theorem dX5_addAll_37 : decode cX5_addAll 37 = .ok (.iload_n 3, 1) := by decide +kernel
theorem dX5_addAll_38 : decode cX5_addAll 38 = .ok (.iadd, 1) := by decide +kernel
theorem dX5_addAll_39 : decode cX5_addAll 39 = .ok (.invokevirtual 26, 3) := by decide +kernel
theorem dX5_addAll_42 : decode cX5_addAll 42 = .ok (.aload_n 1, 1) := by decide +kernel
theorem dX5_addAll_43 : decode cX5_addAll 43 = .ok (.getfield 9, 3) := by decide +kernel
theorem dX5_addAll_46 : decode cX5_addAll 46 = .ok (.iload_n 2, 1) := by decide +kernel
theorem dX5_addAll_47 : decode cX5_addAll 47 = .ok (.aload_n 0, 1) := by decide +kernel
theorem dX5_addAll_48 : decode cX5_addAll 48 = .ok (.getfield 9, 3) := by decide +kernel
theorem dX5_addAll_51 : decode cX5_addAll 51 = .ok (.aload_n 0, 1) := by decide +kernel
theorem dX5_addAll_52 : decode cX5_addAll 52 = .ok (.getfield 19, 3) := by decide +kernel
theorem dX5_addAll_55 : decode cX5_addAll 55 = .ok (.iload_n 3, 1) := by decide +kernel
theorem dX5_addAll_56 : decode cX5_addAll 56 = .ok (.invokestatic 30, 3) := by decide +kernel
theorem dX5_addAll_59 : decode cX5_addAll 59 = .ok (.aload_n 0, 1) := by decide +kernel
theorem dX5_addAll_60 : decode cX5_addAll 60 = .ok (.dup, 1) := by decide +kernel
theorem dX5_addAll_61 : decode cX5_addAll 61 = .ok (.getfield 19, 3) := by decide +kernel
theorem dX5_addAll_64 : decode cX5_addAll 64 = .ok (.iload_n 3, 1) := by decide +kernel
theorem dX5_addAll_65 : decode cX5_addAll 65 = .ok (.iadd, 1) := by decide +kernel
theorem dX5_addAll_66 : decode cX5_addAll 66 = .ok (.putfield 19, 3) := by decide +kernel
theorem dX5_addAll_69 : decode cX5_addAll 69 = .ok (.return_, 1) := by decide +kernel
theorem dX5_makeRoom_0 : decode cX5_makeRoom 0 = .ok (.iload_n 1, 1) := by decide +kernel
theorem dX5_makeRoom_1 : decode cX5_makeRoom 1 = .ok (.aload_n 0, 1) := by decide +kernel
theorem dX5_makeRoom_2 : decode cX5_makeRoom 2 = .ok (.getfield 9, 3) := by decide +kernel
theorem dX5_makeRoom_5 : decode cX5_makeRoom 5 = .ok (.arraylength, 1) := by decide +kernel
theorem dX5_makeRoom_6 : decode cX5_makeRoom 6 = .ok (.if_icmp .le 48, 3) := by decide +kernel
theorem dX5_makeRoom_9 : decode cX5_makeRoom 9 = .ok (.aload_n 0, 1) := by decide +kernel
theorem dX5_makeRoom_10 : decode cX5_makeRoom 10 = .ok (.getfield 15, 3) := by decide +kernel
theorem dX5_makeRoom_13 : decode cX5_makeRoom 13 = .ok (.iload_n 1, 1) := by decide +kernel
theorem dX5_makeRoom_14 : decode cX5_makeRoom 14 = .ok (.bipush 16, 2) := by decide +kernel
theorem dX5_makeRoom_16 : decode cX5_makeRoom 16 = .ok (.iconst 4, 1) := by decide +kernel
theorem dX5_makeRoom_17 : decode cX5_makeRoom 17 = .ok (.aload_n 0, 1) := by decide +kernel
theorem dX5_makeRoom_18 : decode cX5_makeRoom 18 = .ok (.getfield 9, 3) := by decide +kernel
theorem dX5_makeRoom_21 : decode cX5_makeRoom 21 = .ok (.arraylength, 1) := by decide +kernel
theorem dX5_makeRoom_22 : decode cX5_makeRoom 22 = .ok (.imul, 1) := by decide +kernel
theorem dX5_makeRoom_23 : decode cX5_makeRoom 23 = .ok (.invokestatic 36, 3) := by decide +kernel
theorem dX5_makeRoom_26 : decode cX5_makeRoom 26 = .ok (.invokestatic 36, 3) := by decide +kernel
theorem dX5_makeRoom_29 : decode cX5_makeRoom 29 = .ok (.invokestatic 42, 3) := by decide +kernel
theorem dX5_makeRoom_32 : decode cX5_makeRoom 32 = .ok (.newarray .int, 2) := by decide +kernel
theorem dX5_makeRoom_34 : decode cX5_makeRoom 34 = .ok (.astore_n 2, 1) := by decide +kernel
theorem dX5_makeRoom_35 : decode cX5_makeRoom 35 = .ok (.aload_n 0, 1) := by decide +kernel
theorem dX5_makeRoom_36 : decode cX5_makeRoom 36 = .ok (.getfield 9, 3) := by decide +kernel
theorem dX5_makeRoom_39 : decode cX5_makeRoom 39 = .ok (.iconst 0, 1) := by decide +kernel
theorem dX5_makeRoom_40 : decode cX5_makeRoom 40 = .ok (.aload_n 2, 1) := by decide +kernel
theorem dX5_makeRoom_41 : decode cX5_makeRoom 41 = .ok (.iconst 0, 1) := by decide +kernel
theorem dX5_makeRoom_42 : decode cX5_makeRoom 42 = .ok (.aload_n 0, 1) := by decide +kernel
theorem dX5_makeRoom_43 : decode cX5_makeRoom 43 = .ok (.getfield 19, 3) := by decide +kernel
theorem dX5_makeRoom_46 : decode cX5_makeRoom 46 = .ok (.invokestatic 30, 3) := by decide +kernel
theorem dX5_makeRoom_49 : decode cX5_makeRoom 49 = .ok (.aload_n 0, 1) := by decide +kernel
theorem dX5_makeRoom_50 : decode cX5_makeRoom 50 = .ok (.aload_n 2, 1) := by decide +kernel
theorem dX5_makeRoom_51 : decode cX5_makeRoom 51 = .ok (.putfield 9, 3) := by decide +kernel
theorem dX5_makeRoom_54 : decode cX5_makeRoom 54 = .ok (.return_, 1) := by decide +kernel
theorem dX5_insertAt_0 : decode cX5_insertAt 0 = .ok (.iload_n 1, 1) := by decide +kernel
theorem dX5_insertAt_1 : decode cX5_insertAt 1 = .ok (.ifCond .lt 22, 3) := by decide +kernel
theorem dX5_insertAt_4 : decode cX5_insertAt 4 = .ok (.iload_n 1, 1) := by decide +kernel
theorem dX5_insertAt_5 : decode cX5_insertAt 5 = .ok (.aload_n 0, 1) := by decide +kernel
theorem dX5_insertAt_6 : decode cX5_insertAt 6 = .ok (.getfield 19, 3) := by decide +kernel
theorem dX5_insertAt_9 : decode cX5_insertAt 9 = .ok (.if_icmp .gt 14, 3) := by decide +kernel
theorem dX5_insertAt_12 : decode cX5_insertAt 12 = .ok (.aload_n 0, 1) := by decide +kernel
theorem dX5_insertAt_13 : decode cX5_insertAt 13 = .ok (.getfield 19, 3) := by decide +kernel
theorem dX5_insertAt_16 : decode cX5_insertAt 16 = .ok (.aload_n 0, 1) := by decide +kernel
theorem dX5_insertAt_17 : decode cX5_insertAt 17 = .ok (.getfield 15, 3) := by decide +kernel
theorem dX5_insertAt_20 : decode cX5_insertAt 20 = .ok (.if_icmp .lt 4, 3) := by decide +kernel
theorem dX5_insertAt_23 : decode cX5_insertAt 23 = .ok (.return_, 1) := by decide +kernel
theorem dX5_insertAt_24 : decode cX5_insertAt 24 = .ok (.aload_n 0, 1) := by decide +kernel
theorem dX5_insertAt_25 : decode cX5_insertAt 25 = .ok (.aload_n 0, 1) := by decide +kernel
theorem dX5_insertAt_26 : decode cX5_insertAt 26 = .ok (.getfield 19, 3) := by decide +kernel
theorem dX5_insertAt_29 : decode cX5_insertAt 29 = .ok (.iconst 1, 1) := by decide +kernel
theorem dX5_insertAt_30 : decode cX5_insertAt 30 = .ok (.iadd, 1) := by decide +kernel
theorem dX5_insertAt_31 : decode cX5_insertAt 31 = .ok (.invokevirtual 26, 3) := by decide +kernel
theorem dX5_insertAt_34 : decode cX5_insertAt 34 = .ok (.aload_n 0, 1) := by decide +kernel
theorem dX5_insertAt_35 : decode cX5_insertAt 35 = .ok (.getfield 9, 3) := by decide +kernel
theorem dX5_insertAt_38 : decode cX5_insertAt 38 = .ok (.iload_n 1, 1) := by decide +kernel
theorem dX5_insertAt_39 : decode cX5_insertAt 39 = .ok (.aload_n 0, 1) := by decide +kernel
theorem dX5_insertAt_40 : decode cX5_insertAt 40 = .ok (.getfield 9, 3) := by decide +kernel
theorem dX5_insertAt_43 : decode cX5_insertAt 43 = .ok (.iload_n 1, 1) := by decide +kernel
theorem dX5_insertAt_44 : decode cX5_insertAt 44 = .ok (.iconst 1, 1) := by decide +kernel
theorem dX5_insertAt_45 : decode cX5_insertAt 45 = .ok (.iadd, 1) := by decide +kernel
theorem dX5_insertAt_46 : decode cX5_insertAt 46 = .ok (.aload_n 0, 1) := by decide +kernel
theorem dX5_insertAt_47 : decode cX5_insertAt 47 = .ok (.getfield 19, 3) := by decide +kernel
theorem dX5_insertAt_50 : decode cX5_insertAt 50 = .ok (.iload_n 1, 1) := by decide +kernel
theorem dX5_insertAt_51 : decode cX5_insertAt 51 = .ok (.isub, 1) := by decide +kernel
theorem dX5_insertAt_52 : decode cX5_insertAt 52 = .ok (.invokestatic 30, 3) := by decide +kernel
theorem dX5_insertAt_55 : decode cX5_insertAt 55 = .ok (.aload_n 0, 1) := by decide +kernel
theorem dX5_insertAt_56 : decode cX5_insertAt 56 = .ok (.getfield 9, 3) := by decide +kernel
theorem dX5_insertAt_59 : decode cX5_insertAt 59 = .ok (.iload_n 1, 1) := by decide +kernel
theorem dX5_insertAt_60 : decode cX5_insertAt 60 = .ok (.iload_n 2, 1) := by decide +kernel
theorem dX5_insertAt_61 : decode cX5_insertAt 61 = .ok (.iastore, 1) := by decide +kernel
theorem dX5_insertAt_62 : decode cX5_insertAt 62 = .ok (.aload_n 0, 1) := by decide +kernel
theorem dX5_insertAt_63 : decode cX5_insertAt 63 = .ok (.dup, 1) := by decide +kernel
theorem dX5_insertAt_64 : decode cX5_insertAt 64 = .ok (.getfield 19, 3) := by decide +kernel
theorem dX5_insertAt_67 : decode cX5_insertAt 67 = .ok (.iconst 1, 1) := by decide +kernel
theorem dX5_insertAt_68 : decode cX5_insertAt 68 = .ok (.iadd, 1) := by decide +kernel
theorem dX5_insertAt_69 : decode cX5_insertAt 69 = .ok (.putfield 19, 3) := by decide +kernel
theorem dX5_insertAt_72 : decode cX5_insertAt 72 = .ok (.return_, 1) := by decide +kernel
theorem dX5_removeAt_0 : decode cX5_removeAt 0 = .ok (.aload_n 0, 1) := by decide +kernel
theorem dX5_removeAt_1 : decode cX5_removeAt 1 = .ok (.iload_n 1, 1) := by decide +kernel
theorem dX5_removeAt_2 : decode cX5_removeAt 2 = .ok (.invokevirtual 22, 3) := by decide +kernel
theorem dX5_removeAt_5 : decode cX5_removeAt 5 = .ok (.ifCond .eq 36, 3) := by decide +kernel
theorem dX5_removeAt_8 : decode cX5_removeAt 8 = .ok (.aload_n 0, 1) := by decide +kernel
theorem dX5_removeAt_9 : decode cX5_removeAt 9 = .ok (.getfield 9, 3) := by decide +kernel
theorem dX5_removeAt_12 : decode cX5_removeAt 12 = .ok (.iload_n 1, 1) := by decide +kernel
theorem dX5_removeAt_13 : decode cX5_removeAt 13 = .ok (.iconst 1, 1) := by decide +kernel
theorem dX5_removeAt_14 : decode cX5_removeAt 14 = .ok (.iadd, 1) := by decide +kernel
theorem dX5_removeAt_15 : decode cX5_removeAt 15 = .ok (.aload_n 0, 1) := by decide +kernel
theorem dX5_removeAt_16 : decode cX5_removeAt 16 = .ok (.getfield 9, 3) := by decide +kernel
theorem dX5_removeAt_19 : decode cX5_removeAt 19 = .ok (.iload_n 1, 1) := by decide +kernel
theorem dX5_removeAt_20 : decode cX5_removeAt 20 = .ok (.aload_n 0, 1) := by decide +kernel
theorem dX5_removeAt_21 : decode cX5_removeAt 21 = .ok (.getfield 19, 3) := by decide +kernel
theorem dX5_removeAt_24 : decode cX5_removeAt 24 = .ok (.iload_n 1, 1) := by decide +kernel
theorem dX5_removeAt_25 : decode cX5_removeAt 25 = .ok (.isub, 1) := by decide +kernel
theorem dX5_removeAt_26 : decode cX5_removeAt 26 = .ok (.iconst 1, 1) := by decide +kernel
theorem dX5_removeAt_27 : decode cX5_removeAt 27 = .ok (.isub, 1) := by decide +kernel
theorem dX5_removeAt_28 : decode cX5_removeAt 28 = .ok (.invokestatic 30, 3) := by decide +kernel
theorem dX5_removeAt_31 : decode cX5_removeAt 31 = .ok (.aload_n 0, 1) := by decide +kernel
theorem dX5_removeAt_32 : decode cX5_removeAt 32 = .ok (.dup, 1) := by decide +kernel
theorem dX5_removeAt_33 : decode cX5_removeAt 33 = .ok (.getfield 19, 3) := by decide +kernel
theorem dX5_removeAt_36 : decode cX5_removeAt 36 = .ok (.iconst 1, 1) := by decide +kernel
theorem dX5_removeAt_37 : decode cX5_removeAt 37 = .ok (.isub, 1) := by decide +kernel
theorem dX5_removeAt_38 : decode cX5_removeAt 38 = .ok (.putfield 19, 3) := by decide +kernel
theorem dX5_removeAt_41 : decode cX5_removeAt 41 = .ok (.return_, 1) := by decide +kernel
theorem dX5_dropFirst_0 : decode cX5_dropFirst 0 = .ok (.iload_n 1, 1) := by decide +kernel
theorem dX5_dropFirst_1 : decode cX5_dropFirst 1 = .ok (.ifCond .le 40, 3) := by decide +kernel
theorem dX5_dropFirst_4 : decode cX5_dropFirst 4 = .ok (.iload_n 1, 1) := by decide +kernel
theorem dX5_dropFirst_5 : decode cX5_dropFirst 5 = .ok (.aload_n 0, 1) := by decide +kernel
theorem dX5_dropFirst_6 : decode cX5_dropFirst 6 = .ok (.getfield 19, 3) := by decide +kernel
theorem dX5_dropFirst_9 : decode cX5_dropFirst 9 = .ok (.if_icmp .gt 32, 3) := by decide +kernel
theorem dX5_dropFirst_12 : decode cX5_dropFirst 12 = .ok (.aload_n 0, 1) := by decide +kernel
theorem dX5_dropFirst_13 : decode cX5_dropFirst 13 = .ok (.getfield 9, 3) := by decide +kernel
theorem dX5_dropFirst_16 : decode cX5_dropFirst 16 = .ok (.iload_n 1, 1) := by decide +kernel
theorem dX5_dropFirst_17 : decode cX5_dropFirst 17 = .ok (.aload_n 0, 1) := by decide +kernel
theorem dX5_dropFirst_18 : decode cX5_dropFirst 18 = .ok (.getfield 9, 3) := by decide +kernel
theorem dX5_dropFirst_21 : decode cX5_dropFirst 21 = .ok (.iconst 0, 1) := by decide +kernel
theorem dX5_dropFirst_22 : decode cX5_dropFirst 22 = .ok (.aload_n 0, 1) := by decide +kernel
theorem dX5_dropFirst_23 : decode cX5_dropFirst 23 = .ok (.getfield 19, 3) := by decide +kernel
theorem dX5_dropFirst_26 : decode cX5_dropFirst 26 = .ok (.iload_n 1, 1) := by decide +kernel
theorem dX5_dropFirst_27 : decode cX5_dropFirst 27 = .ok (.isub, 1) := by decide +kernel
theorem dX5_dropFirst_28 : decode cX5_dropFirst 28 = .ok (.invokestatic 30, 3) := by decide +kernel
theorem dX5_dropFirst_31 : decode cX5_dropFirst 31 = .ok (.aload_n 0, 1) := by decide +kernel
theorem dX5_dropFirst_32 : decode cX5_dropFirst 32 = .ok (.dup, 1) := by decide +kernel
theorem dX5_dropFirst_33 : decode cX5_dropFirst 33 = .ok (.getfield 19, 3) := by decide +kernel
theorem dX5_dropFirst_36 : decode cX5_dropFirst 36 = .ok (.iload_n 1, 1) := by decide +kernel
theorem dX5_dropFirst_37 : decode cX5_dropFirst 37 = .ok (.isub, 1) := by decide +kernel
theorem dX5_dropFirst_38 : decode cX5_dropFirst 38 = .ok (.putfield 19, 3) := by decide +kernel
theorem dX5_dropFirst_41 : decode cX5_dropFirst 41 = .ok (.return_, 1) := by decide +kernel
theorem dX5_copyFrom_0 : decode cX5_copyFrom 0 = .ok (.aload_n 0, 1) := by decide +kernel
theorem dX5_copyFrom_1 : decode cX5_copyFrom 1 = .ok (.getfield 15, 3) := by decide +kernel
theorem dX5_copyFrom_4 : decode cX5_copyFrom 4 = .ok (.aload_n 1, 1) := by decide +kernel
theorem dX5_copyFrom_5 : decode cX5_copyFrom 5 = .ok (.getfield 19, 3) := by decide +kernel
theorem dX5_copyFrom_8 : decode cX5_copyFrom 8 = .ok (.invokestatic 42, 3) := by decide +kernel
theorem dX5_copyFrom_11 : decode cX5_copyFrom 11 = .ok (.istore_n 2, 1) := by decide +kernel
theorem dX5_copyFrom_12 : decode cX5_copyFrom 12 = .ok (.aload_n 0, 1) := by decide +kernel
theorem dX5_copyFrom_13 : decode cX5_copyFrom 13 = .ok (.iconst 0, 1) := by decide +kernel
theorem dX5_copyFrom_14 : decode cX5_copyFrom 14 = .ok (.putfield 19, 3) := by decide +kernel
theorem dX5_copyFrom_17 : decode cX5_copyFrom 17 = .ok (.aload_n 0, 1) := by decide +kernel
theorem dX5_copyFrom_18 : decode cX5_copyFrom 18 = .ok (.iload_n 2, 1) := by decide +kernel
theorem dX5_copyFrom_19 : decode cX5_copyFrom 19 = .ok (.invokevirtual 26, 3) := by decide +kernel
theorem dX5_copyFrom_22 : decode cX5_copyFrom 22 = .ok (.aload_n 1, 1) := by decide +kernel
theorem dX5_copyFrom_23 : decode cX5_copyFrom 23 = .ok (.getfield 9, 3) := by decide +kernel
theorem dX5_copyFrom_26 : decode cX5_copyFrom 26 = .ok (.iconst 0, 1) := by decide +kernel
theorem dX5_copyFrom_27 : decode cX5_copyFrom 27 = .ok (.aload_n 0, 1) := by decide +kernel
theorem dX5_copyFrom_28 : decode cX5_copyFrom 28 = .ok (.getfield 9, 3) := by decide +kernel
theorem dX5_copyFrom_31 : decode cX5_copyFrom 31 = .ok (.iconst 0, 1) := by decide +kernel
theorem dX5_copyFrom_32 : decode cX5_copyFrom 32 = .ok (.iload_n 2, 1) := by decide +kernel
theorem dX5_copyFrom_33 : decode cX5_copyFrom 33 = .ok (.invokestatic 30, 3) := by decide +kernel
theorem dX5_copyFrom_36 : decode cX5_copyFrom 36 = .ok (.aload_n 0, 1) := by decide +kernel
theorem dX5_copyFrom_37 : decode cX5_copyFrom 37 = .ok (.iload_n 2, 1) := by decide +kernel
theorem dX5_copyFrom_38 : decode cX5_copyFrom 38 = .ok (.putfield 19, 3) := by decide +kernel
theorem dX5_copyFrom_41 : decode cX5_copyFrom 41 = .ok (.return_, 1) := by decide +kernel
theorem dX5_greatest_0 : decode cX5_greatest 0 = .ok (.iconst (-1), 1) := by decide +kernel
theorem dX5_greatest_1 : decode cX5_greatest 1 = .ok (.istore_n 1, 1) := by decide +kernel
theorem dX5_greatest_2 : decode cX5_greatest 2 = .ok (.iconst 0, 1) := by decide +kernel
theorem dX5_greatest_3 : decode cX5_greatest 3 = .ok (.istore_n 2, 1) := by decide +kernel
theorem dX5_greatest_4 : decode cX5_greatest 4 = .ok (.iload_n 2, 1) := by decide +kernel
theorem dX5_greatest_5 : decode cX5_greatest 5 = .ok (.aload_n 0, 1) := by decide +kernel
theorem dX5_greatest_6 : decode cX5_greatest 6 = .ok (.getfield 19, 3) := by decide +kernel
theorem dX5_greatest_9 : decode cX5_greatest 9 = .ok (.if_icmp .ge 20, 3) := by decide +kernel
theorem dX5_greatest_12 : decode cX5_greatest 12 = .ok (.iload_n 1, 1) := by decide +kernel
theorem dX5_greatest_13 : decode cX5_greatest 13 = .ok (.aload_n 0, 1) := by decide +kernel
theorem dX5_greatest_14 : decode cX5_greatest 14 = .ok (.getfield 9, 3) := by decide +kernel
theorem dX5_greatest_17 : decode cX5_greatest 17 = .ok (.iload_n 2, 1) := by decide +kernel
theorem dX5_greatest_18 : decode cX5_greatest 18 = .ok (.iaload, 1) := by decide +kernel
theorem dX5_greatest_19 : decode cX5_greatest 19 = .ok (.invokestatic 36, 3) := by decide +kernel
theorem dX5_greatest_22 : decode cX5_greatest 22 = .ok (.istore_n 1, 1) := by decide +kernel
theorem dX5_greatest_23 : decode cX5_greatest 23 = .ok (.iinc 2 1, 3) := by decide +kernel
theorem dX5_greatest_26 : decode cX5_greatest 26 = .ok (.goto (-22), 3) := by decide +kernel
theorem dX5_greatest_29 : decode cX5_greatest 29 = .ok (.iload_n 1, 1) := by decide +kernel
theorem dX5_greatest_30 : decode cX5_greatest 30 = .ok (.ireturn, 1) := by decide +kernel
theorem dX6_init_0 : decode cX6_init 0 = .ok (.aload_n 0, 1) := by decide +kernel
theorem dX6_init_1 : decode cX6_init 1 = .ok (.invokespecial 3, 3) := by decide +kernel
theorem dX6_init_4 : decode cX6_init 4 = .ok (.aload_n 0, 1) := by decide +kernel
theorem dX6_init_5 : decode cX6_init 5 = .ok (.new 9, 3) := by decide +kernel
theorem dX6_init_8 : decode cX6_init 8 = .ok (.dup, 1) := by decide +kernel
theorem dX6_init_9 : decode cX6_init 9 = .ok (.invokespecial 11, 3) := by decide +kernel
theorem dX6_init_12 : decode cX6_init 12 = .ok (.putfield 12, 3) := by decide +kernel
theorem dX6_init_15 : decode cX6_init 15 = .ok (.aload_n 0, 1) := by decide +kernel
theorem dX6_init_16 : decode cX6_init 16 = .ok (.iconst 4, 1) := by decide +kernel
theorem dX6_init_17 : decode cX6_init 17 = .ok (.newarray .int, 2) := by decide +kernel
theorem dX6_init_19 : decode cX6_init 19 = .ok (.putfield 18, 3) := by decide +kernel
theorem dX6_init_22 : decode cX6_init 22 = .ok (.aload_n 0, 1) := by decide +kernel
theorem dX6_init_23 : decode cX6_init 23 = .ok (.iconst 0, 1) := by decide +kernel
theorem dX6_init_24 : decode cX6_init 24 = .ok (.putfield 22, 3) := by decide +kernel
theorem dX6_init_27 : decode cX6_init 27 = .ok (.aload_n 0, 1) := by decide +kernel
theorem dX6_init_28 : decode cX6_init 28 = .ok (.iconst 1, 1) := by decide +kernel
theorem dX6_init_29 : decode cX6_init 29 = .ok (.putfield 26, 3) := by decide +kernel
theorem dX6_init_32 : decode cX6_init 32 = .ok (.aload_n 0, 1) := by decide +kernel
theorem dX6_init_33 : decode cX6_init 33 = .ok (.bipush 16, 2) := by decide +kernel
theorem dX6_init_35 : decode cX6_init 35 = .ok (.putfield 29, 3) := by decide +kernel
theorem dX6_init_38 : decode cX6_init 38 = .ok (.return_, 1) := by decide +kernel
theorem dX6_forget_0 : decode cX6_forget 0 = .ok (.aload_n 0, 1) := by decide +kernel
theorem dX6_forget_1 : decode cX6_forget 1 = .ok (.getfield 12, 3) := by decide +kernel
theorem dX6_forget_4 : decode cX6_forget 4 = .ok (.bipush 20, 2) := by decide +kernel
theorem dX6_forget_6 : decode cX6_forget 6 = .ok (.putfield 32, 3) := by decide +kernel
theorem dX6_forget_9 : decode cX6_forget 9 = .ok (.aload_n 0, 1) := by decide +kernel
theorem dX6_forget_10 : decode cX6_forget 10 = .ok (.getfield 12, 3) := by decide +kernel
theorem dX6_forget_13 : decode cX6_forget 13 = .ok (.bipush 10, 2) := by decide +kernel
theorem dX6_forget_15 : decode cX6_forget 15 = .ok (.putfield 35, 3) := by decide +kernel
theorem dX6_forget_18 : decode cX6_forget 18 = .ok (.aload_n 0, 1) := by decide +kernel
theorem dX6_forget_19 : decode cX6_forget 19 = .ok (.iconst 0, 1) := by decide +kernel
theorem dX6_forget_20 : decode cX6_forget 20 = .ok (.putfield 22, 3) := by decide +kernel
theorem dX6_forget_23 : decode cX6_forget 23 = .ok (.aload_n 0, 1) := by decide +kernel
theorem dX6_forget_24 : decode cX6_forget 24 = .ok (.iconst 1, 1) := by decide +kernel
theorem dX6_forget_25 : decode cX6_forget 25 = .ok (.putfield 26, 3) := by decide +kernel
theorem dX6_forget_28 : decode cX6_forget 28 = .ok (.aload_n 0, 1) := by decide +kernel
theorem dX6_forget_29 : decode cX6_forget 29 = .ok (.bipush 16, 2) := by decide +kernel
theorem dX6_forget_31 : decode cX6_forget 31 = .ok (.putfield 29, 3) := by decide +kernel
theorem dX6_forget_34 : decode cX6_forget 34 = .ok (.aload_n 0, 1) := by decide +kernel
theorem dX6_forget_35 : decode cX6_forget 35 = .ok (.iconst 0, 1) := by decide +kernel
theorem dX6_forget_36 : decode cX6_forget 36 = .ok (.putfield 38, 3) := by decide +kernel
theorem dX6_forget_39 : decode cX6_forget 39 = .ok (.return_, 1) := by decide +kernel
theorem dX6_copyFrom_0 : decode cX6_copyFrom 0 = .ok (.aload_n 0, 1) := by decide +kernel
theorem dX6_copyFrom_1 : decode cX6_copyFrom 1 = .ok (.getfield 12, 3) := by decide +kernel
theorem dX6_copyFrom_4 : decode cX6_copyFrom 4 = .ok (.aload_n 1, 1) := by decide +kernel
theorem dX6_copyFrom_5 : decode cX6_copyFrom 5 = .ok (.getfield 12, 3) := by decide +kernel
theorem dX6_copyFrom_8 : decode cX6_copyFrom 8 = .ok (.getfield 32, 3) := by decide +kernel
theorem dX6_copyFrom_11 : decode cX6_copyFrom 11 = .ok (.putfield 32, 3) := by decide +kernel
theorem dX6_copyFrom_14 : decode cX6_copyFrom 14 = .ok (.aload_n 0, 1) := by decide +kernel
theorem dX6_copyFrom_15 : decode cX6_copyFrom 15 = .ok (.getfield 12, 3) := by decide +kernel
theorem dX6_copyFrom_18 : decode cX6_copyFrom 18 = .ok (.aload_n 1, 1) := by decide +kernel
theorem dX6_copyFrom_19 : decode cX6_copyFrom 19 = .ok (.getfield 12, 3) := by decide +kernel
theorem dX6_copyFrom_22 : decode cX6_copyFrom 22 = .ok (.getfield 35, 3) := by decide +kernel
theorem dX6_copyFrom_25 : decode cX6_copyFrom 25 = .ok (.putfield 35, 3) := by decide +kernel
theorem dX6_copyFrom_28 : decode cX6_copyFrom 28 = .ok (.aload_n 0, 1) := by decide +kernel
theorem dX6_copyFrom_29 : decode cX6_copyFrom 29 = .ok (.aload_n 1, 1) := by decide +kernel
theorem dX6_copyFrom_30 : decode cX6_copyFrom 30 = .ok (.getfield 22, 3) := by decide +kernel
theorem dX6_copyFrom_33 : decode cX6_copyFrom 33 = .ok (.putfield 22, 3) := by decide +kernel
theorem dX6_copyFrom_36 : decode cX6_copyFrom 36 = .ok (.aload_n 0, 1) := by decide +kernel
theorem dX6_copyFrom_37 : decode cX6_copyFrom 37 = .ok (.aload_n 1, 1) := by decide +kernel
theorem dX6_copyFrom_38 : decode cX6_copyFrom 38 = .ok (.getfield 26, 3) := by decide +kernel
theorem dX6_copyFrom_41 : decode cX6_copyFrom 41 = .ok (.putfield 26, 3) := by decide +kernel
theorem dX6_copyFrom_44 : decode cX6_copyFrom 44 = .ok (.aload_n 0, 1) := by decide +kernel
theorem dX6_copyFrom_45 : decode cX6_copyFrom 45 = .ok (.aload_n 1, 1) := by decide +kernel
theorem dX6_copyFrom_46 : decode cX6_copyFrom 46 = .ok (.getfield 29, 3) := by decide +kernel
theorem dX6_copyFrom_49 : decode cX6_copyFrom 49 = .ok (.putfield 29, 3) := by decide +kernel
theorem dX6_copyFrom_52 : decode cX6_copyFrom 52 = .ok (.aload_n 0, 1) := by decide +kernel
theorem dX6_copyFrom_53 : decode cX6_copyFrom 53 = .ok (.aload_n 1, 1) := by decide +kernel
theorem dX6_copyFrom_54 : decode cX6_copyFrom 54 = .ok (.getfield 38, 3) := by decide +kernel
theorem dX6_copyFrom_57 : decode cX6_copyFrom 57 = .ok (.putfield 38, 3) := by decide +kernel
theorem dX6_copyFrom_60 : decode cX6_copyFrom 60 = .ok (.aload_n 1, 1) := by decide +kernel
theorem dX6_copyFrom_61 : decode cX6_copyFrom 61 = .ok (.getfield 18, 3) := by decide +kernel
theorem dX6_copyFrom_64 : decode cX6_copyFrom 64 = .ok (.iconst 0, 1) := by decide +kernel
theorem dX6_copyFrom_65 : decode cX6_copyFrom 65 = .ok (.aload_n 0, 1) := by decide +kernel
theorem dX6_copyFrom_66 : decode cX6_copyFrom 66 = .ok (.getfield 18, 3) := by decide +kernel
theorem dX6_copyFrom_69 : decode cX6_copyFrom 69 = .ok (.iconst 0, 1) := by decide +kernel
theorem dX6_copyFrom_70 : decode cX6_copyFrom 70 = .ok (.iconst 4, 1) := by decide +kernel
theorem dX6_copyFrom_71 : decode cX6_copyFrom 71 = .ok (.invokestatic 41, 3) := by decide +kernel
theorem dX6_copyFrom_74 : decode cX6_copyFrom 74 = .ok (.return_, 1) := by decide +kernel
theorem dX6_addPort_0 : decode cX6_addPort 0 = .ok (.aload_n 0, 1) := by decide +kernel
theorem dX6_addPort_1 : decode cX6_addPort 1 = .ok (.getfield 38, 3) := by decide +kernel
theorem dX6_addPort_4 : decode cX6_addPort 4 = .ok (.ifCond .lt 31, 3) := by decide +kernel
theorem dX6_addPort_7 : decode cX6_addPort 7 = .ok (.aload_n 0, 1) := by decide +kernel
theorem dX6_addPort_8 : decode cX6_addPort 8 = .ok (.getfield 38, 3) := by decide +kernel
theorem dX6_addPort_11 : decode cX6_addPort 11 = .ok (.iconst 4, 1) := by decide +kernel
theorem dX6_addPort_12 : decode cX6_addPort 12 = .ok (.if_icmp .ge 23, 3) := by decide +kernel
theorem dX6_addPort_15 : decode cX6_addPort 15 = .ok (.aload_n 0, 1) := by decide +kernel
theorem dX6_addPort_16 : decode cX6_addPort 16 = .ok (.getfield 18, 3) := by decide +kernel
theorem dX6_addPort_19 : decode cX6_addPort 19 = .ok (.aload_n 0, 1) := by decide +kernel
theorem dX6_addPort_20 : decode cX6_addPort 20 = .ok (.getfield 38, 3) := by decide +kernel
theorem dX6_addPort_23 : decode cX6_addPort 23 = .ok (.iload_n 1, 1) := by decide +kernel
theorem dX6_addPort_24 : decode cX6_addPort 24 = .ok (.iastore, 1) := by decide +kernel
theorem dX6_addPort_25 : decode cX6_addPort 25 = .ok (.aload_n 0, 1) := by decide +kernel
theorem dX6_addPort_26 : decode cX6_addPort 26 = .ok (.dup, 1) := by decide +kernel
theorem dX6_addPort_27 : decode cX6_addPort 27 = .ok (.getfield 38, 3) := by decide +kernel
theorem dX6_addPort_30 : decode cX6_addPort 30 = .ok (.iconst 1, 1) := by decide +kernel
theorem dX6_addPort_31 : decode cX6_addPort 31 = .ok (.iadd, 1) := by decide +kernel
theorem dX6_addPort_32 : decode cX6_addPort 32 = .ok (.putfield 38, 3) := by decide +kernel
theorem dX6_addPort_35 : decode cX6_addPort 35 = .ok (.return_, 1) := by decide +kernel
theorem dX6_checkBytes_0 : decode cX6_checkBytes 0 = .ok (.aload_n 0, 1) := by decide +kernel
theorem dX6_checkBytes_1 : decode cX6_checkBytes 1 = .ok (.getfield 26, 3) := by decide +kernel
theorem dX6_checkBytes_4 : decode cX6_checkBytes 4 = .ok (.ifCond .ne 7, 3) := by decide +kernel
theorem dX6_checkBytes_7 : decode cX6_checkBytes 7 = .ok (.iconst 0, 1) := by decide +kernel
theorem dX6_checkBytes_8 : decode cX6_checkBytes 8 = .ok (.goto 4, 3) := by decide +kernel
theorem dX6_checkBytes_11 : decode cX6_checkBytes 11 = .ok (.iconst 1, 1) := by decide +kernel
theorem dX6_checkBytes_12 : decode cX6_checkBytes 12 = .ok (.ireturn, 1) := by decide +kernel
theorem dX6_widestFrame_0 : decode cX6_widestFrame 0 = .ok (.aload_n 0, 1) := by decide +kernel
theorem dX6_widestFrame_1 : decode cX6_widestFrame 1 = .ok (.getfield 12, 3) := by decide +kernel
theorem dX6_widestFrame_4 : decode cX6_widestFrame 4 = .ok (.iconst 1, 1) := by decide +kernel
theorem dX6_widestFrame_5 : decode cX6_widestFrame 5 = .ok (.iload_n 1, 1) := by decide +kernel
theorem dX6_widestFrame_6 : decode cX6_widestFrame 6 = .ok (.iadd, 1) := by decide +kernel
theorem dX6_widestFrame_7 : decode cX6_widestFrame 7 = .ok (.aload_n 0, 1) := by decide +kernel
theorem dX6_widestFrame_8 : decode cX6_widestFrame 8 = .ok (.invokevirtual 47, 3) := by decide +kernel
theorem dX6_widestFrame_11 : decode cX6_widestFrame 11 = .ok (.iadd, 1) := by decide +kernel
theorem dX6_widestFrame_12 : decode cX6_widestFrame 12 = .ok (.invokevirtual 51, 3) := by decide +kernel
theorem dX6_widestFrame_15 : decode cX6_widestFrame 15 = .ok (.iconst 1, 1) := by decide +kernel
theorem dX6_widestFrame_16 : decode cX6_widestFrame 16 = .ok (.iadd, 1) := by decide +kernel
theorem dX6_widestFrame_17 : decode cX6_widestFrame 17 = .ok (.ireturn, 1) := by decide +kernel
theorem dX7_init_0 : decode cX7_init 0 = .ok (.aload_n 0, 1) := by decide +kernel
theorem dX7_init_1 : decode cX7_init 1 = .ok (.invokespecial 3, 3) := by decide +kernel
theorem dX7_init_4 : decode cX7_init 4 = .ok (.aload_n 0, 1) := by decide +kernel
theorem dX7_init_5 : decode cX7_init 5 = .ok (.new 9, 3) := by decide +kernel
theorem dX7_init_8 : decode cX7_init 8 = .ok (.dup, 1) := by decide +kernel
theorem dX7_init_9 : decode cX7_init 9 = .ok (.sipush 600, 3) := by decide +kernel
theorem dX7_init_12 : decode cX7_init 12 = .ok (.invokespecial 11, 3) := by decide +kernel
theorem dX7_init_15 : decode cX7_init 15 = .ok (.putfield 14, 3) := by decide +kernel
theorem dX7_init_18 : decode cX7_init 18 = .ok (.aload_n 0, 1) := by decide +kernel
theorem dX7_init_19 : decode cX7_init 19 = .ok (.new 9, 3) := by decide +kernel
theorem dX7_init_22 : decode cX7_init 22 = .ok (.dup, 1) := by decide +kernel
theorem dX7_init_23 : decode cX7_init 23 = .ok (.sipush 200, 3) := by decide +kernel
theorem dX7_init_26 : decode cX7_init 26 = .ok (.invokespecial 11, 3) := by decide +kernel
theorem dX7_init_29 : decode cX7_init 29 = .ok (.putfield 20, 3) := by decide +kernel
theorem dX7_init_32 : decode cX7_init 32 = .ok (.aload_n 0, 1) := by decide +kernel
theorem dX7_init_33 : decode cX7_init 33 = .ok (.new 9, 3) := by decide +kernel
theorem dX7_init_36 : decode cX7_init 36 = .ok (.dup, 1) := by decide +kernel
theorem dX7_init_37 : decode cX7_init 37 = .ok (.sipush 200, 3) := by decide +kernel
theorem dX7_init_40 : decode cX7_init 40 = .ok (.invokespecial 11, 3) := by decide +kernel
theorem dX7_init_43 : decode cX7_init 43 = .ok (.putfield 23, 3) := by decide +kernel
theorem dX7_init_46 : decode cX7_init 46 = .ok (.aload_n 0, 1) := by decide +kernel
theorem dX7_init_47 : decode cX7_init 47 = .ok (.iconst (-1), 1) := by decide +kernel
theorem dX7_init_48 : decode cX7_init 48 = .ok (.putfield 26, 3) := by decide +kernel
theorem dX7_init_51 : decode cX7_init 51 = .ok (.aload_n 0, 1) := by decide +kernel
theorem dX7_init_52 : decode cX7_init 52 = .ok (.iconst 4, 1) := by decide +kernel
theorem dX7_init_53 : decode cX7_init 53 = .ok (.anewarray 30, 3) := by decide +kernel
theorem dX7_init_56 : decode cX7_init 56 = .ok (.putfield 32, 3) := by decide +kernel
theorem dX7_init_59 : decode cX7_init 59 = .ok (.iconst 0, 1) := by decide +kernel
theorem dX7_init_60 : decode cX7_init 60 = .ok (.istore_n 1, 1) := by decide +kernel
theorem dX7_init_61 : decode cX7_init 61 = .ok (.iload_n 1, 1) := by decide +kernel
theorem dX7_init_62 : decode cX7_init 62 = .ok (.iconst 4, 1) := by decide +kernel
theorem dX7_init_63 : decode cX7_init 63 = .ok (.if_icmp .ge 22, 3) := by decide +kernel
theorem dX7_init_66 : decode cX7_init 66 = .ok (.aload_n 0, 1) := by decide +kernel
theorem dX7_init_67 : decode cX7_init 67 = .ok (.getfield 32, 3) := by decide +kernel
theorem dX7_init_70 : decode cX7_init 70 = .ok (.iload_n 1, 1) := by decide +kernel
theorem dX7_init_71 : decode cX7_init 71 = .ok (.new 30, 3) := by decide +kernel
theorem dX7_init_74 : decode cX7_init 74 = .ok (.dup, 1) := by decide +kernel
theorem dX7_init_75 : decode cX7_init 75 = .ok (.invokespecial 36, 3) := by decide +kernel
theorem dX7_init_78 : decode cX7_init 78 = .ok (.aastore, 1) := by decide +kernel
theorem dX7_init_79 : decode cX7_init 79 = .ok (.iinc 1 1, 3) := by decide +kernel
theorem dX7_init_82 : decode cX7_init 82 = .ok (.goto (-21), 3) := by decide +kernel
theorem dX7_init_85 : decode cX7_init 85 = .ok (.return_, 1) := by decide +kernel
theorem dX7_reset_0 : decode cX7_reset 0 = .ok (.aload_n 0, 1) := by decide +kernel
theorem dX7_reset_1 : decode cX7_reset 1 = .ok (.getfield 14, 3) := by decide +kernel
theorem dX7_reset_4 : decode cX7_reset 4 = .ok (.invokevirtual 37, 3) := by decide +kernel
theorem dX7_reset_7 : decode cX7_reset 7 = .ok (.aload_n 0, 1) := by decide +kernel
theorem dX7_reset_8 : decode cX7_reset 8 = .ok (.getfield 20, 3) := by decide +kernel
theorem dX7_reset_11 : decode cX7_reset 11 = .ok (.invokevirtual 37, 3) := by decide +kernel
theorem dX7_reset_14 : decode cX7_reset 14 = .ok (.aload_n 0, 1) := by decide +kernel
theorem dX7_reset_15 : decode cX7_reset 15 = .ok (.getfield 23, 3) := by decide +kernel
theorem dX7_reset_18 : decode cX7_reset 18 = .ok (.invokevirtual 37, 3) := by decide +kernel
theorem dX7_reset_21 : decode cX7_reset 21 = .ok (.aload_n 0, 1) := by decide +kernel
theorem dX7_reset_22 : decode cX7_reset 22 = .ok (.iconst 0, 1) := by decide +kernel
theorem dX7_reset_23 : decode cX7_reset 23 = .ok (.putfield 40, 3) := by decide +kernel
theorem dX7_reset_26 : decode cX7_reset 26 = .ok (.aload_n 0, 1) := by decide +kernel
theorem dX7_reset_27 : decode cX7_reset 27 = .ok (.iconst (-1), 1) := by decide +kernel
theorem dX7_reset_28 : decode cX7_reset 28 = .ok (.putfield 26, 3) := by decide +kernel
theorem dX7_reset_31 : decode cX7_reset 31 = .ok (.aload_n 0, 1) := by decide +kernel
theorem dX7_reset_32 : decode cX7_reset 32 = .ok (.iconst 0, 1) := by decide +kernel
theorem dX7_reset_33 : decode cX7_reset 33 = .ok (.putfield 43, 3) := by decide +kernel
theorem dX7_reset_36 : decode cX7_reset 36 = .ok (.aload_n 0, 1) := by decide +kernel
theorem dX7_reset_37 : decode cX7_reset 37 = .ok (.aload_n 1, 1) := by decide +kernel
theorem dX7_reset_38 : decode cX7_reset 38 = .ok (.getfield 47, 3) := by decide +kernel
theorem dX7_reset_41 : decode cX7_reset 41 = .ok (.putfield 51, 3) := by decide +kernel
theorem dX7_reset_44 : decode cX7_reset 44 = .ok (.iconst 0, 1) := by decide +kernel
theorem dX7_reset_45 : decode cX7_reset 45 = .ok (.istore_n 2, 1) := by decide +kernel
theorem dX7_reset_46 : decode cX7_reset 46 = .ok (.iload_n 2, 1) := by decide +kernel
theorem dX7_reset_47 : decode cX7_reset 47 = .ok (.aload_n 0, 1) := by decide +kernel
theorem dX7_reset_48 : decode cX7_reset 48 = .ok (.getfield 51, 3) := by decide +kernel
theorem dX7_reset_51 : decode cX7_reset 51 = .ok (.if_icmp .ge 24, 3) := by decide +kernel
theorem dX7_reset_54 : decode cX7_reset 54 = .ok (.aload_n 0, 1) := by decide +kernel
theorem dX7_reset_55 : decode cX7_reset 55 = .ok (.getfield 32, 3) := by decide +kernel
theorem dX7_reset_58 : decode cX7_reset 58 = .ok (.iload_n 2, 1) := by decide +kernel
theorem dX7_reset_59 : decode cX7_reset 59 = .ok (.aaload, 1) := by decide +kernel
theorem dX7_reset_60 : decode cX7_reset 60 = .ok (.aload_n 1, 1) := by decide +kernel
theorem dX7_reset_61 : decode cX7_reset 61 = .ok (.getfield 54, 3) := by decide +kernel
theorem dX7_reset_64 : decode cX7_reset 64 = .ok (.iload_n 2, 1) := by decide +kernel
theorem dX7_reset_65 : decode cX7_reset 65 = .ok (.iaload, 1) := by decide +kernel
theorem dX7_reset_66 : decode cX7_reset 66 = .ok (.invokevirtual 58, 3) := by decide +kernel
theorem dX7_reset_69 : decode cX7_reset 69 = .ok (.iinc 2 1, 3) := by decide +kernel
theorem dX7_reset_72 : decode cX7_reset 72 = .ok (.goto (-26), 3) := by decide +kernel
theorem dX7_reset_75 : decode cX7_reset 75 = .ok (.return_, 1) := by decide +kernel
theorem dX7_copyFrom_0 : decode cX7_copyFrom 0 = .ok (.aload_n 0, 1) := by decide +kernel
theorem dX7_copyFrom_1 : decode cX7_copyFrom 1 = .ok (.getfield 14, 3) := by decide +kernel
theorem dX7_copyFrom_4 : decode cX7_copyFrom 4 = .ok (.aload_n 1, 1) := by decide +kernel
theorem dX7_copyFrom_5 : decode cX7_copyFrom 5 = .ok (.getfield 14, 3) := by decide +kernel
theorem dX7_copyFrom_8 : decode cX7_copyFrom 8 = .ok (.invokevirtual 61, 3) := by decide +kernel
theorem dX7_copyFrom_11 : decode cX7_copyFrom 11 = .ok (.aload_n 0, 1) := by decide +kernel
theorem dX7_copyFrom_12 : decode cX7_copyFrom 12 = .ok (.getfield 20, 3) := by decide +kernel
theorem dX7_copyFrom_15 : decode cX7_copyFrom 15 = .ok (.aload_n 1, 1) := by decide +kernel
theorem dX7_copyFrom_16 : decode cX7_copyFrom 16 = .ok (.getfield 20, 3) := by decide +kernel
theorem dX7_copyFrom_19 : decode cX7_copyFrom 19 = .ok (.invokevirtual 61, 3) := by decide +kernel
theorem dX7_copyFrom_22 : decode cX7_copyFrom 22 = .ok (.aload_n 0, 1) := by decide +kernel
theorem dX7_copyFrom_23 : decode cX7_copyFrom 23 = .ok (.getfield 23, 3) := by decide +kernel
theorem dX7_copyFrom_26 : decode cX7_copyFrom 26 = .ok (.aload_n 1, 1) := by decide +kernel
theorem dX7_copyFrom_27 : decode cX7_copyFrom 27 = .ok (.getfield 23, 3) := by decide +kernel
theorem dX7_copyFrom_30 : decode cX7_copyFrom 30 = .ok (.invokevirtual 61, 3) := by decide +kernel
theorem dX7_copyFrom_33 : decode cX7_copyFrom 33 = .ok (.aload_n 0, 1) := by decide +kernel
theorem dX7_copyFrom_34 : decode cX7_copyFrom 34 = .ok (.aload_n 1, 1) := by decide +kernel
theorem dX7_copyFrom_35 : decode cX7_copyFrom 35 = .ok (.getfield 40, 3) := by decide +kernel
theorem dX7_copyFrom_38 : decode cX7_copyFrom 38 = .ok (.putfield 40, 3) := by decide +kernel
theorem dX7_copyFrom_41 : decode cX7_copyFrom 41 = .ok (.aload_n 0, 1) := by decide +kernel
theorem dX7_copyFrom_42 : decode cX7_copyFrom 42 = .ok (.aload_n 1, 1) := by decide +kernel
theorem dX7_copyFrom_43 : decode cX7_copyFrom 43 = .ok (.getfield 26, 3) := by decide +kernel
theorem dX7_copyFrom_46 : decode cX7_copyFrom 46 = .ok (.putfield 26, 3) := by decide +kernel
theorem dX7_copyFrom_49 : decode cX7_copyFrom 49 = .ok (.aload_n 0, 1) := by decide +kernel
theorem dX7_copyFrom_50 : decode cX7_copyFrom 50 = .ok (.aload_n 1, 1) := by decide +kernel
theorem dX7_copyFrom_51 : decode cX7_copyFrom 51 = .ok (.getfield 43, 3) := by decide +kernel
theorem dX7_copyFrom_54 : decode cX7_copyFrom 54 = .ok (.putfield 43, 3) := by decide +kernel
theorem dX7_copyFrom_57 : decode cX7_copyFrom 57 = .ok (.aload_n 0, 1) := by decide +kernel
theorem dX7_copyFrom_58 : decode cX7_copyFrom 58 = .ok (.aload_n 1, 1) := by decide +kernel
theorem dX7_copyFrom_59 : decode cX7_copyFrom 59 = .ok (.getfield 51, 3) := by decide +kernel
theorem dX7_copyFrom_62 : decode cX7_copyFrom 62 = .ok (.putfield 51, 3) := by decide +kernel
theorem dX7_copyFrom_65 : decode cX7_copyFrom 65 = .ok (.iconst 0, 1) := by decide +kernel
theorem dX7_copyFrom_66 : decode cX7_copyFrom 66 = .ok (.istore_n 2, 1) := by decide +kernel
theorem dX7_copyFrom_67 : decode cX7_copyFrom 67 = .ok (.iload_n 2, 1) := by decide +kernel
theorem dX7_copyFrom_68 : decode cX7_copyFrom 68 = .ok (.aload_n 0, 1) := by decide +kernel
theorem dX7_copyFrom_69 : decode cX7_copyFrom 69 = .ok (.getfield 51, 3) := by decide +kernel
theorem dX7_copyFrom_72 : decode cX7_copyFrom 72 = .ok (.if_icmp .ge 24, 3) := by decide +kernel
theorem dX7_copyFrom_75 : decode cX7_copyFrom 75 = .ok (.aload_n 0, 1) := by decide +kernel
theorem dX7_copyFrom_76 : decode cX7_copyFrom 76 = .ok (.getfield 32, 3) := by decide +kernel
theorem dX7_copyFrom_79 : decode cX7_copyFrom 79 = .ok (.iload_n 2, 1) := by decide +kernel
theorem dX7_copyFrom_80 : decode cX7_copyFrom 80 = .ok (.aaload, 1) := by decide +kernel
theorem dX7_copyFrom_81 : decode cX7_copyFrom 81 = .ok (.aload_n 1, 1) := by decide +kernel
theorem dX7_copyFrom_82 : decode cX7_copyFrom 82 = .ok (.getfield 32, 3) := by decide +kernel
theorem dX7_copyFrom_85 : decode cX7_copyFrom 85 = .ok (.iload_n 2, 1) := by decide +kernel
theorem dX7_copyFrom_86 : decode cX7_copyFrom 86 = .ok (.aaload, 1) := by decide +kernel
theorem dX7_copyFrom_87 : decode cX7_copyFrom 87 = .ok (.invokevirtual 65, 3) := by decide +kernel
theorem dX7_copyFrom_90 : decode cX7_copyFrom 90 = .ok (.iinc 2 1, 3) := by decide +kernel
theorem dX7_copyFrom_93 : decode cX7_copyFrom 93 = .ok (.goto (-26), 3) := by decide +kernel
theorem dX7_copyFrom_96 : decode cX7_copyFrom 96 = .ok (.return_, 1) := by decide +kernel
theorem dX7_portAt_0 : decode cX7_portAt 0 = .ok (.iload_n 1, 1) := by decide +kernel
theorem dX7_portAt_1 : decode cX7_portAt 1 = .ok (.ifCond .lt 20, 3) := by decide +kernel
theorem dX7_portAt_4 : decode cX7_portAt 4 = .ok (.iload_n 1, 1) := by decide +kernel
theorem dX7_portAt_5 : decode cX7_portAt 5 = .ok (.aload_n 0, 1) := by decide +kernel
theorem dX7_portAt_6 : decode cX7_portAt 6 = .ok (.getfield 51, 3) := by decide +kernel
theorem dX7_portAt_9 : decode cX7_portAt 9 = .ok (.if_icmp .ge 12, 3) := by decide +kernel
theorem dX7_portAt_12 : decode cX7_portAt 12 = .ok (.aload_n 0, 1) := by decide +kernel
theorem dX7_portAt_13 : decode cX7_portAt 13 = .ok (.getfield 32, 3) := by decide +kernel
theorem dX7_portAt_16 : decode cX7_portAt 16 = .ok (.iload_n 1, 1) := by decide +kernel
theorem dX7_portAt_17 : decode cX7_portAt 17 = .ok (.aaload, 1) := by decide +kernel
theorem dX7_portAt_18 : decode cX7_portAt 18 = .ok (.goto 4, 3) := by decide +kernel
theorem dX7_portAt_21 : decode cX7_portAt 21 = .ok (.aconst_null, 1) := by decide +kernel
theorem dX7_portAt_22 : decode cX7_portAt 22 = .ok (.areturn, 1) := by decide +kernel
theorem dX7_pick_0 : decode cX7_pick 0 = .ok (.iconst (-1), 1) := by decide +kernel
theorem dX7_pick_1 : decode cX7_pick 1 = .ok (.istore_n 1, 1) := by decide +kernel
theorem dX7_pick_2 : decode cX7_pick 2 = .ok (.iconst 0, 1) := by decide +kernel
theorem dX7_pick_3 : decode cX7_pick 3 = .ok (.istore_n 2, 1) := by decide +kernel
theorem dX7_pick_4 : decode cX7_pick 4 = .ok (.aload_n 0, 1) := by decide +kernel
theorem dX7_pick_5 : decode cX7_pick 5 = .ok (.getfield 26, 3) := by decide +kernel
theorem dX7_pick_8 : decode cX7_pick 8 = .ok (.iconst (-1), 1) := by decide +kernel
theorem dX7_pick_9 : decode cX7_pick 9 = .ok (.if_icmp .ne 12, 3) := by decide +kernel
theorem dX7_pick_12 : decode cX7_pick 12 = .ok (.aload_n 0, 1) := by decide +kernel
theorem dX7_pick_13 : decode cX7_pick 13 = .ok (.getfield 51, 3) := by decide +kernel
theorem dX7_pick_16 : decode cX7_pick 16 = .ok (.iconst 1, 1) := by decide +kernel
theorem dX7_pick_17 : decode cX7_pick 17 = .ok (.isub, 1) := by decide +kernel
theorem dX7_pick_18 : decode cX7_pick 18 = .ok (.goto 7, 3) := by decide +kernel
theorem dX7_pick_21 : decode cX7_pick 21 = .ok (.aload_n 0, 1) := by decide +kernel
theorem dX7_pick_22 : decode cX7_pick 22 = .ok (.getfield 26, 3) := by decide +kernel
theorem dX7_pick_25 : decode cX7_pick 25 = .ok (.istore_n 3, 1) := by decide +kernel
theorem dX7_pick_26 : decode cX7_pick 26 = .ok (.iconst 1, 1) := by decide +kernel
theorem dX7_pick_27 : decode cX7_pick 27 = .ok (.istore 4, 2) := by decide +kernel
theorem dX7_pick_29 : decode cX7_pick 29 = .ok (.iload 4, 2) := by decide +kernel
theorem dX7_pick_31 : decode cX7_pick 31 = .ok (.aload_n 0, 1) := by decide +kernel
theorem dX7_pick_32 : decode cX7_pick 32 = .ok (.getfield 51, 3) := by decide +kernel
theorem dX7_pick_35 : decode cX7_pick 35 = .ok (.if_icmp .gt 64, 3) := by decide +kernel
theorem dX7_pick_38 : decode cX7_pick 38 = .ok (.iload_n 3, 1) := by decide +kernel
theorem dX7_pick_39 : decode cX7_pick 39 = .ok (.iload 4, 2) := by decide +kernel
theorem dX7_pick_41 : decode cX7_pick 41 = .ok (.iadd, 1) := by decide +kernel
theorem dX7_pick_42 : decode cX7_pick 42 = .ok (.aload_n 0, 1) := by decide +kernel
theorem dX7_pick_43 : decode cX7_pick 43 = .ok (.getfield 51, 3) := by decide +kernel
theorem dX7_pick_46 : decode cX7_pick 46 = .ok (.irem, 1) := by decide +kernel
theorem dX7_pick_47 : decode cX7_pick 47 = .ok (.istore 5, 2) := by decide +kernel
theorem dX7_pick_49 : decode cX7_pick 49 = .ok (.aload_n 0, 1) := by decide +kernel
theorem dX7_pick_50 : decode cX7_pick 50 = .ok (.getfield 32, 3) := by decide +kernel
theorem dX7_pick_53 : decode cX7_pick 53 = .ok (.iload 5, 2) := by decide +kernel
theorem dX7_pick_55 : decode cX7_pick 55 = .ok (.aaload, 1) := by decide +kernel
theorem dX7_pick_56 : decode cX7_pick 56 = .ok (.getfield 68, 3) := by decide +kernel
theorem dX7_pick_59 : decode cX7_pick 59 = .ok (.invokevirtual 72, 3) := by decide +kernel
theorem dX7_pick_62 : decode cX7_pick 62 = .ok (.ifCond .le 31, 3) := by decide +kernel
theorem dX7_pick_65 : decode cX7_pick 65 = .ok (.aload_n 0, 1) := by decide +kernel
theorem dX7_pick_66 : decode cX7_pick 66 = .ok (.getfield 32, 3) := by decide +kernel
theorem dX7_pick_69 : decode cX7_pick 69 = .ok (.iload 5, 2) := by decide +kernel
theorem dX7_pick_71 : decode cX7_pick 71 = .ok (.aaload, 1) := by decide +kernel
theorem dX7_pick_72 : decode cX7_pick 72 = .ok (.getfield 78, 3) := by decide +kernel
theorem dX7_pick_75 : decode cX7_pick 75 = .ok (.iload_n 2, 1) := by decide +kernel
theorem dX7_pick_76 : decode cX7_pick 76 = .ok (.if_icmp .le 17, 3) := by decide +kernel
theorem dX7_pick_79 : decode cX7_pick 79 = .ok (.iload 5, 2) := by decide +kernel
theorem dX7_pick_81 : decode cX7_pick 81 = .ok (.istore_n 1, 1) := by decide +kernel
theorem dX7_pick_82 : decode cX7_pick 82 = .ok (.aload_n 0, 1) := by decide +kernel
theorem dX7_pick_83 : decode cX7_pick 83 = .ok (.getfield 32, 3) := by decide +kernel
theorem dX7_pick_86 : decode cX7_pick 86 = .ok (.iload 5, 2) := by decide +kernel
theorem dX7_pick_88 : decode cX7_pick 88 = .ok (.aaload, 1) := by decide +kernel
theorem dX7_pick_89 : decode cX7_pick 89 = .ok (.getfield 78, 3) := by decide +kernel
theorem dX7_pick_92 : decode cX7_pick 92 = .ok (.istore_n 2, 1) := by decide +kernel
theorem dX7_pick_93 : decode cX7_pick 93 = .ok (.iinc 4 1, 3) := by decide +kernel
theorem dX7_pick_96 : decode cX7_pick 96 = .ok (.goto (-67), 3) := by decide +kernel
theorem dX7_pick_99 : decode cX7_pick 99 = .ok (.iload_n 1, 1) := by decide +kernel
theorem dX7_pick_100 : decode cX7_pick 100 = .ok (.ireturn, 1) := by decide +kernel
theorem dX7_putFrames_0 : decode cX7_putFrames 0 = .ok (.iconst 0, 1) := by decide +kernel
theorem dX7_putFrames_1 : decode cX7_putFrames 1 = .ok (.istore_n 3, 1) := by decide +kernel
theorem dX7_putFrames_2 : decode cX7_putFrames 2 = .ok (.iload_n 3, 1) := by decide +kernel
theorem dX7_putFrames_3 : decode cX7_putFrames 3 = .ok (.iload_n 1, 1) := by decide +kernel
theorem dX7_putFrames_4 : decode cX7_putFrames 4 = .ok (.if_icmp .ge 17, 3) := by decide +kernel
theorem dX7_putFrames_7 : decode cX7_putFrames 7 = .ok (.aload_n 0, 1) := by decide +kernel
theorem dX7_putFrames_8 : decode cX7_putFrames 8 = .ok (.aload_n 2, 1) := by decide +kernel
theorem dX7_putFrames_9 : decode cX7_putFrames 9 = .ok (.invokevirtual 80, 3) := by decide +kernel
theorem dX7_putFrames_12 : decode cX7_putFrames 12 = .ok (.ifCond .eq 9, 3) := by decide +kernel
theorem dX7_putFrames_15 : decode cX7_putFrames 15 = .ok (.iinc 3 1, 3) := by decide +kernel
theorem dX7_putFrames_18 : decode cX7_putFrames 18 = .ok (.goto (-16), 3) := by decide +kernel
theorem dX7_putFrames_21 : decode cX7_putFrames 21 = .ok (.iload_n 3, 1) := by decide +kernel
theorem dX7_putFrames_22 : decode cX7_putFrames 22 = .ok (.ireturn, 1) := by decide +kernel
theorem dX7_putFrame_0 : decode cX7_putFrame 0 = .ok (.aload_n 0, 1) := by decide +kernel
theorem dX7_putFrame_1 : decode cX7_putFrame 1 = .ok (.invokevirtual 84, 3) := by decide +kernel
theorem dX7_putFrame_4 : decode cX7_putFrame 4 = .ok (.istore_n 2, 1) := by decide +kernel
theorem dX7_putFrame_5 : decode cX7_putFrame 5 = .ok (.aload_n 0, 1) := by decide +kernel
theorem dX7_putFrame_6 : decode cX7_putFrame 6 = .ok (.iload_n 2, 1) := by decide +kernel
theorem dX7_putFrame_7 : decode cX7_putFrame 7 = .ok (.invokevirtual 87, 3) := by decide +kernel
theorem dX7_putFrame_10 : decode cX7_putFrame 10 = .ok (.astore_n 3, 1) := by decide +kernel
theorem dX7_putFrame_11 : decode cX7_putFrame 11 = .ok (.aload_n 3, 1) := by decide +kernel
theorem dX7_putFrame_12 : decode cX7_putFrame 12 = .ok (.ifnonnull 5, 3) := by decide +kernel
theorem dX7_putFrame_15 : decode cX7_putFrame 15 = .ok (.iconst 0, 1) := by decide +kernel
theorem dX7_putFrame_16 : decode cX7_putFrame 16 = .ok (.ireturn, 1) := by decide +kernel
theorem dX7_putFrame_17 : decode cX7_putFrame 17 = .ok (.aload_n 1, 1) := by decide +kernel
theorem dX7_putFrame_18 : decode cX7_putFrame 18 = .ok (.aload_n 3, 1) := by decide +kernel
theorem dX7_putFrame_19 : decode cX7_putFrame 19 = .ok (.iload_n 2, 1) := by decide +kernel
theorem dX7_putFrame_20 : decode cX7_putFrame 20 = .ok (.invokevirtual 91, 3) := by decide +kernel
theorem dX7_putFrame_23 : decode cX7_putFrame 23 = .ok (.istore 4, 2) := by decide +kernel
theorem dX7_putFrame_25 : decode cX7_putFrame 25 = .ok (.aload_n 0, 1) := by decide +kernel
theorem dX7_putFrame_26 : decode cX7_putFrame 26 = .ok (.getfield 14, 3) := by decide +kernel
theorem dX7_putFrame_29 : decode cX7_putFrame 29 = .ok (.getfield 97, 3) := by decide +kernel
theorem dX7_putFrame_32 : decode cX7_putFrame 32 = .ok (.aload_n 1, 1) := by decide +kernel
theorem dX7_putFrame_33 : decode cX7_putFrame 33 = .ok (.getfield 100, 3) := by decide +kernel
theorem dX7_putFrame_36 : decode cX7_putFrame 36 = .ok (.getfield 97, 3) := by decide +kernel
theorem dX7_putFrame_39 : decode cX7_putFrame 39 = .ok (.iadd, 1) := by decide +kernel
theorem dX7_putFrame_40 : decode cX7_putFrame 40 = .ok (.iconst 1, 1) := by decide +kernel
theorem dX7_putFrame_41 : decode cX7_putFrame 41 = .ok (.iadd, 1) := by decide +kernel
theorem dX7_putFrame_42 : decode cX7_putFrame 42 = .ok (.sipush 600, 3) := by decide +kernel
theorem dX7_putFrame_45 : decode cX7_putFrame 45 = .ok (.if_icmp .le 5, 3) := by decide +kernel
theorem dX7_putFrame_48 : decode cX7_putFrame 48 = .ok (.iconst 0, 1) := by decide +kernel
theorem dX7_putFrame_49 : decode cX7_putFrame 49 = .ok (.ireturn, 1) := by decide +kernel
theorem dX7_putFrame_50 : decode cX7_putFrame 50 = .ok (.aload_n 0, 1) := by decide +kernel
theorem dX7_putFrame_51 : decode cX7_putFrame 51 = .ok (.getfield 14, 3) := by decide +kernel
theorem dX7_putFrame_54 : decode cX7_putFrame 54 = .ok (.aload_n 1, 1) := by decide +kernel
theorem dX7_putFrame_55 : decode cX7_putFrame 55 = .ok (.getfield 100, 3) := by decide +kernel
theorem dX7_putFrame_58 : decode cX7_putFrame 58 = .ok (.iconst 0, 1) := by decide +kernel
theorem dX7_putFrame_59 : decode cX7_putFrame 59 = .ok (.aload_n 1, 1) := by decide +kernel
theorem dX7_putFrame_60 : decode cX7_putFrame 60 = .ok (.getfield 100, 3) := by decide +kernel
theorem dX7_putFrame_63 : decode cX7_putFrame 63 = .ok (.getfield 97, 3) := by decide +kernel
theorem dX7_putFrame_66 : decode cX7_putFrame 66 = .ok (.invokevirtual 103, 3) := by decide +kernel
theorem dX7_putFrame_69 : decode cX7_putFrame 69 = .ok (.aload_n 0, 1) := by decide +kernel
theorem dX7_putFrame_70 : decode cX7_putFrame 70 = .ok (.getfield 14, 3) := by decide +kernel
theorem dX7_putFrame_73 : decode cX7_putFrame 73 = .ok (.iconst 0, 1) := by decide +kernel
theorem dX7_putFrame_74 : decode cX7_putFrame 74 = .ok (.invokevirtual 107, 3) := by decide +kernel
theorem dX7_putFrame_77 : decode cX7_putFrame 77 = .ok (.aload_n 3, 1) := by decide +kernel
theorem dX7_putFrame_78 : decode cX7_putFrame 78 = .ok (.iload 4, 2) := by decide +kernel
theorem dX7_putFrame_80 : decode cX7_putFrame 80 = .ok (.invokevirtual 110, 3) := by decide +kernel
theorem dX7_putFrame_83 : decode cX7_putFrame 83 = .ok (.aload_n 0, 1) := by decide +kernel
theorem dX7_putFrame_84 : decode cX7_putFrame 84 = .ok (.iload_n 2, 1) := by decide +kernel
theorem dX7_putFrame_85 : decode cX7_putFrame 85 = .ok (.putfield 26, 3) := by decide +kernel
theorem dX7_putFrame_88 : decode cX7_putFrame 88 = .ok (.iconst 1, 1) := by decide +kernel
theorem dX7_putFrame_89 : decode cX7_putFrame 89 = .ok (.ireturn, 1) := by decide +kernel
theorem dX7_disturb_0 : decode cX7_disturb 0 = .ok (.aload_n 1, 1) := by decide +kernel
theorem dX7_disturb_1 : decode cX7_disturb 1 = .ok (.iconst 3, 1) := by decide +kernel
theorem dX7_disturb_2 : decode cX7_disturb 2 = .ok (.invokevirtual 113, 3) := by decide +kernel
theorem dX7_disturb_5 : decode cX7_disturb 5 = .ok (.istore_n 2, 1) := by decide +kernel
theorem dX7_disturb_6 : decode cX7_disturb 6 = .ok (.iload_n 2, 1) := by decide +kernel
theorem dX7_disturb_7 : decode cX7_disturb 7 = .ok (.iconst 2, 1) := by decide +kernel
theorem dX7_disturb_8 : decode cX7_disturb 8 = .ok (.if_icmp .ne 51, 3) := by decide +kernel
theorem dX7_disturb_11 : decode cX7_disturb 11 = .ok (.aload_n 0, 1) := by decide +kernel
theorem dX7_disturb_12 : decode cX7_disturb 12 = .ok (.getfield 14, 3) := by decide +kernel
theorem dX7_disturb_15 : decode cX7_disturb 15 = .ok (.getfield 97, 3) := by decide +kernel
theorem dX7_disturb_18 : decode cX7_disturb 18 = .ok (.sipush 600, 3) := by decide +kernel
theorem dX7_disturb_21 : decode cX7_disturb 21 = .ok (.if_icmp .lt 5, 3) := by decide +kernel
theorem dX7_disturb_24 : decode cX7_disturb 24 = .ok (.iconst 0, 1) := by decide +kernel
theorem dX7_disturb_25 : decode cX7_disturb 25 = .ok (.ireturn, 1) := by decide +kernel
theorem dX7_disturb_26 : decode cX7_disturb 26 = .ok (.aload_n 1, 1) := by decide +kernel
theorem dX7_disturb_27 : decode cX7_disturb 27 = .ok (.aload_n 0, 1) := by decide +kernel
theorem dX7_disturb_28 : decode cX7_disturb 28 = .ok (.getfield 14, 3) := by decide +kernel
theorem dX7_disturb_31 : decode cX7_disturb 31 = .ok (.getfield 97, 3) := by decide +kernel
theorem dX7_disturb_34 : decode cX7_disturb 34 = .ok (.iconst 1, 1) := by decide +kernel
theorem dX7_disturb_35 : decode cX7_disturb 35 = .ok (.iadd, 1) := by decide +kernel
theorem dX7_disturb_36 : decode cX7_disturb 36 = .ok (.invokevirtual 113, 3) := by decide +kernel
theorem dX7_disturb_39 : decode cX7_disturb 39 = .ok (.istore_n 3, 1) := by decide +kernel
theorem dX7_disturb_40 : decode cX7_disturb 40 = .ok (.aload_n 0, 1) := by decide +kernel
theorem dX7_disturb_41 : decode cX7_disturb 41 = .ok (.getfield 14, 3) := by decide +kernel
theorem dX7_disturb_44 : decode cX7_disturb 44 = .ok (.iload_n 3, 1) := by decide +kernel
theorem dX7_disturb_45 : decode cX7_disturb 45 = .ok (.aload_n 1, 1) := by decide +kernel
theorem dX7_disturb_46 : decode cX7_disturb 46 = .ok (.sipush 255, 3) := by decide +kernel
theorem dX7_disturb_49 : decode cX7_disturb 49 = .ok (.invokevirtual 113, 3) := by decide +kernel
theorem dX7_disturb_52 : decode cX7_disturb 52 = .ok (.iconst 1, 1) := by decide +kernel
theorem dX7_disturb_53 : decode cX7_disturb 53 = .ok (.iadd, 1) := by decide +kernel
theorem dX7_disturb_54 : decode cX7_disturb 54 = .ok (.invokevirtual 119, 3) := by decide +kernel
theorem dX7_disturb_57 : decode cX7_disturb 57 = .ok (.iconst 1, 1) := by decide +kernel
theorem dX7_disturb_58 : decode cX7_disturb 58 = .ok (.ireturn, 1) := by decide +kernel
theorem dX7_disturb_59 : decode cX7_disturb 59 = .ok (.aload_n 0, 1) := by decide +kernel
theorem dX7_disturb_60 : decode cX7_disturb 60 = .ok (.getfield 14, 3) := by decide +kernel
theorem dX7_disturb_63 : decode cX7_disturb 63 = .ok (.getfield 97, 3) := by decide +kernel
theorem dX7_disturb_66 : decode cX7_disturb 66 = .ok (.ifCond .ne 5, 3) := by decide +kernel
theorem dX7_disturb_69 : decode cX7_disturb 69 = .ok (.iconst 0, 1) := by decide +kernel
theorem dX7_disturb_70 : decode cX7_disturb 70 = .ok (.ireturn, 1) := by decide +kernel
theorem dX7_disturb_71 : decode cX7_disturb 71 = .ok (.aload_n 1, 1) := by decide +kernel
theorem dX7_disturb_72 : decode cX7_disturb 72 = .ok (.aload_n 0, 1) := by decide +kernel
theorem dX7_disturb_73 : decode cX7_disturb 73 = .ok (.getfield 14, 3) := by decide +kernel
theorem dX7_disturb_76 : decode cX7_disturb 76 = .ok (.getfield 97, 3) := by decide +kernel
theorem dX7_disturb_79 : decode cX7_disturb 79 = .ok (.invokevirtual 113, 3) := by decide +kernel
theorem dX7_disturb_82 : decode cX7_disturb 82 = .ok (.istore_n 3, 1) := by decide +kernel
theorem dX7_disturb_83 : decode cX7_disturb 83 = .ok (.iload_n 2, 1) := by decide +kernel
theorem dX7_disturb_84 : decode cX7_disturb 84 = .ok (.ifCond .ne 32, 3) := by decide +kernel
theorem dX7_disturb_87 : decode cX7_disturb 87 = .ok (.aload_n 0, 1) := by decide +kernel
theorem dX7_disturb_88 : decode cX7_disturb 88 = .ok (.getfield 14, 3) := by decide +kernel
theorem dX7_disturb_91 : decode cX7_disturb 91 = .ok (.iload_n 3, 1) := by decide +kernel
theorem dX7_disturb_92 : decode cX7_disturb 92 = .ok (.aload_n 0, 1) := by decide +kernel
theorem dX7_disturb_93 : decode cX7_disturb 93 = .ok (.getfield 14, 3) := by decide +kernel
theorem dX7_disturb_96 : decode cX7_disturb 96 = .ok (.iload_n 3, 1) := by decide +kernel
theorem dX7_disturb_97 : decode cX7_disturb 97 = .ok (.invokevirtual 123, 3) := by decide +kernel
theorem dX7_disturb_100 : decode cX7_disturb 100 = .ok (.aload_n 1, 1) := by decide +kernel
theorem dX7_disturb_101 : decode cX7_disturb 101 = .ok (.sipush 255, 3) := by decide +kernel
theorem dX7_disturb_104 : decode cX7_disturb 104 = .ok (.invokevirtual 113, 3) := by decide +kernel
theorem dX7_disturb_107 : decode cX7_disturb 107 = .ok (.iconst 1, 1) := by decide +kernel
theorem dX7_disturb_108 : decode cX7_disturb 108 = .ok (.iadd, 1) := by decide +kernel
theorem dX7_disturb_109 : decode cX7_disturb 109 = .ok (.ixor, 1) := by decide +kernel
theorem dX7_disturb_110 : decode cX7_disturb 110 = .ok (.invokevirtual 126, 3) := by decide +kernel
theorem dX7_disturb_113 : decode cX7_disturb 113 = .ok (.goto 11, 3) := by decide +kernel
theorem dX7_disturb_116 : decode cX7_disturb 116 = .ok (.aload_n 0, 1) := by decide +kernel
theorem dX7_disturb_117 : decode cX7_disturb 117 = .ok (.getfield 14, 3) := by decide +kernel
theorem dX7_disturb_120 : decode cX7_disturb 120 = .ok (.iload_n 3, 1) := by decide +kernel
theorem dX7_disturb_121 : decode cX7_disturb 121 = .ok (.invokevirtual 129, 3) := by decide +kernel
theorem dX7_disturb_124 : decode cX7_disturb 124 = .ok (.iconst 1, 1) := by decide +kernel
theorem dX7_disturb_125 : decode cX7_disturb 125 = .ok (.ireturn, 1) := by decide +kernel
theorem dX7_readBytes_0 : decode cX7_readBytes 0 = .ok (.aload_n 0, 1) := by decide +kernel
theorem dX7_readBytes_1 : decode cX7_readBytes 1 = .ok (.getfield 40, 3) := by decide +kernel
theorem dX7_readBytes_4 : decode cX7_readBytes 4 = .ok (.istore_n 3, 1) := by decide +kernel
theorem dX7_readBytes_5 : decode cX7_readBytes 5 = .ok (.iload_n 1, 1) := by decide +kernel
theorem dX7_readBytes_6 : decode cX7_readBytes 6 = .ok (.aload_n 0, 1) := by decide +kernel
theorem dX7_readBytes_7 : decode cX7_readBytes 7 = .ok (.getfield 14, 3) := by decide +kernel
theorem dX7_readBytes_10 : decode cX7_readBytes 10 = .ok (.getfield 97, 3) := by decide +kernel
theorem dX7_readBytes_13 : decode cX7_readBytes 13 = .ok (.invokestatic 132, 3) := by decide +kernel
theorem dX7_readBytes_16 : decode cX7_readBytes 16 = .ok (.istore 4, 2) := by decide +kernel
theorem dX7_readBytes_18 : decode cX7_readBytes 18 = .ok (.iconst 0, 1) := by decide +kernel
theorem dX7_readBytes_19 : decode cX7_readBytes 19 = .ok (.istore 5, 2) := by decide +kernel
theorem dX7_readBytes_21 : decode cX7_readBytes 21 = .ok (.iload 5, 2) := by decide +kernel
theorem dX7_readBytes_23 : decode cX7_readBytes 23 = .ok (.iload 4, 2) := by decide +kernel
theorem dX7_readBytes_25 : decode cX7_readBytes 25 = .ok (.if_icmp .ge 63, 3) := by decide +kernel
theorem dX7_readBytes_28 : decode cX7_readBytes 28 = .ok (.aload_n 0, 1) := by decide +kernel
theorem dX7_readBytes_29 : decode cX7_readBytes 29 = .ok (.getfield 14, 3) := by decide +kernel
theorem dX7_readBytes_32 : decode cX7_readBytes 32 = .ok (.iload 5, 2) := by decide +kernel
theorem dX7_readBytes_34 : decode cX7_readBytes 34 = .ok (.invokevirtual 123, 3) := by decide +kernel
theorem dX7_readBytes_37 : decode cX7_readBytes 37 = .ok (.istore 6, 2) := by decide +kernel
theorem dX7_readBytes_39 : decode cX7_readBytes 39 = .ok (.iload 6, 2) := by decide +kernel
theorem dX7_readBytes_41 : decode cX7_readBytes 41 = .ok (.ifCond .ne 11, 3) := by decide +kernel
theorem dX7_readBytes_44 : decode cX7_readBytes 44 = .ok (.aload_n 0, 1) := by decide +kernel
theorem dX7_readBytes_45 : decode cX7_readBytes 45 = .ok (.aload_n 2, 1) := by decide +kernel
theorem dX7_readBytes_46 : decode cX7_readBytes 46 = .ok (.invokevirtual 138, 3) := by decide +kernel
theorem dX7_readBytes_49 : decode cX7_readBytes 49 = .ok (.goto 33, 3) := by decide +kernel
theorem dX7_readBytes_52 : decode cX7_readBytes 52 = .ok (.aload_n 0, 1) := by decide +kernel
theorem dX7_readBytes_53 : decode cX7_readBytes 53 = .ok (.getfield 20, 3) := by decide +kernel
theorem dX7_readBytes_56 : decode cX7_readBytes 56 = .ok (.getfield 97, 3) := by decide +kernel
theorem dX7_readBytes_59 : decode cX7_readBytes 59 = .ok (.sipush 200, 3) := by decide +kernel
theorem dX7_readBytes_62 : decode cX7_readBytes 62 = .ok (.if_icmp .ge 15, 3) := by decide +kernel
theorem dX7_readBytes_65 : decode cX7_readBytes 65 = .ok (.aload_n 0, 1) := by decide +kernel
theorem dX7_readBytes_66 : decode cX7_readBytes 66 = .ok (.getfield 20, 3) := by decide +kernel
theorem dX7_readBytes_69 : decode cX7_readBytes 69 = .ok (.iload 6, 2) := by decide +kernel
theorem dX7_readBytes_71 : decode cX7_readBytes 71 = .ok (.invokevirtual 107, 3) := by decide +kernel
theorem dX7_readBytes_74 : decode cX7_readBytes 74 = .ok (.goto 8, 3) := by decide +kernel
theorem dX7_readBytes_77 : decode cX7_readBytes 77 = .ok (.aload_n 0, 1) := by decide +kernel
theorem dX7_readBytes_78 : decode cX7_readBytes 78 = .ok (.iconst 1, 1) := by decide +kernel
theorem dX7_readBytes_79 : decode cX7_readBytes 79 = .ok (.putfield 43, 3) := by decide +kernel
theorem dX7_readBytes_82 : decode cX7_readBytes 82 = .ok (.iinc 5 1, 3) := by decide +kernel
theorem dX7_readBytes_85 : decode cX7_readBytes 85 = .ok (.goto (-64), 3) := by decide +kernel
theorem dX7_readBytes_88 : decode cX7_readBytes 88 = .ok (.aload_n 0, 1) := by decide +kernel
theorem dX7_readBytes_89 : decode cX7_readBytes 89 = .ok (.getfield 14, 3) := by decide +kernel
theorem dX7_readBytes_92 : decode cX7_readBytes 92 = .ok (.iload 4, 2) := by decide +kernel
theorem dX7_readBytes_94 : decode cX7_readBytes 94 = .ok (.invokevirtual 142, 3) := by decide +kernel
theorem dX7_readBytes_97 : decode cX7_readBytes 97 = .ok (.aload_n 0, 1) := by decide +kernel
theorem dX7_readBytes_98 : decode cX7_readBytes 98 = .ok (.getfield 40, 3) := by decide +kernel
theorem dX7_readBytes_101 : decode cX7_readBytes 101 = .ok (.iload_n 3, 1) := by decide +kernel
theorem dX7_readBytes_102 : decode cX7_readBytes 102 = .ok (.isub, 1) := by decide +kernel
theorem dX7_readBytes_103 : decode cX7_readBytes 103 = .ok (.ireturn, 1) := by decide +kernel
theorem dX7_readMark_0 : decode cX7_readMark 0 = .ok (.aload_n 0, 1) := by decide +kernel
theorem dX7_readMark_1 : decode cX7_readMark 1 = .ok (.getfield 20, 3) := by decide +kernel
theorem dX7_readMark_4 : decode cX7_readMark 4 = .ok (.getfield 97, 3) := by decide +kernel
theorem dX7_readMark_7 : decode cX7_readMark 7 = .ok (.ifCond .ne 4, 3) := by decide +kernel
theorem dX7_readMark_10 : decode cX7_readMark 10 = .ok (.return_, 1) := by decide +kernel
theorem dX7_readMark_11 : decode cX7_readMark 11 = .ok (.aload_n 0, 1) := by decide +kernel
theorem dX7_readMark_12 : decode cX7_readMark 12 = .ok (.getfield 43, 3) := by decide +kernel
theorem dX7_readMark_15 : decode cX7_readMark 15 = .ok (.ifCond .eq 7, 3) := by decide +kernel
theorem dX7_readMark_18 : decode cX7_readMark 18 = .ok (.iconst 2, 1) := by decide +kernel
theorem dX7_readMark_19 : decode cX7_readMark 19 = .ok (.goto 19, 3) := by decide +kernel
theorem dX7_readMark_22 : decode cX7_readMark 22 = .ok (.aload_n 1, 1) := by decide +kernel
theorem dX7_readMark_23 : decode cX7_readMark 23 = .ok (.aload_n 0, 1) := by decide +kernel
theorem dX7_readMark_24 : decode cX7_readMark 24 = .ok (.getfield 20, 3) := by decide +kernel
theorem dX7_readMark_27 : decode cX7_readMark 27 = .ok (.iconst 0, 1) := by decide +kernel
theorem dX7_readMark_28 : decode cX7_readMark 28 = .ok (.aload_n 0, 1) := by decide +kernel
theorem dX7_readMark_29 : decode cX7_readMark 29 = .ok (.getfield 20, 3) := by decide +kernel
theorem dX7_readMark_32 : decode cX7_readMark 32 = .ok (.getfield 97, 3) := by decide +kernel
theorem dX7_readMark_35 : decode cX7_readMark 35 = .ok (.invokevirtual 145, 3) := by decide +kernel
theorem dX7_readMark_38 : decode cX7_readMark 38 = .ok (.istore_n 2, 1) := by decide +kernel
theorem dX7_readMark_39 : decode cX7_readMark 39 = .ok (.iload_n 2, 1) := by decide +kernel
theorem dX7_readMark_40 : decode cX7_readMark 40 = .ok (.iconst 2, 1) := by decide +kernel
theorem dX7_readMark_41 : decode cX7_readMark 41 = .ok (.if_icmp .eq 12, 3) := by decide +kernel
theorem dX7_readMark_44 : decode cX7_readMark 44 = .ok (.iload_n 2, 1) := by decide +kernel
theorem dX7_readMark_45 : decode cX7_readMark 45 = .ok (.iconst 3, 1) := by decide +kernel
theorem dX7_readMark_46 : decode cX7_readMark 46 = .ok (.if_icmp .eq 7, 3) := by decide +kernel
theorem dX7_readMark_49 : decode cX7_readMark 49 = .ok (.iconst 1, 1) := by decide +kernel
theorem dX7_readMark_50 : decode cX7_readMark 50 = .ok (.goto 4, 3) := by decide +kernel
theorem dX7_readMark_53 : decode cX7_readMark 53 = .ok (.iconst 0, 1) := by decide +kernel
theorem dX7_readMark_54 : decode cX7_readMark 54 = .ok (.istore_n 3, 1) := by decide +kernel
theorem dX7_readMark_55 : decode cX7_readMark 55 = .ok (.iload_n 3, 1) := by decide +kernel
theorem dX7_readMark_56 : decode cX7_readMark 56 = .ok (.ifCond .eq 13, 3) := by decide +kernel
theorem dX7_readMark_59 : decode cX7_readMark 59 = .ok (.aload_n 1, 1) := by decide +kernel
theorem dX7_readMark_60 : decode cX7_readMark 60 = .ok (.getfield 149, 3) := by decide +kernel
theorem dX7_readMark_63 : decode cX7_readMark 63 = .ok (.bipush 6, 2) := by decide +kernel
theorem dX7_readMark_65 : decode cX7_readMark 65 = .ok (.ishr, 1) := by decide +kernel
theorem dX7_readMark_66 : decode cX7_readMark 66 = .ok (.goto 4, 3) := by decide +kernel
theorem dX7_readMark_69 : decode cX7_readMark 69 = .ok (.iconst (-1), 1) := by decide +kernel
theorem dX7_readMark_70 : decode cX7_readMark 70 = .ok (.istore 4, 2) := by decide +kernel
theorem dX7_readMark_72 : decode cX7_readMark 72 = .ok (.iload_n 2, 1) := by decide +kernel
theorem dX7_readMark_73 : decode cX7_readMark 73 = .ok (.ifCond .ne 12, 3) := by decide +kernel
theorem dX7_readMark_76 : decode cX7_readMark 76 = .ok (.aload_n 0, 1) := by decide +kernel
theorem dX7_readMark_77 : decode cX7_readMark 77 = .ok (.iload 4, 2) := by decide +kernel
theorem dX7_readMark_79 : decode cX7_readMark 79 = .ok (.invokevirtual 87, 3) := by decide +kernel
theorem dX7_readMark_82 : decode cX7_readMark 82 = .ok (.goto 4, 3) := by decide +kernel
theorem dX7_readMark_85 : decode cX7_readMark 85 = .ok (.aconst_null, 1) := by decide +kernel
theorem dX7_readMark_86 : decode cX7_readMark 86 = .ok (.astore 5, 2) := by decide +kernel
theorem dX7_readMark_88 : decode cX7_readMark 88 = .ok (.aload 5, 2) := by decide +kernel
theorem dX7_readMark_90 : decode cX7_readMark 90 = .ok (.ifnull 17, 3) := by decide +kernel
theorem dX7_readMark_93 : decode cX7_readMark 93 = .ok (.aload 5, 2) := by decide +kernel
theorem dX7_readMark_95 : decode cX7_readMark 95 = .ok (.aload_n 1, 1) := by decide +kernel
theorem dX7_readMark_96 : decode cX7_readMark 96 = .ok (.getfield 152, 3) := by decide +kernel
theorem dX7_readMark_99 : decode cX7_readMark 99 = .ok (.aload_n 1, 1) := by decide +kernel
theorem dX7_readMark_100 : decode cX7_readMark 100 = .ok (.getfield 155, 3) := by decide +kernel
theorem dX7_readMark_103 : decode cX7_readMark 103 = .ok (.invokevirtual 158, 3) := by decide +kernel
theorem dX7_readMark_106 : decode cX7_readMark 106 = .ok (.istore_n 2, 1) := by decide +kernel
theorem dX7_readMark_107 : decode cX7_readMark 107 = .ok (.aload_n 0, 1) := by decide +kernel
theorem dX7_readMark_108 : decode cX7_readMark 108 = .ok (.getfield 23, 3) := by decide +kernel
theorem dX7_readMark_111 : decode cX7_readMark 111 = .ok (.getfield 97, 3) := by decide +kernel
theorem dX7_readMark_114 : decode cX7_readMark 114 = .ok (.sipush 200, 3) := by decide +kernel
theorem dX7_readMark_117 : decode cX7_readMark 117 = .ok (.if_icmp .lt 11, 3) := by decide +kernel
theorem dX7_readMark_120 : decode cX7_readMark 120 = .ok (.aload_n 0, 1) := by decide +kernel
theorem dX7_readMark_121 : decode cX7_readMark 121 = .ok (.getfield 23, 3) := by decide +kernel
theorem dX7_readMark_124 : decode cX7_readMark 124 = .ok (.iconst 5, 1) := by decide +kernel
theorem dX7_readMark_125 : decode cX7_readMark 125 = .ok (.invokevirtual 142, 3) := by decide +kernel
theorem dX7_readMark_128 : decode cX7_readMark 128 = .ok (.aload_n 0, 1) := by decide +kernel
theorem dX7_readMark_129 : decode cX7_readMark 129 = .ok (.getfield 23, 3) := by decide +kernel
theorem dX7_readMark_132 : decode cX7_readMark 132 = .ok (.iload_n 2, 1) := by decide +kernel
theorem dX7_readMark_133 : decode cX7_readMark 133 = .ok (.invokevirtual 107, 3) := by decide +kernel
theorem dX7_readMark_136 : decode cX7_readMark 136 = .ok (.aload_n 0, 1) := by decide +kernel
theorem dX7_readMark_137 : decode cX7_readMark 137 = .ok (.getfield 23, 3) := by decide +kernel
theorem dX7_readMark_140 : decode cX7_readMark 140 = .ok (.iload_n 3, 1) := by decide +kernel
theorem dX7_readMark_141 : decode cX7_readMark 141 = .ok (.ifCond .eq 10, 3) := by decide +kernel
theorem dX7_readMark_144 : decode cX7_readMark 144 = .ok (.aload_n 1, 1) := by decide +kernel
theorem dX7_readMark_145 : decode cX7_readMark 145 = .ok (.getfield 149, 3) := by decide +kernel
theorem dX7_readMark_148 : decode cX7_readMark 148 = .ok (.goto 4, 3) := by decide +kernel
theorem dX7_readMark_151 : decode cX7_readMark 151 = .ok (.iconst (-1), 1) := by decide +kernel
theorem dX7_readMark_152 : decode cX7_readMark 152 = .ok (.invokevirtual 107, 3) := by decide +kernel
theorem dX7_readMark_155 : decode cX7_readMark 155 = .ok (.aload_n 0, 1) := by decide +kernel
theorem dX7_readMark_156 : decode cX7_readMark 156 = .ok (.getfield 23, 3) := by decide +kernel
theorem dX7_readMark_159 : decode cX7_readMark 159 = .ok (.aload_n 0, 1) := by decide +kernel
theorem dX7_readMark_160 : decode cX7_readMark 160 = .ok (.getfield 20, 3) := by decide +kernel
theorem dX7_readMark_163 : decode cX7_readMark 163 = .ok (.getfield 97, 3) := by decide +kernel
theorem dX7_readMark_166 : decode cX7_readMark 166 = .ok (.invokevirtual 107, 3) := by decide +kernel
theorem dX7_readMark_169 : decode cX7_readMark 169 = .ok (.aload_n 0, 1) := by decide +kernel
theorem dX7_readMark_170 : decode cX7_readMark 170 = .ok (.getfield 23, 3) := by decide +kernel
theorem dX7_readMark_173 : decode cX7_readMark 173 = .ok (.iload_n 3, 1) := by decide +kernel
theorem dX7_readMark_174 : decode cX7_readMark 174 = .ok (.ifCond .eq 10, 3) := by decide +kernel
theorem dX7_readMark_177 : decode cX7_readMark 177 = .ok (.aload_n 1, 1) := by decide +kernel
theorem dX7_readMark_178 : decode cX7_readMark 178 = .ok (.getfield 155, 3) := by decide +kernel
theorem dX7_readMark_181 : decode cX7_readMark 181 = .ok (.goto 4, 3) := by decide +kernel
theorem dX7_readMark_184 : decode cX7_readMark 184 = .ok (.iconst (-1), 1) := by decide +kernel
theorem dX7_readMark_185 : decode cX7_readMark 185 = .ok (.invokevirtual 107, 3) := by decide +kernel
theorem dX7_readMark_188 : decode cX7_readMark 188 = .ok (.aload_n 0, 1) := by decide +kernel
theorem dX7_readMark_189 : decode cX7_readMark 189 = .ok (.getfield 23, 3) := by decide +kernel
theorem dX7_readMark_192 : decode cX7_readMark 192 = .ok (.iload 4, 2) := by decide +kernel
theorem dX7_readMark_194 : decode cX7_readMark 194 = .ok (.invokevirtual 107, 3) := by decide +kernel
theorem dX7_readMark_197 : decode cX7_readMark 197 = .ok (.aload_n 0, 1) := by decide +kernel
theorem dX7_readMark_198 : decode cX7_readMark 198 = .ok (.dup, 1) := by decide +kernel
theorem dX7_readMark_199 : decode cX7_readMark 199 = .ok (.getfield 40, 3) := by decide +kernel
theorem dX7_readMark_202 : decode cX7_readMark 202 = .ok (.iconst 1, 1) := by decide +kernel
theorem dX7_readMark_203 : decode cX7_readMark 203 = .ok (.iadd, 1) := by decide +kernel
theorem dX7_readMark_204 : decode cX7_readMark 204 = .ok (.putfield 40, 3) := by decide +kernel
theorem dX7_readMark_207 : decode cX7_readMark 207 = .ok (.aload_n 0, 1) := by decide +kernel
theorem dX7_readMark_208 : decode cX7_readMark 208 = .ok (.getfield 20, 3) := by decide +kernel
theorem dX7_readMark_211 : decode cX7_readMark 211 = .ok (.invokevirtual 37, 3) := by decide +kernel
theorem dX7_readMark_214 : decode cX7_readMark 214 = .ok (.aload_n 0, 1) := by decide +kernel
theorem dX7_readMark_215 : decode cX7_readMark 215 = .ok (.iconst 0, 1) := by decide +kernel
theorem dX7_readMark_216 : decode cX7_readMark 216 = .ok (.putfield 43, 3) := by decide +kernel
theorem dX7_readMark_219 : decode cX7_readMark 219 = .ok (.return_, 1) := by decide +kernel
theorem dX7_messagesThere_0 : decode cX7_messagesThere 0 = .ok (.iconst 0, 1) := by decide +kernel
theorem dX7_messagesThere_1 : decode cX7_messagesThere 1 = .ok (.istore_n 1, 1) := by decide +kernel
theorem dX7_messagesThere_2 : decode cX7_messagesThere 2 = .ok (.iconst 0, 1) := by decide +kernel
theorem dX7_messagesThere_3 : decode cX7_messagesThere 3 = .ok (.istore_n 2, 1) := by decide +kernel
theorem dX7_messagesThere_4 : decode cX7_messagesThere 4 = .ok (.iload_n 2, 1) := by decide +kernel
theorem dX7_messagesThere_5 : decode cX7_messagesThere 5 = .ok (.aload_n 0, 1) := by decide +kernel
theorem dX7_messagesThere_6 : decode cX7_messagesThere 6 = .ok (.getfield 51, 3) := by decide +kernel
theorem dX7_messagesThere_9 : decode cX7_messagesThere 9 = .ok (.if_icmp .ge 24, 3) := by decide +kernel
theorem dX7_messagesThere_12 : decode cX7_messagesThere 12 = .ok (.iload_n 1, 1) := by decide +kernel
theorem dX7_messagesThere_13 : decode cX7_messagesThere 13 = .ok (.aload_n 0, 1) := by decide +kernel
theorem dX7_messagesThere_14 : decode cX7_messagesThere 14 = .ok (.getfield 32, 3) := by decide +kernel
theorem dX7_messagesThere_17 : decode cX7_messagesThere 17 = .ok (.iload_n 2, 1) := by decide +kernel
theorem dX7_messagesThere_18 : decode cX7_messagesThere 18 = .ok (.aaload, 1) := by decide +kernel
theorem dX7_messagesThere_19 : decode cX7_messagesThere 19 = .ok (.getfield 162, 3) := by decide +kernel
theorem dX7_messagesThere_22 : decode cX7_messagesThere 22 = .ok (.invokevirtual 72, 3) := by decide +kernel
theorem dX7_messagesThere_25 : decode cX7_messagesThere 25 = .ok (.iadd, 1) := by decide +kernel
theorem dX7_messagesThere_26 : decode cX7_messagesThere 26 = .ok (.istore_n 1, 1) := by decide +kernel
theorem dX7_messagesThere_27 : decode cX7_messagesThere 27 = .ok (.iinc 2 1, 3) := by decide +kernel
theorem dX7_messagesThere_30 : decode cX7_messagesThere 30 = .ok (.goto (-26), 3) := by decide +kernel
theorem dX7_messagesThere_33 : decode cX7_messagesThere 33 = .ok (.iload_n 1, 1) := by decide +kernel
theorem dX7_messagesThere_34 : decode cX7_messagesThere 34 = .ok (.ireturn, 1) := by decide +kernel
theorem dX7_messagesWaiting_0 : decode cX7_messagesWaiting 0 = .ok (.iconst 0, 1) := by decide +kernel
theorem dX7_messagesWaiting_1 : decode cX7_messagesWaiting 1 = .ok (.istore_n 1, 1) := by decide +kernel
theorem dX7_messagesWaiting_2 : decode cX7_messagesWaiting 2 = .ok (.iconst 0, 1) := by decide +kernel
theorem dX7_messagesWaiting_3 : decode cX7_messagesWaiting 3 = .ok (.istore_n 2, 1) := by decide +kernel
theorem dX7_messagesWaiting_4 : decode cX7_messagesWaiting 4 = .ok (.iload_n 2, 1) := by decide +kernel
theorem dX7_messagesWaiting_5 : decode cX7_messagesWaiting 5 = .ok (.aload_n 0, 1) := by decide +kernel
theorem dX7_messagesWaiting_6 : decode cX7_messagesWaiting 6 = .ok (.getfield 51, 3) := by decide +kernel
theorem dX7_messagesWaiting_9 : decode cX7_messagesWaiting 9 = .ok (.if_icmp .ge 24, 3) := by decide +kernel
theorem dX7_messagesWaiting_12 : decode cX7_messagesWaiting 12 = .ok (.iload_n 1, 1) := by decide +kernel
theorem dX7_messagesWaiting_13 : decode cX7_messagesWaiting 13 = .ok (.aload_n 0, 1) := by decide +kernel
theorem dX7_messagesWaiting_14 : decode cX7_messagesWaiting 14 = .ok (.getfield 32, 3) := by decide +kernel
theorem dX7_messagesWaiting_17 : decode cX7_messagesWaiting 17 = .ok (.iload_n 2, 1) := by decide +kernel
theorem dX7_messagesWaiting_18 : decode cX7_messagesWaiting 18 = .ok (.aaload, 1) := by decide +kernel
theorem dX7_messagesWaiting_19 : decode cX7_messagesWaiting 19 = .ok (.getfield 68, 3) := by decide +kernel
theorem dX7_messagesWaiting_22 : decode cX7_messagesWaiting 22 = .ok (.invokevirtual 72, 3) := by decide +kernel
theorem dX7_messagesWaiting_25 : decode cX7_messagesWaiting 25 = .ok (.iadd, 1) := by decide +kernel
theorem dX7_messagesWaiting_26 : decode cX7_messagesWaiting 26 = .ok (.istore_n 1, 1) := by decide +kernel
theorem dX7_messagesWaiting_27 : decode cX7_messagesWaiting 27 = .ok (.iinc 2 1, 3) := by decide +kernel
theorem dX7_messagesWaiting_30 : decode cX7_messagesWaiting 30 = .ok (.goto (-26), 3) := by decide +kernel
theorem dX7_messagesWaiting_33 : decode cX7_messagesWaiting 33 = .ok (.iload_n 1, 1) := by decide +kernel
theorem dX7_messagesWaiting_34 : decode cX7_messagesWaiting 34 = .ok (.ireturn, 1) := by decide +kernel
theorem dX7_bytesWaiting_0 : decode cX7_bytesWaiting 0 = .ok (.iconst 0, 1) := by decide +kernel
theorem dX7_bytesWaiting_1 : decode cX7_bytesWaiting 1 = .ok (.istore_n 1, 1) := by decide +kernel
theorem dX7_bytesWaiting_2 : decode cX7_bytesWaiting 2 = .ok (.iconst 0, 1) := by decide +kernel
theorem dX7_bytesWaiting_3 : decode cX7_bytesWaiting 3 = .ok (.istore_n 2, 1) := by decide +kernel
theorem dX7_bytesWaiting_4 : decode cX7_bytesWaiting 4 = .ok (.iload_n 2, 1) := by decide +kernel
theorem dX7_bytesWaiting_5 : decode cX7_bytesWaiting 5 = .ok (.aload_n 0, 1) := by decide +kernel
theorem dX7_bytesWaiting_6 : decode cX7_bytesWaiting 6 = .ok (.getfield 51, 3) := by decide +kernel
theorem dX7_bytesWaiting_9 : decode cX7_bytesWaiting 9 = .ok (.if_icmp .ge 37, 3) := by decide +kernel
theorem dX7_bytesWaiting_12 : decode cX7_bytesWaiting 12 = .ok (.iload_n 1, 1) := by decide +kernel
theorem dX7_bytesWaiting_13 : decode cX7_bytesWaiting 13 = .ok (.aload_n 0, 1) := by decide +kernel
theorem dX7_bytesWaiting_14 : decode cX7_bytesWaiting 14 = .ok (.getfield 32, 3) := by decide +kernel
theorem dX7_bytesWaiting_17 : decode cX7_bytesWaiting 17 = .ok (.iload_n 2, 1) := by decide +kernel
theorem dX7_bytesWaiting_18 : decode cX7_bytesWaiting 18 = .ok (.aaload, 1) := by decide +kernel
theorem dX7_bytesWaiting_19 : decode cX7_bytesWaiting 19 = .ok (.getfield 68, 3) := by decide +kernel
theorem dX7_bytesWaiting_22 : decode cX7_bytesWaiting 22 = .ok (.getfield 165, 3) := by decide +kernel
theorem dX7_bytesWaiting_25 : decode cX7_bytesWaiting 25 = .ok (.getfield 97, 3) := by decide +kernel
theorem dX7_bytesWaiting_28 : decode cX7_bytesWaiting 28 = .ok (.aload_n 0, 1) := by decide +kernel
theorem dX7_bytesWaiting_29 : decode cX7_bytesWaiting 29 = .ok (.getfield 32, 3) := by decide +kernel
theorem dX7_bytesWaiting_32 : decode cX7_bytesWaiting 32 = .ok (.iload_n 2, 1) := by decide +kernel
theorem dX7_bytesWaiting_33 : decode cX7_bytesWaiting 33 = .ok (.aaload, 1) := by decide +kernel
theorem dX7_bytesWaiting_34 : decode cX7_bytesWaiting 34 = .ok (.getfield 168, 3) := by decide +kernel
theorem dX7_bytesWaiting_37 : decode cX7_bytesWaiting 37 = .ok (.isub, 1) := by decide +kernel
theorem dX7_bytesWaiting_38 : decode cX7_bytesWaiting 38 = .ok (.iadd, 1) := by decide +kernel
theorem dX7_bytesWaiting_39 : decode cX7_bytesWaiting 39 = .ok (.istore_n 1, 1) := by decide +kernel
theorem dX7_bytesWaiting_40 : decode cX7_bytesWaiting 40 = .ok (.iinc 2 1, 3) := by decide +kernel
theorem dX7_bytesWaiting_43 : decode cX7_bytesWaiting 43 = .ok (.goto (-39), 3) := by decide +kernel
theorem dX7_bytesWaiting_46 : decode cX7_bytesWaiting 46 = .ok (.iload_n 1, 1) := by decide +kernel
theorem dX7_bytesWaiting_47 : decode cX7_bytesWaiting 47 = .ok (.ireturn, 1) := by decide +kernel
theorem dX7_lostInAll_0 : decode cX7_lostInAll 0 = .ok (.iconst 0, 1) := by decide +kernel
theorem dX7_lostInAll_1 : decode cX7_lostInAll 1 = .ok (.istore_n 1, 1) := by decide +kernel
theorem dX7_lostInAll_2 : decode cX7_lostInAll 2 = .ok (.iconst 0, 1) := by decide +kernel
theorem dX7_lostInAll_3 : decode cX7_lostInAll 3 = .ok (.istore_n 2, 1) := by decide +kernel
theorem dX7_lostInAll_4 : decode cX7_lostInAll 4 = .ok (.iload_n 2, 1) := by decide +kernel
theorem dX7_lostInAll_5 : decode cX7_lostInAll 5 = .ok (.aload_n 0, 1) := by decide +kernel
theorem dX7_lostInAll_6 : decode cX7_lostInAll 6 = .ok (.getfield 51, 3) := by decide +kernel
theorem dX7_lostInAll_9 : decode cX7_lostInAll 9 = .ok (.if_icmp .ge 21, 3) := by decide +kernel
theorem dX7_lostInAll_12 : decode cX7_lostInAll 12 = .ok (.iload_n 1, 1) := by decide +kernel
theorem dX7_lostInAll_13 : decode cX7_lostInAll 13 = .ok (.aload_n 0, 1) := by decide +kernel
theorem dX7_lostInAll_14 : decode cX7_lostInAll 14 = .ok (.getfield 32, 3) := by decide +kernel
theorem dX7_lostInAll_17 : decode cX7_lostInAll 17 = .ok (.iload_n 2, 1) := by decide +kernel
theorem dX7_lostInAll_18 : decode cX7_lostInAll 18 = .ok (.aaload, 1) := by decide +kernel
theorem dX7_lostInAll_19 : decode cX7_lostInAll 19 = .ok (.getfield 171, 3) := by decide +kernel
theorem dX7_lostInAll_22 : decode cX7_lostInAll 22 = .ok (.iadd, 1) := by decide +kernel
theorem dX7_lostInAll_23 : decode cX7_lostInAll 23 = .ok (.istore_n 1, 1) := by decide +kernel
theorem dX7_lostInAll_24 : decode cX7_lostInAll 24 = .ok (.iinc 2 1, 3) := by decide +kernel
theorem dX7_lostInAll_27 : decode cX7_lostInAll 27 = .ok (.goto (-23), 3) := by decide +kernel
theorem dX7_lostInAll_30 : decode cX7_lostInAll 30 = .ok (.iload_n 1, 1) := by decide +kernel
theorem dX7_lostInAll_31 : decode cX7_lostInAll 31 = .ok (.ireturn, 1) := by decide +kernel
theorem dX7_tornInAll_0 : decode cX7_tornInAll 0 = .ok (.iconst 0, 1) := by decide +kernel
theorem dX7_tornInAll_1 : decode cX7_tornInAll 1 = .ok (.istore_n 1, 1) := by decide +kernel
theorem dX7_tornInAll_2 : decode cX7_tornInAll 2 = .ok (.iconst 0, 1) := by decide +kernel
theorem dX7_tornInAll_3 : decode cX7_tornInAll 3 = .ok (.istore_n 2, 1) := by decide +kernel
theorem dX7_tornInAll_4 : decode cX7_tornInAll 4 = .ok (.iload_n 2, 1) := by decide +kernel
theorem dX7_tornInAll_5 : decode cX7_tornInAll 5 = .ok (.aload_n 0, 1) := by decide +kernel
theorem dX7_tornInAll_6 : decode cX7_tornInAll 6 = .ok (.getfield 51, 3) := by decide +kernel
theorem dX7_tornInAll_9 : decode cX7_tornInAll 9 = .ok (.if_icmp .ge 21, 3) := by decide +kernel
theorem dX7_tornInAll_12 : decode cX7_tornInAll 12 = .ok (.iload_n 1, 1) := by decide +kernel
theorem dX7_tornInAll_13 : decode cX7_tornInAll 13 = .ok (.aload_n 0, 1) := by decide +kernel
theorem dX7_tornInAll_14 : decode cX7_tornInAll 14 = .ok (.getfield 32, 3) := by decide +kernel
theorem dX7_tornInAll_17 : decode cX7_tornInAll 17 = .ok (.iload_n 2, 1) := by decide +kernel
theorem dX7_tornInAll_18 : decode cX7_tornInAll 18 = .ok (.aaload, 1) := by decide +kernel
theorem dX7_tornInAll_19 : decode cX7_tornInAll 19 = .ok (.getfield 174, 3) := by decide +kernel
theorem dX7_tornInAll_22 : decode cX7_tornInAll 22 = .ok (.iadd, 1) := by decide +kernel
theorem dX7_tornInAll_23 : decode cX7_tornInAll 23 = .ok (.istore_n 1, 1) := by decide +kernel
theorem dX7_tornInAll_24 : decode cX7_tornInAll 24 = .ok (.iinc 2 1, 3) := by decide +kernel
theorem dX7_tornInAll_27 : decode cX7_tornInAll 27 = .ok (.goto (-23), 3) := by decide +kernel
theorem dX7_tornInAll_30 : decode cX7_tornInAll 30 = .ok (.iload_n 1, 1) := by decide +kernel
theorem dX7_tornInAll_31 : decode cX7_tornInAll 31 = .ok (.ireturn, 1) := by decide +kernel
theorem dX7_portWithMostLost_0 : decode cX7_portWithMostLost 0 = .ok (.iconst 0, 1) := by decide +kernel
theorem dX7_portWithMostLost_1 : decode cX7_portWithMostLost 1 = .ok (.istore_n 1, 1) := by decide +kernel
theorem dX7_portWithMostLost_2 : decode cX7_portWithMostLost 2 = .ok (.iconst 1, 1) := by decide +kernel
theorem dX7_portWithMostLost_3 : decode cX7_portWithMostLost 3 = .ok (.istore_n 2, 1) := by decide +kernel
theorem dX7_portWithMostLost_4 : decode cX7_portWithMostLost 4 = .ok (.iload_n 2, 1) := by decide +kernel
theorem dX7_portWithMostLost_5 : decode cX7_portWithMostLost 5 = .ok (.aload_n 0, 1) := by decide +kernel
theorem dX7_portWithMostLost_6 : decode cX7_portWithMostLost 6 = .ok (.getfield 51, 3) := by decide +kernel
theorem dX7_portWithMostLost_9 : decode cX7_portWithMostLost 9 = .ok (.if_icmp .ge 32, 3) := by decide +kernel
theorem dX7_portWithMostLost_12 : decode cX7_portWithMostLost 12 = .ok (.aload_n 0, 1) := by decide +kernel
theorem dX7_portWithMostLost_13 : decode cX7_portWithMostLost 13 = .ok (.getfield 32, 3) := by decide +kernel
theorem dX7_portWithMostLost_16 : decode cX7_portWithMostLost 16 = .ok (.iload_n 2, 1) := by decide +kernel
theorem dX7_portWithMostLost_17 : decode cX7_portWithMostLost 17 = .ok (.aaload, 1) := by decide +kernel
theorem dX7_portWithMostLost_18 : decode cX7_portWithMostLost 18 = .ok (.getfield 171, 3) := by decide +kernel
theorem dX7_portWithMostLost_21 : decode cX7_portWithMostLost 21 = .ok (.aload_n 0, 1) := by decide +kernel
theorem dX7_portWithMostLost_22 : decode cX7_portWithMostLost 22 = .ok (.getfield 32, 3) := by decide +kernel
theorem dX7_portWithMostLost_25 : decode cX7_portWithMostLost 25 = .ok (.iload_n 1, 1) := by decide +kernel
theorem dX7_portWithMostLost_26 : decode cX7_portWithMostLost 26 = .ok (.aaload, 1) := by decide +kernel
theorem dX7_portWithMostLost_27 : decode cX7_portWithMostLost 27 = .ok (.getfield 171, 3) := by decide +kernel
theorem dX7_portWithMostLost_30 : decode cX7_portWithMostLost 30 = .ok (.if_icmp .le 5, 3) := by decide +kernel
theorem dX7_portWithMostLost_33 : decode cX7_portWithMostLost 33 = .ok (.iload_n 2, 1) := by decide +kernel
theorem dX7_portWithMostLost_34 : decode cX7_portWithMostLost 34 = .ok (.istore_n 1, 1) := by decide +kernel
theorem dX7_portWithMostLost_35 : decode cX7_portWithMostLost 35 = .ok (.iinc 2 1, 3) := by decide +kernel
theorem dX7_portWithMostLost_38 : decode cX7_portWithMostLost 38 = .ok (.goto (-34), 3) := by decide +kernel
theorem dX7_portWithMostLost_41 : decode cX7_portWithMostLost 41 = .ok (.iload_n 1, 1) := by decide +kernel
theorem dX7_portWithMostLost_42 : decode cX7_portWithMostLost 42 = .ok (.ireturn, 1) := by decide +kernel
theorem dX7_eventsUnreadable_0 : decode cX7_eventsUnreadable 0 = .ok (.iconst 0, 1) := by decide +kernel
theorem dX7_eventsUnreadable_1 : decode cX7_eventsUnreadable 1 = .ok (.istore_n 1, 1) := by decide +kernel
theorem dX7_eventsUnreadable_2 : decode cX7_eventsUnreadable 2 = .ok (.iconst 0, 1) := by decide +kernel
theorem dX7_eventsUnreadable_3 : decode cX7_eventsUnreadable 3 = .ok (.istore_n 2, 1) := by decide +kernel
theorem dX7_eventsUnreadable_4 : decode cX7_eventsUnreadable 4 = .ok (.iload_n 2, 1) := by decide +kernel
theorem dX7_eventsUnreadable_5 : decode cX7_eventsUnreadable 5 = .ok (.aload_n 0, 1) := by decide +kernel
theorem dX7_eventsUnreadable_6 : decode cX7_eventsUnreadable 6 = .ok (.getfield 23, 3) := by decide +kernel
theorem dX7_eventsUnreadable_9 : decode cX7_eventsUnreadable 9 = .ok (.getfield 97, 3) := by decide +kernel
theorem dX7_eventsUnreadable_12 : decode cX7_eventsUnreadable 12 = .ok (.if_icmp .ge 36, 3) := by decide +kernel
theorem dX7_eventsUnreadable_15 : decode cX7_eventsUnreadable 15 = .ok (.aload_n 0, 1) := by decide +kernel
theorem dX7_eventsUnreadable_16 : decode cX7_eventsUnreadable 16 = .ok (.getfield 23, 3) := by decide +kernel
theorem dX7_eventsUnreadable_19 : decode cX7_eventsUnreadable 19 = .ok (.iload_n 2, 1) := by decide +kernel
theorem dX7_eventsUnreadable_20 : decode cX7_eventsUnreadable 20 = .ok (.invokevirtual 123, 3) := by decide +kernel
theorem dX7_eventsUnreadable_23 : decode cX7_eventsUnreadable 23 = .ok (.istore_n 3, 1) := by decide +kernel
theorem dX7_eventsUnreadable_24 : decode cX7_eventsUnreadable 24 = .ok (.iload_n 1, 1) := by decide +kernel
theorem dX7_eventsUnreadable_25 : decode cX7_eventsUnreadable 25 = .ok (.iload_n 3, 1) := by decide +kernel
theorem dX7_eventsUnreadable_26 : decode cX7_eventsUnreadable 26 = .ok (.iconst 2, 1) := by decide +kernel
theorem dX7_eventsUnreadable_27 : decode cX7_eventsUnreadable 27 = .ok (.if_icmp .eq 8, 3) := by decide +kernel
theorem dX7_eventsUnreadable_30 : decode cX7_eventsUnreadable 30 = .ok (.iload_n 3, 1) := by decide +kernel
theorem dX7_eventsUnreadable_31 : decode cX7_eventsUnreadable 31 = .ok (.iconst 3, 1) := by decide +kernel
theorem dX7_eventsUnreadable_32 : decode cX7_eventsUnreadable 32 = .ok (.if_icmp .ne 7, 3) := by decide +kernel
theorem dX7_eventsUnreadable_35 : decode cX7_eventsUnreadable 35 = .ok (.iconst 1, 1) := by decide +kernel
theorem dX7_eventsUnreadable_36 : decode cX7_eventsUnreadable 36 = .ok (.goto 4, 3) := by decide +kernel
theorem dX7_eventsUnreadable_39 : decode cX7_eventsUnreadable 39 = .ok (.iconst 0, 1) := by decide +kernel
theorem dX7_eventsUnreadable_40 : decode cX7_eventsUnreadable 40 = .ok (.iadd, 1) := by decide +kernel
theorem dX7_eventsUnreadable_41 : decode cX7_eventsUnreadable 41 = .ok (.istore_n 1, 1) := by decide +kernel
theorem dX7_eventsUnreadable_42 : decode cX7_eventsUnreadable 42 = .ok (.iinc 2 5, 3) := by decide +kernel
theorem dX7_eventsUnreadable_45 : decode cX7_eventsUnreadable 45 = .ok (.goto (-41), 3) := by decide +kernel
theorem dX7_eventsUnreadable_48 : decode cX7_eventsUnreadable 48 = .ok (.iload_n 1, 1) := by decide +kernel
theorem dX7_eventsUnreadable_49 : decode cX7_eventsUnreadable 49 = .ok (.ireturn, 1) := by decide +kernel
theorem dX8_init_0 : decode cX8_init 0 = .ok (.aload_n 0, 1) := by decide +kernel
theorem dX8_init_1 : decode cX8_init 1 = .ok (.invokespecial 3, 3) := by decide +kernel
theorem dX8_init_4 : decode cX8_init 4 = .ok (.aload_n 0, 1) := by decide +kernel
theorem dX8_init_5 : decode cX8_init 5 = .ok (.bipush 20, 2) := by decide +kernel
theorem dX8_init_7 : decode cX8_init 7 = .ok (.putfield 9, 3) := by decide +kernel
theorem dX8_init_10 : decode cX8_init 10 = .ok (.aload_n 0, 1) := by decide +kernel
theorem dX8_init_11 : decode cX8_init 11 = .ok (.bipush 10, 2) := by decide +kernel
theorem dX8_init_13 : decode cX8_init 13 = .ok (.putfield 15, 3) := by decide +kernel
theorem dX8_init_16 : decode cX8_init 16 = .ok (.return_, 1) := by decide +kernel
theorem dX8_widest_0 : decode cX8_widest 0 = .ok (.iload_n 1, 1) := by decide +kernel
theorem dX8_widest_1 : decode cX8_widest 1 = .ok (.iconst 1, 1) := by decide +kernel
theorem dX8_widest_2 : decode cX8_widest 2 = .ok (.aload_n 0, 1) := by decide +kernel
theorem dX8_widest_3 : decode cX8_widest 3 = .ok (.getfield 9, 3) := by decide +kernel
theorem dX8_widest_6 : decode cX8_widest 6 = .ok (.iconst 1, 1) := by decide +kernel
theorem dX8_widest_7 : decode cX8_widest 7 = .ok (.if_icmp .ge 7, 3) := by decide +kernel
theorem dX8_widest_10 : decode cX8_widest 10 = .ok (.iload_n 1, 1) := by decide +kernel
theorem dX8_widest_11 : decode cX8_widest 11 = .ok (.goto 16, 3) := by decide +kernel
theorem dX8_widest_14 : decode cX8_widest 14 = .ok (.iload_n 1, 1) := by decide +kernel
theorem dX8_widest_15 : decode cX8_widest 15 = .ok (.aload_n 0, 1) := by decide +kernel
theorem dX8_widest_16 : decode cX8_widest 16 = .ok (.getfield 9, 3) := by decide +kernel
theorem dX8_widest_19 : decode cX8_widest 19 = .ok (.iadd, 1) := by decide +kernel
theorem dX8_widest_20 : decode cX8_widest 20 = .ok (.iconst 1, 1) := by decide +kernel
theorem dX8_widest_21 : decode cX8_widest 21 = .ok (.isub, 1) := by decide +kernel
theorem dX8_widest_22 : decode cX8_widest 22 = .ok (.aload_n 0, 1) := by decide +kernel
theorem dX8_widest_23 : decode cX8_widest 23 = .ok (.getfield 9, 3) := by decide +kernel
theorem dX8_widest_26 : decode cX8_widest 26 = .ok (.idiv, 1) := by decide +kernel
theorem dX8_widest_27 : decode cX8_widest 27 = .ok (.invokestatic 18, 3) := by decide +kernel
theorem dX8_widest_30 : decode cX8_widest 30 = .ok (.iadd, 1) := by decide +kernel
theorem dX8_widest_31 : decode cX8_widest 31 = .ok (.ireturn, 1) := by decide +kernel
theorem dX8_pack_0 : decode cX8_pack 0 = .ok (.aload_n 3, 1) := by decide +kernel
theorem dX8_pack_1 : decode cX8_pack 1 = .ok (.invokevirtual 24, 3) := by decide +kernel
theorem dX8_pack_4 : decode cX8_pack 4 = .ok (.iconst 0, 1) := by decide +kernel
theorem dX8_pack_5 : decode cX8_pack 5 = .ok (.istore 4, 2) := by decide +kernel
theorem dX8_pack_7 : decode cX8_pack 7 = .ok (.iconst 1, 1) := by decide +kernel
theorem dX8_pack_8 : decode cX8_pack 8 = .ok (.istore 5, 2) := by decide +kernel
theorem dX8_pack_10 : decode cX8_pack 10 = .ok (.iconst 0, 1) := by decide +kernel
theorem dX8_pack_11 : decode cX8_pack 11 = .ok (.istore 6, 2) := by decide +kernel
theorem dX8_pack_13 : decode cX8_pack 13 = .ok (.iload 5, 2) := by decide +kernel
theorem dX8_pack_15 : decode cX8_pack 15 = .ok (.ifCond .eq 159, 3) := by decide +kernel
theorem dX8_pack_18 : decode cX8_pack 18 = .ok (.iload 6, 2) := by decide +kernel
theorem dX8_pack_20 : decode cX8_pack 20 = .ok (.aload_n 1, 1) := by decide +kernel
theorem dX8_pack_21 : decode cX8_pack 21 = .ok (.getfield 29, 3) := by decide +kernel
theorem dX8_pack_24 : decode cX8_pack 24 = .ok (.if_icmp .gt 150, 3) := by decide +kernel
theorem dX8_pack_27 : decode cX8_pack 27 = .ok (.aload_n 0, 1) := by decide +kernel
theorem dX8_pack_28 : decode cX8_pack 28 = .ok (.aload_n 1, 1) := by decide +kernel
theorem dX8_pack_29 : decode cX8_pack 29 = .ok (.iload 4, 2) := by decide +kernel
theorem dX8_pack_31 : decode cX8_pack 31 = .ok (.invokevirtual 32, 3) := by decide +kernel
theorem dX8_pack_34 : decode cX8_pack 34 = .ok (.istore 7, 2) := by decide +kernel
theorem dX8_pack_36 : decode cX8_pack 36 = .ok (.iload 4, 2) := by decide +kernel
theorem dX8_pack_38 : decode cX8_pack 38 = .ok (.iload 7, 2) := by decide +kernel
theorem dX8_pack_40 : decode cX8_pack 40 = .ok (.iadd, 1) := by decide +kernel
theorem dX8_pack_41 : decode cX8_pack 41 = .ok (.istore 8, 2) := by decide +kernel
theorem dX8_pack_43 : decode cX8_pack 43 = .ok (.aload_n 0, 1) := by decide +kernel
theorem dX8_pack_44 : decode cX8_pack 44 = .ok (.aload_n 1, 1) := by decide +kernel
theorem dX8_pack_45 : decode cX8_pack 45 = .ok (.iload 8, 2) := by decide +kernel
theorem dX8_pack_47 : decode cX8_pack 47 = .ok (.iload 7, 2) := by decide +kernel
theorem dX8_pack_49 : decode cX8_pack 49 = .ok (.iload_n 2, 1) := by decide +kernel
theorem dX8_pack_50 : decode cX8_pack 50 = .ok (.invokevirtual 36, 3) := by decide +kernel
theorem dX8_pack_53 : decode cX8_pack 53 = .ok (.istore 9, 2) := by decide +kernel
theorem dX8_pack_55 : decode cX8_pack 55 = .ok (.aload_n 3, 1) := by decide +kernel
theorem dX8_pack_56 : decode cX8_pack 56 = .ok (.getfield 29, 3) := by decide +kernel
theorem dX8_pack_59 : decode cX8_pack 59 = .ok (.istore 10, 2) := by decide +kernel
theorem dX8_pack_61 : decode cX8_pack 61 = .ok (.aload_n 3, 1) := by decide +kernel
theorem dX8_pack_62 : decode cX8_pack 62 = .ok (.iload 9, 2) := by decide +kernel
theorem dX8_pack_64 : decode cX8_pack 64 = .ok (.invokevirtual 40, 3) := by decide +kernel
theorem dX8_pack_67 : decode cX8_pack 67 = .ok (.aload_n 3, 1) := by decide +kernel
theorem dX8_pack_68 : decode cX8_pack 68 = .ok (.aload_n 1, 1) := by decide +kernel
theorem dX8_pack_69 : decode cX8_pack 69 = .ok (.iload 4, 2) := by decide +kernel
theorem dX8_pack_71 : decode cX8_pack 71 = .ok (.iload 7, 2) := by decide +kernel
theorem dX8_pack_73 : decode cX8_pack 73 = .ok (.invokevirtual 44, 3) := by decide +kernel
theorem dX8_pack_76 : decode cX8_pack 76 = .ok (.iload 9, 2) := by decide +kernel
theorem dX8_pack_78 : decode cX8_pack 78 = .ok (.aload_n 0, 1) := by decide +kernel
theorem dX8_pack_79 : decode cX8_pack 79 = .ok (.getfield 9, 3) := by decide +kernel
theorem dX8_pack_82 : decode cX8_pack 82 = .ok (.if_icmp .gt 16, 3) := by decide +kernel
theorem dX8_pack_85 : decode cX8_pack 85 = .ok (.iload 8, 2) := by decide +kernel
theorem dX8_pack_87 : decode cX8_pack 87 = .ok (.aload_n 1, 1) := by decide +kernel
theorem dX8_pack_88 : decode cX8_pack 88 = .ok (.getfield 29, 3) := by decide +kernel
theorem dX8_pack_91 : decode cX8_pack 91 = .ok (.if_icmp .ge 7, 3) := by decide +kernel
theorem dX8_pack_94 : decode cX8_pack 94 = .ok (.iconst 1, 1) := by decide +kernel
theorem dX8_pack_95 : decode cX8_pack 95 = .ok (.goto 4, 3) := by decide +kernel
theorem dX8_pack_98 : decode cX8_pack 98 = .ok (.iconst 0, 1) := by decide +kernel
theorem dX8_pack_99 : decode cX8_pack 99 = .ok (.istore 11, 2) := by decide +kernel
theorem dX8_pack_101 : decode cX8_pack 101 = .ok (.iload 8, 2) := by decide +kernel
theorem dX8_pack_103 : decode cX8_pack 103 = .ok (.iload 11, 2) := by decide +kernel
theorem dX8_pack_105 : decode cX8_pack 105 = .ok (.ifCond .eq 7, 3) := by decide +kernel
theorem dX8_pack_108 : decode cX8_pack 108 = .ok (.iconst 1, 1) := by decide +kernel
theorem dX8_pack_109 : decode cX8_pack 109 = .ok (.goto 19, 3) := by decide +kernel
theorem dX8_pack_112 : decode cX8_pack 112 = .ok (.iload 9, 2) := by decide +kernel
theorem dX8_pack_114 : decode cX8_pack 114 = .ok (.aload_n 0, 1) := by decide +kernel
theorem dX8_pack_115 : decode cX8_pack 115 = .ok (.getfield 9, 3) := by decide +kernel
theorem dX8_pack_118 : decode cX8_pack 118 = .ok (.iconst 1, 1) := by decide +kernel
theorem dX8_pack_119 : decode cX8_pack 119 = .ok (.iadd, 1) := by decide +kernel
theorem dX8_pack_120 : decode cX8_pack 120 = .ok (.if_icmp .le 7, 3) := by decide +kernel
theorem dX8_pack_123 : decode cX8_pack 123 = .ok (.iconst 2, 1) := by decide +kernel
theorem dX8_pack_124 : decode cX8_pack 124 = .ok (.goto 4, 3) := by decide +kernel
theorem dX8_pack_127 : decode cX8_pack 127 = .ok (.iconst 0, 1) := by decide +kernel
theorem dX8_pack_128 : decode cX8_pack 128 = .ok (.iadd, 1) := by decide +kernel
theorem dX8_pack_129 : decode cX8_pack 129 = .ok (.istore 4, 2) := by decide +kernel
theorem dX8_pack_131 : decode cX8_pack 131 = .ok (.iload 11, 2) := by decide +kernel
theorem dX8_pack_133 : decode cX8_pack 133 = .ok (.ifCond .ne 12, 3) := by decide +kernel
theorem dX8_pack_136 : decode cX8_pack 136 = .ok (.iload 4, 2) := by decide +kernel
theorem dX8_pack_138 : decode cX8_pack 138 = .ok (.aload_n 1, 1) := by decide +kernel
theorem dX8_pack_139 : decode cX8_pack 139 = .ok (.getfield 29, 3) := by decide +kernel
theorem dX8_pack_142 : decode cX8_pack 142 = .ok (.if_icmp .ge 7, 3) := by decide +kernel
theorem dX8_pack_145 : decode cX8_pack 145 = .ok (.iconst 1, 1) := by decide +kernel
theorem dX8_pack_146 : decode cX8_pack 146 = .ok (.goto 4, 3) := by decide +kernel
theorem dX8_pack_149 : decode cX8_pack 149 = .ok (.iconst 0, 1) := by decide +kernel
theorem dX8_pack_150 : decode cX8_pack 150 = .ok (.istore 5, 2) := by decide +kernel
theorem dX8_pack_152 : decode cX8_pack 152 = .ok (.iload 5, 2) := by decide +kernel
theorem dX8_pack_154 : decode cX8_pack 154 = .ok (.ifCond .ne 14, 3) := by decide +kernel
theorem dX8_pack_157 : decode cX8_pack 157 = .ok (.iload_n 2, 1) := by decide +kernel
theorem dX8_pack_158 : decode cX8_pack 158 = .ok (.iconst 2, 1) := by decide +kernel
theorem dX8_pack_159 : decode cX8_pack 159 = .ok (.if_icmp .ne 9, 3) := by decide +kernel
theorem dX8_pack_162 : decode cX8_pack 162 = .ok (.aload_n 3, 1) := by decide +kernel
theorem dX8_pack_163 : decode cX8_pack 163 = .ok (.iload 10, 2) := by decide +kernel
theorem dX8_pack_165 : decode cX8_pack 165 = .ok (.invokestatic 48, 3) := by decide +kernel
theorem dX8_pack_168 : decode cX8_pack 168 = .ok (.iinc 6 1, 3) := by decide +kernel
theorem dX8_pack_171 : decode cX8_pack 171 = .ok (.goto (-158), 3) := by decide +kernel
theorem dX8_pack_174 : decode cX8_pack 174 = .ok (.return_, 1) := by decide +kernel
theorem dX8_runFrom_0 : decode cX8_runFrom 0 = .ok (.iconst 0, 1) := by decide +kernel
theorem dX8_runFrom_1 : decode cX8_runFrom 1 = .ok (.istore_n 3, 1) := by decide +kernel
theorem dX8_runFrom_2 : decode cX8_runFrom 2 = .ok (.iload_n 3, 1) := by decide +kernel
theorem dX8_runFrom_3 : decode cX8_runFrom 3 = .ok (.aload_n 0, 1) := by decide +kernel
theorem dX8_runFrom_4 : decode cX8_runFrom 4 = .ok (.getfield 9, 3) := by decide +kernel
theorem dX8_runFrom_7 : decode cX8_runFrom 7 = .ok (.if_icmp .ge 19, 3) := by decide +kernel
theorem dX8_runFrom_10 : decode cX8_runFrom 10 = .ok (.aload_n 1, 1) := by decide +kernel
theorem dX8_runFrom_11 : decode cX8_runFrom 11 = .ok (.iload_n 2, 1) := by decide +kernel
theorem dX8_runFrom_12 : decode cX8_runFrom 12 = .ok (.iload_n 3, 1) := by decide +kernel
theorem dX8_runFrom_13 : decode cX8_runFrom 13 = .ok (.iadd, 1) := by decide +kernel
theorem dX8_runFrom_14 : decode cX8_runFrom 14 = .ok (.invokevirtual 52, 3) := by decide +kernel
theorem dX8_runFrom_17 : decode cX8_runFrom 17 = .ok (.ifCond .le 9, 3) := by decide +kernel
theorem dX8_runFrom_20 : decode cX8_runFrom 20 = .ok (.iinc 3 1, 3) := by decide +kernel
theorem dX8_runFrom_23 : decode cX8_runFrom 23 = .ok (.goto (-21), 3) := by decide +kernel
theorem dX8_runFrom_26 : decode cX8_runFrom 26 = .ok (.iload_n 3, 1) := by decide +kernel
theorem dX8_runFrom_27 : decode cX8_runFrom 27 = .ok (.ireturn, 1) := by decide +kernel
theorem dX8_codeOf_0 : decode cX8_codeOf 0 = .ok (.iload_n 3, 1) := by decide +kernel
theorem dX8_codeOf_1 : decode cX8_codeOf 1 = .ok (.aload_n 0, 1) := by decide +kernel
theorem dX8_codeOf_2 : decode cX8_codeOf 2 = .ok (.getfield 9, 3) := by decide +kernel
theorem dX8_codeOf_5 : decode cX8_codeOf 5 = .ok (.if_icmp .ge 15, 3) := by decide +kernel
theorem dX8_codeOf_8 : decode cX8_codeOf 8 = .ok (.iload_n 3, 1) := by decide +kernel
theorem dX8_codeOf_9 : decode cX8_codeOf 9 = .ok (.aload_n 0, 1) := by decide +kernel
theorem dX8_codeOf_10 : decode cX8_codeOf 10 = .ok (.getfield 15, 3) := by decide +kernel
theorem dX8_codeOf_13 : decode cX8_codeOf 13 = .ok (.if_icmp .ge 7, 3) := by decide +kernel
theorem dX8_codeOf_16 : decode cX8_codeOf 16 = .ok (.iconst 1, 1) := by decide +kernel
theorem dX8_codeOf_17 : decode cX8_codeOf 17 = .ok (.goto 4, 3) := by decide +kernel
theorem dX8_codeOf_20 : decode cX8_codeOf 20 = .ok (.iconst 0, 1) := by decide +kernel
theorem dX8_codeOf_21 : decode cX8_codeOf 21 = .ok (.istore 5, 2) := by decide +kernel
theorem dX8_codeOf_23 : decode cX8_codeOf 23 = .ok (.aload_n 1, 1) := by decide +kernel
theorem dX8_codeOf_24 : decode cX8_codeOf 24 = .ok (.iload_n 2, 1) := by decide +kernel
theorem dX8_codeOf_25 : decode cX8_codeOf 25 = .ok (.invokevirtual 52, 3) := by decide +kernel
theorem dX8_codeOf_28 : decode cX8_codeOf 28 = .ok (.ifCond .ne 17, 3) := by decide +kernel
theorem dX8_codeOf_31 : decode cX8_codeOf 31 = .ok (.aload_n 1, 1) := by decide +kernel
theorem dX8_codeOf_32 : decode cX8_codeOf 32 = .ok (.iload_n 2, 1) := by decide +kernel
theorem dX8_codeOf_33 : decode cX8_codeOf 33 = .ok (.iconst 1, 1) := by decide +kernel
theorem dX8_codeOf_34 : decode cX8_codeOf 34 = .ok (.iadd, 1) := by decide +kernel
theorem dX8_codeOf_35 : decode cX8_codeOf 35 = .ok (.invokevirtual 52, 3) := by decide +kernel
theorem dX8_codeOf_38 : decode cX8_codeOf 38 = .ok (.ifCond .ne 7, 3) := by decide +kernel
theorem dX8_codeOf_41 : decode cX8_codeOf 41 = .ok (.iconst 1, 1) := by decide +kernel
theorem dX8_codeOf_42 : decode cX8_codeOf 42 = .ok (.goto 4, 3) := by decide +kernel
theorem dX8_codeOf_45 : decode cX8_codeOf 45 = .ok (.iconst 0, 1) := by decide +kernel
theorem dX8_codeOf_46 : decode cX8_codeOf 46 = .ok (.istore 6, 2) := by decide +kernel
theorem dX8_codeOf_48 : decode cX8_codeOf 48 = .ok (.iload 4, 2) := by decide +kernel
theorem dX8_codeOf_50 : decode cX8_codeOf 50 = .ok (.iconst 1, 1) := by decide +kernel
theorem dX8_codeOf_51 : decode cX8_codeOf 51 = .ok (.if_icmp .ne 24, 3) := by decide +kernel
theorem dX8_codeOf_54 : decode cX8_codeOf 54 = .ok (.iload 5, 2) := by decide +kernel
theorem dX8_codeOf_56 : decode cX8_codeOf 56 = .ok (.ifCond .eq 19, 3) := by decide +kernel
theorem dX8_codeOf_59 : decode cX8_codeOf 59 = .ok (.iload 6, 2) := by decide +kernel
theorem dX8_codeOf_61 : decode cX8_codeOf 61 = .ok (.ifCond .eq 14, 3) := by decide +kernel
theorem dX8_codeOf_64 : decode cX8_codeOf 64 = .ok (.aload_n 0, 1) := by decide +kernel
theorem dX8_codeOf_65 : decode cX8_codeOf 65 = .ok (.getfield 9, 3) := by decide +kernel
theorem dX8_codeOf_68 : decode cX8_codeOf 68 = .ok (.iconst 2, 1) := by decide +kernel
theorem dX8_codeOf_69 : decode cX8_codeOf 69 = .ok (.iadd, 1) := by decide +kernel
theorem dX8_codeOf_70 : decode cX8_codeOf 70 = .ok (.iload_n 3, 1) := by decide +kernel
theorem dX8_codeOf_71 : decode cX8_codeOf 71 = .ok (.iadd, 1) := by decide +kernel
theorem dX8_codeOf_72 : decode cX8_codeOf 72 = .ok (.goto 6, 3) := by decide +kernel
theorem dX8_codeOf_75 : decode cX8_codeOf 75 = .ok (.iload_n 3, 1) := by decide +kernel
theorem dX8_codeOf_76 : decode cX8_codeOf 76 = .ok (.iconst 1, 1) := by decide +kernel
theorem dX8_codeOf_77 : decode cX8_codeOf 77 = .ok (.iadd, 1) := by decide +kernel
theorem dX8_codeOf_78 : decode cX8_codeOf 78 = .ok (.ireturn, 1) := by decide +kernel
theorem dX8_reduce_0 : decode cX8_reduce 0 = .ok (.aload_n 0, 1) := by decide +kernel
theorem dX8_reduce_1 : decode cX8_reduce 1 = .ok (.getfield 29, 3) := by decide +kernel
theorem dX8_reduce_4 : decode cX8_reduce 4 = .ok (.iconst 1, 1) := by decide +kernel
theorem dX8_reduce_5 : decode cX8_reduce 5 = .ok (.isub, 1) := by decide +kernel
theorem dX8_reduce_6 : decode cX8_reduce 6 = .ok (.istore_n 2, 1) := by decide +kernel
theorem dX8_reduce_7 : decode cX8_reduce 7 = .ok (.iload_n 2, 1) := by decide +kernel
theorem dX8_reduce_8 : decode cX8_reduce 8 = .ok (.iload_n 1, 1) := by decide +kernel
theorem dX8_reduce_9 : decode cX8_reduce 9 = .ok (.if_icmp .le 31, 3) := by decide +kernel
theorem dX8_reduce_12 : decode cX8_reduce 12 = .ok (.aload_n 0, 1) := by decide +kernel
theorem dX8_reduce_13 : decode cX8_reduce 13 = .ok (.iload_n 2, 1) := by decide +kernel
theorem dX8_reduce_14 : decode cX8_reduce 14 = .ok (.invokevirtual 52, 3) := by decide +kernel
theorem dX8_reduce_17 : decode cX8_reduce 17 = .ok (.aload_n 0, 1) := by decide +kernel
theorem dX8_reduce_18 : decode cX8_reduce 18 = .ok (.iload_n 1, 1) := by decide +kernel
theorem dX8_reduce_19 : decode cX8_reduce 19 = .ok (.invokevirtual 52, 3) := by decide +kernel
theorem dX8_reduce_22 : decode cX8_reduce 22 = .ok (.if_icmp .lt 18, 3) := by decide +kernel
theorem dX8_reduce_25 : decode cX8_reduce 25 = .ok (.aload_n 0, 1) := by decide +kernel
theorem dX8_reduce_26 : decode cX8_reduce 26 = .ok (.iload_n 1, 1) := by decide +kernel
theorem dX8_reduce_27 : decode cX8_reduce 27 = .ok (.aload_n 0, 1) := by decide +kernel
theorem dX8_reduce_28 : decode cX8_reduce 28 = .ok (.iload_n 2, 1) := by decide +kernel
theorem dX8_reduce_29 : decode cX8_reduce 29 = .ok (.invokevirtual 52, 3) := by decide +kernel
theorem dX8_reduce_32 : decode cX8_reduce 32 = .ok (.invokevirtual 56, 3) := by decide +kernel
theorem dX8_reduce_35 : decode cX8_reduce 35 = .ok (.aload_n 0, 1) := by decide +kernel
theorem dX8_reduce_36 : decode cX8_reduce 36 = .ok (.iload_n 2, 1) := by decide +kernel
theorem dX8_reduce_37 : decode cX8_reduce 37 = .ok (.putfield 29, 3) := by decide +kernel
theorem dX8_reduce_40 : decode cX8_reduce 40 = .ok (.return_, 1) := by decide +kernel
theorem dX8_unpack_0 : decode cX8_unpack 0 = .ok (.aload 5, 2) := by decide +kernel
theorem dX8_unpack_2 : decode cX8_unpack 2 = .ok (.invokevirtual 24, 3) := by decide +kernel
theorem dX8_unpack_5 : decode cX8_unpack 5 = .ok (.iload_n 3, 1) := by decide +kernel
theorem dX8_unpack_6 : decode cX8_unpack 6 = .ok (.ifCond .gt 5, 3) := by decide +kernel
theorem dX8_unpack_9 : decode cX8_unpack 9 = .ok (.iconst 0, 1) := by decide +kernel
theorem dX8_unpack_10 : decode cX8_unpack 10 = .ok (.ireturn, 1) := by decide +kernel
theorem dX8_unpack_11 : decode cX8_unpack 11 = .ok (.iconst 0, 1) := by decide +kernel
theorem dX8_unpack_12 : decode cX8_unpack 12 = .ok (.istore 6, 2) := by decide +kernel
theorem dX8_unpack_14 : decode cX8_unpack 14 = .ok (.iconst 0, 1) := by decide +kernel
theorem dX8_unpack_15 : decode cX8_unpack 15 = .ok (.istore 7, 2) := by decide +kernel
theorem dX8_unpack_17 : decode cX8_unpack 17 = .ok (.iload 6, 2) := by decide +kernel
theorem dX8_unpack_19 : decode cX8_unpack 19 = .ok (.iload_n 3, 1) := by decide +kernel
theorem dX8_unpack_20 : decode cX8_unpack 20 = .ok (.if_icmp .ge 168, 3) := by decide +kernel
theorem dX8_unpack_23 : decode cX8_unpack 23 = .ok (.iload 7, 2) := by decide +kernel
theorem dX8_unpack_25 : decode cX8_unpack 25 = .ok (.iload_n 3, 1) := by decide +kernel
theorem dX8_unpack_26 : decode cX8_unpack 26 = .ok (.if_icmp .ge 162, 3) := by decide +kernel
theorem dX8_unpack_29 : decode cX8_unpack 29 = .ok (.aload_n 1, 1) := by decide +kernel
theorem dX8_unpack_30 : decode cX8_unpack 30 = .ok (.iload_n 2, 1) := by decide +kernel
theorem dX8_unpack_31 : decode cX8_unpack 31 = .ok (.iload 6, 2) := by decide +kernel
theorem dX8_unpack_33 : decode cX8_unpack 33 = .ok (.iadd, 1) := by decide +kernel
theorem dX8_unpack_34 : decode cX8_unpack 34 = .ok (.invokevirtual 52, 3) := by decide +kernel
theorem dX8_unpack_37 : decode cX8_unpack 37 = .ok (.istore 8, 2) := by decide +kernel
theorem dX8_unpack_39 : decode cX8_unpack 39 = .ok (.iload_n 3, 1) := by decide +kernel
theorem dX8_unpack_40 : decode cX8_unpack 40 = .ok (.iload 6, 2) := by decide +kernel
theorem dX8_unpack_42 : decode cX8_unpack 42 = .ok (.isub, 1) := by decide +kernel
theorem dX8_unpack_43 : decode cX8_unpack 43 = .ok (.iconst 1, 1) := by decide +kernel
theorem dX8_unpack_44 : decode cX8_unpack 44 = .ok (.isub, 1) := by decide +kernel
theorem dX8_unpack_45 : decode cX8_unpack 45 = .ok (.istore 9, 2) := by decide +kernel
theorem dX8_unpack_47 : decode cX8_unpack 47 = .ok (.aload_n 0, 1) := by decide +kernel
theorem dX8_unpack_48 : decode cX8_unpack 48 = .ok (.iload 8, 2) := by decide +kernel
theorem dX8_unpack_50 : decode cX8_unpack 50 = .ok (.iload 9, 2) := by decide +kernel
theorem dX8_unpack_52 : decode cX8_unpack 52 = .ok (.iload 4, 2) := by decide +kernel
theorem dX8_unpack_54 : decode cX8_unpack 54 = .ok (.invokevirtual 60, 3) := by decide +kernel
theorem dX8_unpack_57 : decode cX8_unpack 57 = .ok (.istore 10, 2) := by decide +kernel
theorem dX8_unpack_59 : decode cX8_unpack 59 = .ok (.iload 10, 2) := by decide +kernel
theorem dX8_unpack_61 : decode cX8_unpack 61 = .ok (.iconst (-1), 1) := by decide +kernel
theorem dX8_unpack_62 : decode cX8_unpack 62 = .ok (.if_icmp .ne 6, 3) := by decide +kernel
theorem dX8_unpack_65 : decode cX8_unpack 65 = .ok (.iload 6, 2) := by decide +kernel
theorem dX8_unpack_67 : decode cX8_unpack 67 = .ok (.ireturn, 1) := by decide +kernel
theorem dX8_unpack_68 : decode cX8_unpack 68 = .ok (.iconst 1, 1) := by decide +kernel
theorem dX8_unpack_69 : decode cX8_unpack 69 = .ok (.istore 11, 2) := by decide +kernel
theorem dX8_unpack_71 : decode cX8_unpack 71 = .ok (.iload 11, 2) := by decide +kernel
theorem dX8_unpack_73 : decode cX8_unpack 73 = .ok (.iload 10, 2) := by decide +kernel
theorem dX8_unpack_75 : decode cX8_unpack 75 = .ok (.if_icmp .gt 40, 3) := by decide +kernel
theorem dX8_unpack_78 : decode cX8_unpack 78 = .ok (.aload_n 1, 1) := by decide +kernel
theorem dX8_unpack_79 : decode cX8_unpack 79 = .ok (.iload_n 2, 1) := by decide +kernel
theorem dX8_unpack_80 : decode cX8_unpack 80 = .ok (.iload 6, 2) := by decide +kernel
theorem dX8_unpack_82 : decode cX8_unpack 82 = .ok (.iadd, 1) := by decide +kernel
theorem dX8_unpack_83 : decode cX8_unpack 83 = .ok (.iload 11, 2) := by decide +kernel
theorem dX8_unpack_85 : decode cX8_unpack 85 = .ok (.iadd, 1) := by decide +kernel
theorem dX8_unpack_86 : decode cX8_unpack 86 = .ok (.invokevirtual 52, 3) := by decide +kernel
theorem dX8_unpack_89 : decode cX8_unpack 89 = .ok (.istore 12, 2) := by decide +kernel
theorem dX8_unpack_91 : decode cX8_unpack 91 = .ok (.iload 12, 2) := by decide +kernel
theorem dX8_unpack_93 : decode cX8_unpack 93 = .ok (.ifCond .gt 9, 3) := by decide +kernel
theorem dX8_unpack_96 : decode cX8_unpack 96 = .ok (.iload 6, 2) := by decide +kernel
theorem dX8_unpack_98 : decode cX8_unpack 98 = .ok (.iload 11, 2) := by decide +kernel
theorem dX8_unpack_100 : decode cX8_unpack 100 = .ok (.iadd, 1) := by decide +kernel
theorem dX8_unpack_101 : decode cX8_unpack 101 = .ok (.ireturn, 1) := by decide +kernel
theorem dX8_unpack_102 : decode cX8_unpack 102 = .ok (.aload 5, 2) := by decide +kernel
theorem dX8_unpack_104 : decode cX8_unpack 104 = .ok (.iload 12, 2) := by decide +kernel
theorem dX8_unpack_106 : decode cX8_unpack 106 = .ok (.invokevirtual 40, 3) := by decide +kernel
theorem dX8_unpack_109 : decode cX8_unpack 109 = .ok (.iinc 11 1, 3) := by decide +kernel
theorem dX8_unpack_112 : decode cX8_unpack 112 = .ok (.goto (-41), 3) := by decide +kernel
theorem dX8_unpack_115 : decode cX8_unpack 115 = .ok (.iload 6, 2) := by decide +kernel
theorem dX8_unpack_117 : decode cX8_unpack 117 = .ok (.iconst 1, 1) := by decide +kernel
theorem dX8_unpack_118 : decode cX8_unpack 118 = .ok (.iload 10, 2) := by decide +kernel
theorem dX8_unpack_120 : decode cX8_unpack 120 = .ok (.iadd, 1) := by decide +kernel
theorem dX8_unpack_121 : decode cX8_unpack 121 = .ok (.iadd, 1) := by decide +kernel
theorem dX8_unpack_122 : decode cX8_unpack 122 = .ok (.istore 6, 2) := by decide +kernel
theorem dX8_unpack_124 : decode cX8_unpack 124 = .ok (.iload 8, 2) := by decide +kernel
theorem dX8_unpack_126 : decode cX8_unpack 126 = .ok (.iload 9, 2) := by decide +kernel
theorem dX8_unpack_128 : decode cX8_unpack 128 = .ok (.iload 4, 2) := by decide +kernel
theorem dX8_unpack_130 : decode cX8_unpack 130 = .ok (.invokestatic 64, 3) := by decide +kernel
theorem dX8_unpack_133 : decode cX8_unpack 133 = .ok (.ifCond .eq 13, 3) := by decide +kernel
theorem dX8_unpack_136 : decode cX8_unpack 136 = .ok (.aload 5, 2) := by decide +kernel
theorem dX8_unpack_138 : decode cX8_unpack 138 = .ok (.iload 8, 2) := by decide +kernel
theorem dX8_unpack_140 : decode cX8_unpack 140 = .ok (.invokevirtual 40, 3) := by decide +kernel
theorem dX8_unpack_143 : decode cX8_unpack 143 = .ok (.goto 39, 3) := by decide +kernel
theorem dX8_unpack_146 : decode cX8_unpack 146 = .ok (.aload_n 0, 1) := by decide +kernel
theorem dX8_unpack_147 : decode cX8_unpack 147 = .ok (.iload 8, 2) := by decide +kernel
theorem dX8_unpack_149 : decode cX8_unpack 149 = .ok (.iload 6, 2) := by decide +kernel
theorem dX8_unpack_151 : decode cX8_unpack 151 = .ok (.iload_n 3, 1) := by decide +kernel
theorem dX8_unpack_152 : decode cX8_unpack 152 = .ok (.if_icmp .ge 7, 3) := by decide +kernel
theorem dX8_unpack_155 : decode cX8_unpack 155 = .ok (.iconst 1, 1) := by decide +kernel
theorem dX8_unpack_156 : decode cX8_unpack 156 = .ok (.goto 4, 3) := by decide +kernel
theorem dX8_unpack_159 : decode cX8_unpack 159 = .ok (.iconst 0, 1) := by decide +kernel
theorem dX8_unpack_160 : decode cX8_unpack 160 = .ok (.invokevirtual 68, 3) := by decide +kernel
theorem dX8_unpack_163 : decode cX8_unpack 163 = .ok (.istore 11, 2) := by decide +kernel
theorem dX8_unpack_165 : decode cX8_unpack 165 = .ok (.iload 11, 2) := by decide +kernel
theorem dX8_unpack_167 : decode cX8_unpack 167 = .ok (.ifCond .le 15, 3) := by decide +kernel
theorem dX8_unpack_170 : decode cX8_unpack 170 = .ok (.aload 5, 2) := by decide +kernel
theorem dX8_unpack_172 : decode cX8_unpack 172 = .ok (.iconst 0, 1) := by decide +kernel
theorem dX8_unpack_173 : decode cX8_unpack 173 = .ok (.invokevirtual 40, 3) := by decide +kernel
theorem dX8_unpack_176 : decode cX8_unpack 176 = .ok (.iinc 11 (-1), 3) := by decide +kernel
theorem dX8_unpack_179 : decode cX8_unpack 179 = .ok (.goto (-14), 3) := by decide +kernel
theorem dX8_unpack_182 : decode cX8_unpack 182 = .ok (.iinc 7 1, 3) := by decide +kernel
theorem dX8_unpack_185 : decode cX8_unpack 185 = .ok (.goto (-168), 3) := by decide +kernel
theorem dX8_unpack_188 : decode cX8_unpack 188 = .ok (.iconst (-1), 1) := by decide +kernel
theorem dX8_unpack_189 : decode cX8_unpack 189 = .ok (.ireturn, 1) := by decide +kernel
theorem dX8_runOf_0 : decode cX8_runOf 0 = .ok (.iload_n 1, 1) := by decide +kernel
theorem dX8_runOf_1 : decode cX8_runOf 1 = .ok (.iconst 1, 1) := by decide +kernel
theorem dX8_runOf_2 : decode cX8_runOf 2 = .ok (.if_icmp .ge 5, 3) := by decide +kernel
theorem dX8_runOf_5 : decode cX8_runOf 5 = .ok (.iconst (-1), 1) := by decide +kernel
theorem dX8_runOf_6 : decode cX8_runOf 6 = .ok (.ireturn, 1) := by decide +kernel
theorem dX8_runOf_7 : decode cX8_runOf 7 = .ok (.iload_n 1, 1) := by decide +kernel
theorem dX8_runOf_8 : decode cX8_runOf 8 = .ok (.iload_n 2, 1) := by decide +kernel
theorem dX8_runOf_9 : decode cX8_runOf 9 = .ok (.iload_n 3, 1) := by decide +kernel
theorem dX8_runOf_10 : decode cX8_runOf 10 = .ok (.invokestatic 64, 3) := by decide +kernel
theorem dX8_runOf_13 : decode cX8_runOf 13 = .ok (.ifCond .eq 5, 3) := by decide +kernel
theorem dX8_runOf_16 : decode cX8_runOf 16 = .ok (.iload_n 2, 1) := by decide +kernel
theorem dX8_runOf_17 : decode cX8_runOf 17 = .ok (.ireturn, 1) := by decide +kernel
theorem dX8_runOf_18 : decode cX8_runOf 18 = .ok (.iconst (-1), 1) := by decide +kernel
theorem dX8_runOf_19 : decode cX8_runOf 19 = .ok (.istore 4, 2) := by decide +kernel
theorem dX8_runOf_21 : decode cX8_runOf 21 = .ok (.iload_n 1, 1) := by decide +kernel
theorem dX8_runOf_22 : decode cX8_runOf 22 = .ok (.aload_n 0, 1) := by decide +kernel
theorem dX8_runOf_23 : decode cX8_runOf 23 = .ok (.getfield 9, 3) := by decide +kernel
theorem dX8_runOf_26 : decode cX8_runOf 26 = .ok (.iconst 1, 1) := by decide +kernel
theorem dX8_runOf_27 : decode cX8_runOf 27 = .ok (.iadd, 1) := by decide +kernel
theorem dX8_runOf_28 : decode cX8_runOf 28 = .ok (.if_icmp .gt 11, 3) := by decide +kernel
theorem dX8_runOf_31 : decode cX8_runOf 31 = .ok (.iload_n 1, 1) := by decide +kernel
theorem dX8_runOf_32 : decode cX8_runOf 32 = .ok (.iconst 1, 1) := by decide +kernel
theorem dX8_runOf_33 : decode cX8_runOf 33 = .ok (.isub, 1) := by decide +kernel
theorem dX8_runOf_34 : decode cX8_runOf 34 = .ok (.istore 4, 2) := by decide +kernel
theorem dX8_runOf_36 : decode cX8_runOf 36 = .ok (.goto 33, 3) := by decide +kernel
theorem dX8_runOf_39 : decode cX8_runOf 39 = .ok (.iload_n 3, 1) := by decide +kernel
theorem dX8_runOf_40 : decode cX8_runOf 40 = .ok (.iconst 1, 1) := by decide +kernel
theorem dX8_runOf_41 : decode cX8_runOf 41 = .ok (.if_icmp .ne 28, 3) := by decide +kernel
theorem dX8_runOf_44 : decode cX8_runOf 44 = .ok (.iload_n 1, 1) := by decide +kernel
theorem dX8_runOf_45 : decode cX8_runOf 45 = .ok (.aload_n 0, 1) := by decide +kernel
theorem dX8_runOf_46 : decode cX8_runOf 46 = .ok (.getfield 9, 3) := by decide +kernel
theorem dX8_runOf_49 : decode cX8_runOf 49 = .ok (.iconst 1, 1) := by decide +kernel
theorem dX8_runOf_50 : decode cX8_runOf 50 = .ok (.iadd, 1) := by decide +kernel
theorem dX8_runOf_51 : decode cX8_runOf 51 = .ok (.aload_n 0, 1) := by decide +kernel
theorem dX8_runOf_52 : decode cX8_runOf 52 = .ok (.getfield 15, 3) := by decide +kernel
theorem dX8_runOf_55 : decode cX8_runOf 55 = .ok (.iadd, 1) := by decide +kernel
theorem dX8_runOf_56 : decode cX8_runOf 56 = .ok (.if_icmp .gt 13, 3) := by decide +kernel
theorem dX8_runOf_59 : decode cX8_runOf 59 = .ok (.iload_n 1, 1) := by decide +kernel
theorem dX8_runOf_60 : decode cX8_runOf 60 = .ok (.aload_n 0, 1) := by decide +kernel
theorem dX8_runOf_61 : decode cX8_runOf 61 = .ok (.getfield 9, 3) := by decide +kernel
theorem dX8_runOf_64 : decode cX8_runOf 64 = .ok (.isub, 1) := by decide +kernel
theorem dX8_runOf_65 : decode cX8_runOf 65 = .ok (.iconst 2, 1) := by decide +kernel
theorem dX8_runOf_66 : decode cX8_runOf 66 = .ok (.isub, 1) := by decide +kernel
theorem dX8_runOf_67 : decode cX8_runOf 67 = .ok (.istore 4, 2) := by decide +kernel
theorem dX8_runOf_69 : decode cX8_runOf 69 = .ok (.iload 4, 2) := by decide +kernel
theorem dX8_runOf_71 : decode cX8_runOf 71 = .ok (.iload_n 2, 1) := by decide +kernel
theorem dX8_runOf_72 : decode cX8_runOf 72 = .ok (.if_icmp .gt 8, 3) := by decide +kernel
theorem dX8_runOf_75 : decode cX8_runOf 75 = .ok (.iload 4, 2) := by decide +kernel
theorem dX8_runOf_77 : decode cX8_runOf 77 = .ok (.goto 4, 3) := by decide +kernel
theorem dX8_runOf_80 : decode cX8_runOf 80 = .ok (.iconst (-1), 1) := by decide +kernel
theorem dX8_runOf_81 : decode cX8_runOf 81 = .ok (.ireturn, 1) := by decide +kernel
theorem dX8_isTail_0 : decode cX8_isTail 0 = .ok (.iload_n 2, 1) := by decide +kernel
theorem dX8_isTail_1 : decode cX8_isTail 1 = .ok (.iconst 2, 1) := by decide +kernel
theorem dX8_isTail_2 : decode cX8_isTail 2 = .ok (.if_icmp .ne 14, 3) := by decide +kernel
theorem dX8_isTail_5 : decode cX8_isTail 5 = .ok (.iload_n 0, 1) := by decide +kernel
theorem dX8_isTail_6 : decode cX8_isTail 6 = .ok (.iconst 1, 1) := by decide +kernel
theorem dX8_isTail_7 : decode cX8_isTail 7 = .ok (.isub, 1) := by decide +kernel
theorem dX8_isTail_8 : decode cX8_isTail 8 = .ok (.iload_n 1, 1) := by decide +kernel
theorem dX8_isTail_9 : decode cX8_isTail 9 = .ok (.if_icmp .le 7, 3) := by decide +kernel
theorem dX8_isTail_12 : decode cX8_isTail 12 = .ok (.iconst 1, 1) := by decide +kernel
theorem dX8_isTail_13 : decode cX8_isTail 13 = .ok (.goto 4, 3) := by decide +kernel
theorem dX8_isTail_16 : decode cX8_isTail 16 = .ok (.iconst 0, 1) := by decide +kernel
theorem dX8_isTail_17 : decode cX8_isTail 17 = .ok (.ireturn, 1) := by decide +kernel
theorem dX8_zerosBehind_0 : decode cX8_zerosBehind 0 = .ok (.iload_n 1, 1) := by decide +kernel
theorem dX8_zerosBehind_1 : decode cX8_zerosBehind 1 = .ok (.aload_n 0, 1) := by decide +kernel
theorem dX8_zerosBehind_2 : decode cX8_zerosBehind 2 = .ok (.getfield 9, 3) := by decide +kernel
theorem dX8_zerosBehind_5 : decode cX8_zerosBehind 5 = .ok (.iconst 1, 1) := by decide +kernel
theorem dX8_zerosBehind_6 : decode cX8_zerosBehind 6 = .ok (.iadd, 1) := by decide +kernel
theorem dX8_zerosBehind_7 : decode cX8_zerosBehind 7 = .ok (.if_icmp .le 5, 3) := by decide +kernel
theorem dX8_zerosBehind_10 : decode cX8_zerosBehind 10 = .ok (.iconst 2, 1) := by decide +kernel
theorem dX8_zerosBehind_11 : decode cX8_zerosBehind 11 = .ok (.ireturn, 1) := by decide +kernel
theorem dX8_zerosBehind_12 : decode cX8_zerosBehind 12 = .ok (.iload_n 1, 1) := by decide +kernel
theorem dX8_zerosBehind_13 : decode cX8_zerosBehind 13 = .ok (.aload_n 0, 1) := by decide +kernel
theorem dX8_zerosBehind_14 : decode cX8_zerosBehind 14 = .ok (.getfield 9, 3) := by decide +kernel
theorem dX8_zerosBehind_17 : decode cX8_zerosBehind 17 = .ok (.if_icmp .gt 11, 3) := by decide +kernel
theorem dX8_zerosBehind_20 : decode cX8_zerosBehind 20 = .ok (.iload_n 2, 1) := by decide +kernel
theorem dX8_zerosBehind_21 : decode cX8_zerosBehind 21 = .ok (.ifCond .eq 7, 3) := by decide +kernel
theorem dX8_zerosBehind_24 : decode cX8_zerosBehind 24 = .ok (.iconst 1, 1) := by decide +kernel
theorem dX8_zerosBehind_25 : decode cX8_zerosBehind 25 = .ok (.goto 4, 3) := by decide +kernel
theorem dX8_zerosBehind_28 : decode cX8_zerosBehind 28 = .ok (.iconst 0, 1) := by decide +kernel
theorem dX8_zerosBehind_29 : decode cX8_zerosBehind 29 = .ok (.ireturn, 1) := by decide +kernel
theorem dX9_init_0 : decode cX9_init 0 = .ok (.aload_n 0, 1) := by decide +kernel
theorem dX9_init_1 : decode cX9_init 1 = .ok (.invokespecial 3, 3) := by decide +kernel
theorem dX9_init_4 : decode cX9_init 4 = .ok (.aload_n 0, 1) := by decide +kernel
theorem dX9_init_5 : decode cX9_init 5 = .ok (.new 9, 3) := by decide +kernel
theorem dX9_init_8 : decode cX9_init 8 = .ok (.dup, 1) := by decide +kernel
theorem dX9_init_9 : decode cX9_init 9 = .ok (.sipush 300, 3) := by decide +kernel
theorem dX9_init_12 : decode cX9_init 12 = .ok (.invokespecial 11, 3) := by decide +kernel
theorem dX9_init_15 : decode cX9_init 15 = .ok (.putfield 14, 3) := by decide +kernel
theorem dX9_init_18 : decode cX9_init 18 = .ok (.aload_n 0, 1) := by decide +kernel
theorem dX9_init_19 : decode cX9_init 19 = .ok (.new 20, 3) := by decide +kernel
theorem dX9_init_22 : decode cX9_init 22 = .ok (.dup, 1) := by decide +kernel
theorem dX9_init_23 : decode cX9_init 23 = .ok (.invokespecial 22, 3) := by decide +kernel
theorem dX9_init_26 : decode cX9_init 26 = .ok (.putfield 23, 3) := by decide +kernel
theorem dX9_init_29 : decode cX9_init 29 = .ok (.return_, 1) := by decide +kernel
theorem dX9_firstFault_0 : decode cX9_firstFault 0 = .ok (.aload_n 0, 1) := by decide +kernel
theorem dX9_firstFault_1 : decode cX9_firstFault 1 = .ok (.getfield 23, 3) := by decide +kernel
theorem dX9_firstFault_4 : decode cX9_firstFault 4 = .ok (.invokevirtual 27, 3) := by decide +kernel
theorem dX9_firstFault_7 : decode cX9_firstFault 7 = .ok (.aload_n 0, 1) := by decide +kernel
theorem dX9_firstFault_8 : decode cX9_firstFault 8 = .ok (.iconst 0, 1) := by decide +kernel
theorem dX9_firstFault_9 : decode cX9_firstFault 9 = .ok (.putfield 30, 3) := by decide +kernel
theorem dX9_firstFault_12 : decode cX9_firstFault 12 = .ok (.aload_n 0, 1) := by decide +kernel
theorem dX9_firstFault_13 : decode cX9_firstFault 13 = .ok (.iconst 0, 1) := by decide +kernel
theorem dX9_firstFault_14 : decode cX9_firstFault 14 = .ok (.putfield 34, 3) := by decide +kernel
theorem dX9_firstFault_17 : decode cX9_firstFault 17 = .ok (.iconst 0, 1) := by decide +kernel
theorem dX9_firstFault_18 : decode cX9_firstFault 18 = .ok (.istore_n 1, 1) := by decide +kernel
theorem dX9_firstFault_19 : decode cX9_firstFault 19 = .ok (.iload_n 1, 1) := by decide +kernel
theorem dX9_firstFault_20 : decode cX9_firstFault 20 = .ok (.sipush 300, 3) := by decide +kernel
theorem dX9_firstFault_23 : decode cX9_firstFault 23 = .ok (.if_icmp .gt 124, 3) := by decide +kernel
theorem dX9_firstFault_26 : decode cX9_firstFault 26 = .ok (.aload_n 0, 1) := by decide +kernel
theorem dX9_firstFault_27 : decode cX9_firstFault 27 = .ok (.invokevirtual 37, 3) := by decide +kernel
theorem dX9_firstFault_30 : decode cX9_firstFault 30 = .ok (.aload_n 0, 1) := by decide +kernel
theorem dX9_firstFault_31 : decode cX9_firstFault 31 = .ok (.getfield 40, 3) := by decide +kernel
theorem dX9_firstFault_34 : decode cX9_firstFault 34 = .ok (.iconst 1, 1) := by decide +kernel
theorem dX9_firstFault_35 : decode cX9_firstFault 35 = .ok (.if_icmp .ne 10, 3) := by decide +kernel
theorem dX9_firstFault_38 : decode cX9_firstFault 38 = .ok (.aload_n 0, 1) := by decide +kernel
theorem dX9_firstFault_39 : decode cX9_firstFault 39 = .ok (.invokevirtual 43, 3) := by decide +kernel
theorem dX9_firstFault_42 : decode cX9_firstFault 42 = .ok (.goto 4, 3) := by decide +kernel
theorem dX9_firstFault_45 : decode cX9_firstFault 45 = .ok (.iconst (-1), 1) := by decide +kernel
theorem dX9_firstFault_46 : decode cX9_firstFault 46 = .ok (.istore_n 2, 1) := by decide +kernel
theorem dX9_firstFault_47 : decode cX9_firstFault 47 = .ok (.iload_n 2, 1) := by decide +kernel
theorem dX9_firstFault_48 : decode cX9_firstFault 48 = .ok (.iconst (-1), 1) := by decide +kernel
theorem dX9_firstFault_49 : decode cX9_firstFault 49 = .ok (.if_icmp .eq 11, 3) := by decide +kernel
theorem dX9_firstFault_52 : decode cX9_firstFault 52 = .ok (.aload_n 0, 1) := by decide +kernel
theorem dX9_firstFault_53 : decode cX9_firstFault 53 = .ok (.iload_n 2, 1) := by decide +kernel
theorem dX9_firstFault_54 : decode cX9_firstFault 54 = .ok (.invokevirtual 47, 3) := by decide +kernel
theorem dX9_firstFault_57 : decode cX9_firstFault 57 = .ok (.ifCond .ne 8, 3) := by decide +kernel
theorem dX9_firstFault_60 : decode cX9_firstFault 60 = .ok (.aload_n 0, 1) := by decide +kernel
theorem dX9_firstFault_61 : decode cX9_firstFault 61 = .ok (.getfield 51, 3) := by decide +kernel
theorem dX9_firstFault_64 : decode cX9_firstFault 64 = .ok (.ireturn, 1) := by decide +kernel
theorem dX9_firstFault_65 : decode cX9_firstFault 65 = .ok (.aload_n 0, 1) := by decide +kernel
theorem dX9_firstFault_66 : decode cX9_firstFault 66 = .ok (.invokevirtual 37, 3) := by decide +kernel
theorem dX9_firstFault_69 : decode cX9_firstFault 69 = .ok (.aload_n 0, 1) := by decide +kernel
theorem dX9_firstFault_70 : decode cX9_firstFault 70 = .ok (.iload_n 2, 1) := by decide +kernel
theorem dX9_firstFault_71 : decode cX9_firstFault 71 = .ok (.invokevirtual 54, 3) := by decide +kernel
theorem dX9_firstFault_74 : decode cX9_firstFault 74 = .ok (.ifCond .ne 8, 3) := by decide +kernel
theorem dX9_firstFault_77 : decode cX9_firstFault 77 = .ok (.aload_n 0, 1) := by decide +kernel
theorem dX9_firstFault_78 : decode cX9_firstFault 78 = .ok (.getfield 51, 3) := by decide +kernel
theorem dX9_firstFault_81 : decode cX9_firstFault 81 = .ok (.ireturn, 1) := by decide +kernel
theorem dX9_firstFault_82 : decode cX9_firstFault 82 = .ok (.aload_n 0, 1) := by decide +kernel
theorem dX9_firstFault_83 : decode cX9_firstFault 83 = .ok (.invokevirtual 37, 3) := by decide +kernel
theorem dX9_firstFault_86 : decode cX9_firstFault 86 = .ok (.aload_n 0, 1) := by decide +kernel
theorem dX9_firstFault_87 : decode cX9_firstFault 87 = .ok (.getfield 40, 3) := by decide +kernel
theorem dX9_firstFault_90 : decode cX9_firstFault 90 = .ok (.ifCond .ne 22, 3) := by decide +kernel
theorem dX9_firstFault_93 : decode cX9_firstFault 93 = .ok (.aload_n 0, 1) := by decide +kernel
theorem dX9_firstFault_94 : decode cX9_firstFault 94 = .ok (.getfield 23, 3) := by decide +kernel
theorem dX9_firstFault_97 : decode cX9_firstFault 97 = .ok (.getfield 57, 3) := by decide +kernel
theorem dX9_firstFault_100 : decode cX9_firstFault 100 = .ok (.ifCond .ne 10, 3) := by decide +kernel
theorem dX9_firstFault_103 : decode cX9_firstFault 103 = .ok (.aload_n 0, 1) := by decide +kernel
theorem dX9_firstFault_104 : decode cX9_firstFault 104 = .ok (.getfield 51, 3) := by decide +kernel
theorem dX9_firstFault_107 : decode cX9_firstFault 107 = .ok (.goto 4, 3) := by decide +kernel
theorem dX9_firstFault_110 : decode cX9_firstFault 110 = .ok (.iconst (-1), 1) := by decide +kernel
theorem dX9_firstFault_111 : decode cX9_firstFault 111 = .ok (.ireturn, 1) := by decide +kernel
theorem dX9_firstFault_112 : decode cX9_firstFault 112 = .ok (.aload_n 0, 1) := by decide +kernel
theorem dX9_firstFault_113 : decode cX9_firstFault 113 = .ok (.getfield 40, 3) := by decide +kernel
theorem dX9_firstFault_116 : decode cX9_firstFault 116 = .ok (.iconst 3, 1) := by decide +kernel
theorem dX9_firstFault_117 : decode cX9_firstFault 117 = .ok (.if_icmp .ne 19, 3) := by decide +kernel
theorem dX9_firstFault_120 : decode cX9_firstFault 120 = .ok (.aload_n 0, 1) := by decide +kernel
theorem dX9_firstFault_121 : decode cX9_firstFault 121 = .ok (.getfield 14, 3) := by decide +kernel
theorem dX9_firstFault_124 : decode cX9_firstFault 124 = .ok (.aload_n 0, 1) := by decide +kernel
theorem dX9_firstFault_125 : decode cX9_firstFault 125 = .ok (.getfield 51, 3) := by decide +kernel
theorem dX9_firstFault_128 : decode cX9_firstFault 128 = .ok (.invokevirtual 60, 3) := by decide +kernel
theorem dX9_firstFault_131 : decode cX9_firstFault 131 = .ok (.bipush 59, 2) := by decide +kernel
theorem dX9_firstFault_133 : decode cX9_firstFault 133 = .ok (.if_icmp .eq 8, 3) := by decide +kernel
theorem dX9_firstFault_136 : decode cX9_firstFault 136 = .ok (.aload_n 0, 1) := by decide +kernel
theorem dX9_firstFault_137 : decode cX9_firstFault 137 = .ok (.getfield 51, 3) := by decide +kernel
theorem dX9_firstFault_140 : decode cX9_firstFault 140 = .ok (.ireturn, 1) := by decide +kernel
theorem dX9_firstFault_141 : decode cX9_firstFault 141 = .ok (.iinc 1 1, 3) := by decide +kernel
theorem dX9_firstFault_144 : decode cX9_firstFault 144 = .ok (.goto (-125), 3) := by decide +kernel
theorem dX9_firstFault_147 : decode cX9_firstFault 147 = .ok (.aload_n 0, 1) := by decide +kernel
theorem dX9_firstFault_148 : decode cX9_firstFault 148 = .ok (.getfield 14, 3) := by decide +kernel
theorem dX9_firstFault_151 : decode cX9_firstFault 151 = .ok (.getfield 64, 3) := by decide +kernel
theorem dX9_firstFault_154 : decode cX9_firstFault 154 = .ok (.ireturn, 1) := by decide +kernel
theorem dX9_nextPart_0 : decode cX9_nextPart 0 = .ok (.aload_n 0, 1) := by decide +kernel
theorem dX9_nextPart_1 : decode cX9_nextPart 1 = .ok (.aload_n 0, 1) := by decide +kernel
theorem dX9_nextPart_2 : decode cX9_nextPart 2 = .ok (.getfield 34, 3) := by decide +kernel
theorem dX9_nextPart_5 : decode cX9_nextPart 5 = .ok (.putfield 51, 3) := by decide +kernel
theorem dX9_nextPart_8 : decode cX9_nextPart 8 = .ok (.aload_n 0, 1) := by decide +kernel
theorem dX9_nextPart_9 : decode cX9_nextPart 9 = .ok (.getfield 34, 3) := by decide +kernel
theorem dX9_nextPart_12 : decode cX9_nextPart 12 = .ok (.istore_n 1, 1) := by decide +kernel
theorem dX9_nextPart_13 : decode cX9_nextPart 13 = .ok (.iload_n 1, 1) := by decide +kernel
theorem dX9_nextPart_14 : decode cX9_nextPart 14 = .ok (.aload_n 0, 1) := by decide +kernel
theorem dX9_nextPart_15 : decode cX9_nextPart 15 = .ok (.getfield 14, 3) := by decide +kernel
theorem dX9_nextPart_18 : decode cX9_nextPart 18 = .ok (.getfield 64, 3) := by decide +kernel
theorem dX9_nextPart_21 : decode cX9_nextPart 21 = .ok (.if_icmp .ge 29, 3) := by decide +kernel
theorem dX9_nextPart_24 : decode cX9_nextPart 24 = .ok (.aload_n 0, 1) := by decide +kernel
theorem dX9_nextPart_25 : decode cX9_nextPart 25 = .ok (.getfield 14, 3) := by decide +kernel
theorem dX9_nextPart_28 : decode cX9_nextPart 28 = .ok (.iload_n 1, 1) := by decide +kernel
theorem dX9_nextPart_29 : decode cX9_nextPart 29 = .ok (.invokevirtual 60, 3) := by decide +kernel
theorem dX9_nextPart_32 : decode cX9_nextPart 32 = .ok (.bipush 32, 2) := by decide +kernel
theorem dX9_nextPart_34 : decode cX9_nextPart 34 = .ok (.if_icmp .ne 16, 3) := by decide +kernel
theorem dX9_nextPart_37 : decode cX9_nextPart 37 = .ok (.aload_n 0, 1) := by decide +kernel
theorem dX9_nextPart_38 : decode cX9_nextPart 38 = .ok (.iload_n 1, 1) := by decide +kernel
theorem dX9_nextPart_39 : decode cX9_nextPart 39 = .ok (.iconst 1, 1) := by decide +kernel
theorem dX9_nextPart_40 : decode cX9_nextPart 40 = .ok (.iadd, 1) := by decide +kernel
theorem dX9_nextPart_41 : decode cX9_nextPart 41 = .ok (.putfield 51, 3) := by decide +kernel
theorem dX9_nextPart_44 : decode cX9_nextPart 44 = .ok (.iinc 1 1, 3) := by decide +kernel
theorem dX9_nextPart_47 : decode cX9_nextPart 47 = .ok (.goto (-34), 3) := by decide +kernel
theorem dX9_nextPart_50 : decode cX9_nextPart 50 = .ok (.aload_n 0, 1) := by decide +kernel
theorem dX9_nextPart_51 : decode cX9_nextPart 51 = .ok (.getfield 14, 3) := by decide +kernel
theorem dX9_nextPart_54 : decode cX9_nextPart 54 = .ok (.aload_n 0, 1) := by decide +kernel
theorem dX9_nextPart_55 : decode cX9_nextPart 55 = .ok (.getfield 51, 3) := by decide +kernel
theorem dX9_nextPart_58 : decode cX9_nextPart 58 = .ok (.invokevirtual 60, 3) := by decide +kernel
theorem dX9_nextPart_61 : decode cX9_nextPart 61 = .ok (.istore_n 1, 1) := by decide +kernel
theorem dX9_nextPart_62 : decode cX9_nextPart 62 = .ok (.iload_n 1, 1) := by decide +kernel
theorem dX9_nextPart_63 : decode cX9_nextPart 63 = .ok (.iconst (-1), 1) := by decide +kernel
theorem dX9_nextPart_64 : decode cX9_nextPart 64 = .ok (.if_icmp .ne 19, 3) := by decide +kernel
theorem dX9_nextPart_67 : decode cX9_nextPart 67 = .ok (.aload_n 0, 1) := by decide +kernel
theorem dX9_nextPart_68 : decode cX9_nextPart 68 = .ok (.iconst 0, 1) := by decide +kernel
theorem dX9_nextPart_69 : decode cX9_nextPart 69 = .ok (.putfield 40, 3) := by decide +kernel
theorem dX9_nextPart_72 : decode cX9_nextPart 72 = .ok (.aload_n 0, 1) := by decide +kernel
theorem dX9_nextPart_73 : decode cX9_nextPart 73 = .ok (.aload_n 0, 1) := by decide +kernel
theorem dX9_nextPart_74 : decode cX9_nextPart 74 = .ok (.getfield 51, 3) := by decide +kernel
theorem dX9_nextPart_77 : decode cX9_nextPart 77 = .ok (.putfield 34, 3) := by decide +kernel
theorem dX9_nextPart_80 : decode cX9_nextPart 80 = .ok (.goto 66, 3) := by decide +kernel
theorem dX9_nextPart_83 : decode cX9_nextPart 83 = .ok (.iload_n 1, 1) := by decide +kernel
theorem dX9_nextPart_84 : decode cX9_nextPart 84 = .ok (.invokestatic 67, 3) := by decide +kernel
theorem dX9_nextPart_87 : decode cX9_nextPart 87 = .ok (.ifCond .eq 20, 3) := by decide +kernel
theorem dX9_nextPart_90 : decode cX9_nextPart 90 = .ok (.aload_n 0, 1) := by decide +kernel
theorem dX9_nextPart_91 : decode cX9_nextPart 91 = .ok (.iconst 1, 1) := by decide +kernel
theorem dX9_nextPart_92 : decode cX9_nextPart 92 = .ok (.putfield 40, 3) := by decide +kernel
theorem dX9_nextPart_95 : decode cX9_nextPart 95 = .ok (.aload_n 0, 1) := by decide +kernel
theorem dX9_nextPart_96 : decode cX9_nextPart 96 = .ok (.aload_n 0, 1) := by decide +kernel
theorem dX9_nextPart_97 : decode cX9_nextPart 97 = .ok (.iconst 1, 1) := by decide +kernel
theorem dX9_nextPart_98 : decode cX9_nextPart 98 = .ok (.invokevirtual 70, 3) := by decide +kernel
theorem dX9_nextPart_101 : decode cX9_nextPart 101 = .ok (.putfield 34, 3) := by decide +kernel
theorem dX9_nextPart_104 : decode cX9_nextPart 104 = .ok (.goto 42, 3) := by decide +kernel
theorem dX9_nextPart_107 : decode cX9_nextPart 107 = .ok (.iload_n 1, 1) := by decide +kernel
theorem dX9_nextPart_108 : decode cX9_nextPart 108 = .ok (.invokestatic 74, 3) := by decide +kernel
theorem dX9_nextPart_111 : decode cX9_nextPart 111 = .ok (.ifCond .eq 20, 3) := by decide +kernel
theorem dX9_nextPart_114 : decode cX9_nextPart 114 = .ok (.aload_n 0, 1) := by decide +kernel
theorem dX9_nextPart_115 : decode cX9_nextPart 115 = .ok (.iconst 2, 1) := by decide +kernel
theorem dX9_nextPart_116 : decode cX9_nextPart 116 = .ok (.putfield 40, 3) := by decide +kernel
theorem dX9_nextPart_119 : decode cX9_nextPart 119 = .ok (.aload_n 0, 1) := by decide +kernel
theorem dX9_nextPart_120 : decode cX9_nextPart 120 = .ok (.aload_n 0, 1) := by decide +kernel
theorem dX9_nextPart_121 : decode cX9_nextPart 121 = .ok (.iconst 0, 1) := by decide +kernel
theorem dX9_nextPart_122 : decode cX9_nextPart 122 = .ok (.invokevirtual 70, 3) := by decide +kernel
theorem dX9_nextPart_125 : decode cX9_nextPart 125 = .ok (.putfield 34, 3) := by decide +kernel
theorem dX9_nextPart_128 : decode cX9_nextPart 128 = .ok (.goto 18, 3) := by decide +kernel
theorem dX9_nextPart_131 : decode cX9_nextPart 131 = .ok (.aload_n 0, 1) := by decide +kernel
theorem dX9_nextPart_132 : decode cX9_nextPart 132 = .ok (.iconst 3, 1) := by decide +kernel
theorem dX9_nextPart_133 : decode cX9_nextPart 133 = .ok (.putfield 40, 3) := by decide +kernel
theorem dX9_nextPart_136 : decode cX9_nextPart 136 = .ok (.aload_n 0, 1) := by decide +kernel
theorem dX9_nextPart_137 : decode cX9_nextPart 137 = .ok (.aload_n 0, 1) := by decide +kernel
theorem dX9_nextPart_138 : decode cX9_nextPart 138 = .ok (.getfield 51, 3) := by decide +kernel
theorem dX9_nextPart_141 : decode cX9_nextPart 141 = .ok (.iconst 1, 1) := by decide +kernel
theorem dX9_nextPart_142 : decode cX9_nextPart 142 = .ok (.iadd, 1) := by decide +kernel
theorem dX9_nextPart_143 : decode cX9_nextPart 143 = .ok (.putfield 34, 3) := by decide +kernel
theorem dX9_nextPart_146 : decode cX9_nextPart 146 = .ok (.return_, 1) := by decide +kernel
theorem dX9_endOf_0 : decode cX9_endOf 0 = .ok (.aload_n 0, 1) := by decide +kernel
theorem dX9_endOf_1 : decode cX9_endOf 1 = .ok (.getfield 51, 3) := by decide +kernel
theorem dX9_endOf_4 : decode cX9_endOf 4 = .ok (.istore_n 2, 1) := by decide +kernel
theorem dX9_endOf_5 : decode cX9_endOf 5 = .ok (.iload_n 2, 1) := by decide +kernel
theorem dX9_endOf_6 : decode cX9_endOf 6 = .ok (.aload_n 0, 1) := by decide +kernel
theorem dX9_endOf_7 : decode cX9_endOf 7 = .ok (.getfield 14, 3) := by decide +kernel
theorem dX9_endOf_10 : decode cX9_endOf 10 = .ok (.getfield 64, 3) := by decide +kernel
theorem dX9_endOf_13 : decode cX9_endOf 13 = .ok (.if_icmp .ge 41, 3) := by decide +kernel
theorem dX9_endOf_16 : decode cX9_endOf 16 = .ok (.aload_n 0, 1) := by decide +kernel
theorem dX9_endOf_17 : decode cX9_endOf 17 = .ok (.getfield 14, 3) := by decide +kernel
theorem dX9_endOf_20 : decode cX9_endOf 20 = .ok (.iload_n 2, 1) := by decide +kernel
theorem dX9_endOf_21 : decode cX9_endOf 21 = .ok (.invokevirtual 60, 3) := by decide +kernel
theorem dX9_endOf_24 : decode cX9_endOf 24 = .ok (.istore_n 3, 1) := by decide +kernel
theorem dX9_endOf_25 : decode cX9_endOf 25 = .ok (.iload_n 1, 1) := by decide +kernel
theorem dX9_endOf_26 : decode cX9_endOf 26 = .ok (.ifCond .eq 13, 3) := by decide +kernel
theorem dX9_endOf_29 : decode cX9_endOf 29 = .ok (.iload_n 3, 1) := by decide +kernel
theorem dX9_endOf_30 : decode cX9_endOf 30 = .ok (.invokestatic 67, 3) := by decide +kernel
theorem dX9_endOf_33 : decode cX9_endOf 33 = .ok (.ifCond .eq 13, 3) := by decide +kernel
theorem dX9_endOf_36 : decode cX9_endOf 36 = .ok (.goto 12, 3) := by decide +kernel
theorem dX9_endOf_39 : decode cX9_endOf 39 = .ok (.iload_n 3, 1) := by decide +kernel
theorem dX9_endOf_40 : decode cX9_endOf 40 = .ok (.invokestatic 74, 3) := by decide +kernel
theorem dX9_endOf_43 : decode cX9_endOf 43 = .ok (.ifCond .ne 5, 3) := by decide +kernel
theorem dX9_endOf_46 : decode cX9_endOf 46 = .ok (.iload_n 2, 1) := by decide +kernel
theorem dX9_endOf_47 : decode cX9_endOf 47 = .ok (.ireturn, 1) := by decide +kernel
theorem dX9_endOf_48 : decode cX9_endOf 48 = .ok (.iinc 2 1, 3) := by decide +kernel
theorem dX9_endOf_51 : decode cX9_endOf 51 = .ok (.goto (-46), 3) := by decide +kernel
theorem dX9_endOf_54 : decode cX9_endOf 54 = .ok (.aload_n 0, 1) := by decide +kernel
theorem dX9_endOf_55 : decode cX9_endOf 55 = .ok (.getfield 14, 3) := by decide +kernel
theorem dX9_endOf_58 : decode cX9_endOf 58 = .ok (.getfield 64, 3) := by decide +kernel
theorem dX9_endOf_61 : decode cX9_endOf 61 = .ok (.ireturn, 1) := by decide +kernel
theorem dX9_isLetter_0 : decode cX9_isLetter 0 = .ok (.iload_n 0, 1) := by decide +kernel
theorem dX9_isLetter_1 : decode cX9_isLetter 1 = .ok (.bipush 97, 2) := by decide +kernel
theorem dX9_isLetter_3 : decode cX9_isLetter 3 = .ok (.if_icmp .lt 13, 3) := by decide +kernel
theorem dX9_isLetter_6 : decode cX9_isLetter 6 = .ok (.iload_n 0, 1) := by decide +kernel
theorem dX9_isLetter_7 : decode cX9_isLetter 7 = .ok (.bipush 122, 2) := by decide +kernel
theorem dX9_isLetter_9 : decode cX9_isLetter 9 = .ok (.if_icmp .gt 7, 3) := by decide +kernel
theorem dX9_isLetter_12 : decode cX9_isLetter 12 = .ok (.iconst 1, 1) := by decide +kernel
theorem dX9_isLetter_13 : decode cX9_isLetter 13 = .ok (.goto 4, 3) := by decide +kernel
theorem dX9_isLetter_16 : decode cX9_isLetter 16 = .ok (.iconst 0, 1) := by decide +kernel
theorem dX9_isLetter_17 : decode cX9_isLetter 17 = .ok (.ireturn, 1) := by decide +kernel
theorem dX9_isDigit_0 : decode cX9_isDigit 0 = .ok (.iload_n 0, 1) := by decide +kernel
theorem dX9_isDigit_1 : decode cX9_isDigit 1 = .ok (.bipush 48, 2) := by decide +kernel
theorem dX9_isDigit_3 : decode cX9_isDigit 3 = .ok (.if_icmp .lt 13, 3) := by decide +kernel
theorem dX9_isDigit_6 : decode cX9_isDigit 6 = .ok (.iload_n 0, 1) := by decide +kernel
theorem dX9_isDigit_7 : decode cX9_isDigit 7 = .ok (.bipush 57, 2) := by decide +kernel
theorem dX9_isDigit_9 : decode cX9_isDigit 9 = .ok (.if_icmp .gt 7, 3) := by decide +kernel
theorem dX9_isDigit_12 : decode cX9_isDigit 12 = .ok (.iconst 1, 1) := by decide +kernel
theorem dX9_isDigit_13 : decode cX9_isDigit 13 = .ok (.goto 4, 3) := by decide +kernel
theorem dX9_isDigit_16 : decode cX9_isDigit 16 = .ok (.iconst 0, 1) := by decide +kernel
theorem dX9_isDigit_17 : decode cX9_isDigit 17 = .ok (.ireturn, 1) := by decide +kernel
theorem dX9_sortOfWord_0 : decode cX9_sortOfWord 0 = .ok (.aload_n 0, 1) := by decide +kernel
theorem dX9_sortOfWord_1 : decode cX9_sortOfWord 1 = .ok (.ldc 77, 2) := by decide +kernel
theorem dX9_sortOfWord_3 : decode cX9_sortOfWord 3 = .ok (.invokevirtual 79, 3) := by decide +kernel
theorem dX9_sortOfWord_6 : decode cX9_sortOfWord 6 = .ok (.ifCond .eq 5, 3) := by decide +kernel
theorem dX9_sortOfWord_9 : decode cX9_sortOfWord 9 = .ok (.iconst 0, 1) := by decide +kernel
theorem dX9_sortOfWord_10 : decode cX9_sortOfWord 10 = .ok (.ireturn, 1) := by decide +kernel
theorem dX9_sortOfWord_11 : decode cX9_sortOfWord 11 = .ok (.aload_n 0, 1) := by decide +kernel
theorem dX9_sortOfWord_12 : decode cX9_sortOfWord 12 = .ok (.ldc 83, 2) := by decide +kernel
theorem dX9_sortOfWord_14 : decode cX9_sortOfWord 14 = .ok (.invokevirtual 79, 3) := by decide +kernel
theorem dX9_sortOfWord_17 : decode cX9_sortOfWord 17 = .ok (.ifCond .eq 5, 3) := by decide +kernel
theorem dX9_sortOfWord_20 : decode cX9_sortOfWord 20 = .ok (.iconst 1, 1) := by decide +kernel
theorem dX9_sortOfWord_21 : decode cX9_sortOfWord 21 = .ok (.ireturn, 1) := by decide +kernel
theorem dX9_sortOfWord_22 : decode cX9_sortOfWord 22 = .ok (.aload_n 0, 1) := by decide +kernel
theorem dX9_sortOfWord_23 : decode cX9_sortOfWord 23 = .ok (.ldc 85, 2) := by decide +kernel
theorem dX9_sortOfWord_25 : decode cX9_sortOfWord 25 = .ok (.invokevirtual 79, 3) := by decide +kernel
theorem dX9_sortOfWord_28 : decode cX9_sortOfWord 28 = .ok (.ifCond .eq 5, 3) := by decide +kernel
theorem dX9_sortOfWord_31 : decode cX9_sortOfWord 31 = .ok (.iconst 2, 1) := by decide +kernel
theorem dX9_sortOfWord_32 : decode cX9_sortOfWord 32 = .ok (.ireturn, 1) := by decide +kernel
theorem dX9_sortOfWord_33 : decode cX9_sortOfWord 33 = .ok (.aload_n 0, 1) := by decide +kernel
theorem dX9_sortOfWord_34 : decode cX9_sortOfWord 34 = .ok (.ldc 87, 2) := by decide +kernel
theorem dX9_sortOfWord_36 : decode cX9_sortOfWord 36 = .ok (.invokevirtual 79, 3) := by decide +kernel
theorem dX9_sortOfWord_39 : decode cX9_sortOfWord 39 = .ok (.ifCond .eq 5, 3) := by decide +kernel
theorem dX9_sortOfWord_42 : decode cX9_sortOfWord 42 = .ok (.iconst 3, 1) := by decide +kernel
theorem dX9_sortOfWord_43 : decode cX9_sortOfWord 43 = .ok (.ireturn, 1) := by decide +kernel
theorem dX9_sortOfWord_44 : decode cX9_sortOfWord 44 = .ok (.aload_n 0, 1) := by decide +kernel
theorem dX9_sortOfWord_45 : decode cX9_sortOfWord 45 = .ok (.ldc 89, 2) := by decide +kernel
theorem dX9_sortOfWord_47 : decode cX9_sortOfWord 47 = .ok (.invokevirtual 79, 3) := by decide +kernel
theorem dX9_sortOfWord_50 : decode cX9_sortOfWord 50 = .ok (.ifCond .eq 5, 3) := by decide +kernel
theorem dX9_sortOfWord_53 : decode cX9_sortOfWord 53 = .ok (.iconst 4, 1) := by decide +kernel
theorem dX9_sortOfWord_54 : decode cX9_sortOfWord 54 = .ok (.ireturn, 1) := by decide +kernel
theorem dX9_sortOfWord_55 : decode cX9_sortOfWord 55 = .ok (.aload_n 0, 1) := by decide +kernel
theorem dX9_sortOfWord_56 : decode cX9_sortOfWord 56 = .ok (.ldc 90, 2) := by decide +kernel
theorem dX9_sortOfWord_58 : decode cX9_sortOfWord 58 = .ok (.invokevirtual 79, 3) := by decide +kernel
theorem dX9_sortOfWord_61 : decode cX9_sortOfWord 61 = .ok (.ifCond .eq 7, 3) := by decide +kernel
theorem dX9_sortOfWord_64 : decode cX9_sortOfWord 64 = .ok (.iconst 5, 1) := by decide +kernel
theorem dX9_sortOfWord_65 : decode cX9_sortOfWord 65 = .ok (.goto 4, 3) := by decide +kernel
theorem dX9_sortOfWord_68 : decode cX9_sortOfWord 68 = .ok (.iconst (-1), 1) := by decide +kernel
theorem dX9_sortOfWord_69 : decode cX9_sortOfWord 69 = .ok (.ireturn, 1) := by decide +kernel
theorem dX9_isWord_0 : decode cX9_isWord 0 = .ok (.aload_n 0, 1) := by decide +kernel
theorem dX9_isWord_1 : decode cX9_isWord 1 = .ok (.getfield 40, 3) := by decide +kernel
theorem dX9_isWord_4 : decode cX9_isWord 4 = .ok (.iconst 1, 1) := by decide +kernel
theorem dX9_isWord_5 : decode cX9_isWord 5 = .ok (.if_icmp .ne 19, 3) := by decide +kernel
theorem dX9_isWord_8 : decode cX9_isWord 8 = .ok (.aload_n 0, 1) := by decide +kernel
theorem dX9_isWord_9 : decode cX9_isWord 9 = .ok (.getfield 34, 3) := by decide +kernel
theorem dX9_isWord_12 : decode cX9_isWord 12 = .ok (.aload_n 0, 1) := by decide +kernel
theorem dX9_isWord_13 : decode cX9_isWord 13 = .ok (.getfield 51, 3) := by decide +kernel
theorem dX9_isWord_16 : decode cX9_isWord 16 = .ok (.isub, 1) := by decide +kernel
theorem dX9_isWord_17 : decode cX9_isWord 17 = .ok (.aload_n 1, 1) := by decide +kernel
theorem dX9_isWord_18 : decode cX9_isWord 18 = .ok (.invokevirtual 92, 3) := by decide +kernel
theorem dX9_isWord_21 : decode cX9_isWord 21 = .ok (.if_icmp .eq 5, 3) := by decide +kernel
theorem dX9_isWord_24 : decode cX9_isWord 24 = .ok (.iconst 0, 1) := by decide +kernel
theorem dX9_isWord_25 : decode cX9_isWord 25 = .ok (.ireturn, 1) := by decide +kernel
theorem dX9_isWord_26 : decode cX9_isWord 26 = .ok (.iconst 0, 1) := by decide +kernel
theorem dX9_isWord_27 : decode cX9_isWord 27 = .ok (.istore_n 2, 1) := by decide +kernel
theorem dX9_isWord_28 : decode cX9_isWord 28 = .ok (.iload_n 2, 1) := by decide +kernel
theorem dX9_isWord_29 : decode cX9_isWord 29 = .ok (.aload_n 1, 1) := by decide +kernel
theorem dX9_isWord_30 : decode cX9_isWord 30 = .ok (.invokevirtual 92, 3) := by decide +kernel
theorem dX9_isWord_33 : decode cX9_isWord 33 = .ok (.if_icmp .ge 32, 3) := by decide +kernel
theorem dX9_isWord_36 : decode cX9_isWord 36 = .ok (.aload_n 0, 1) := by decide +kernel
theorem dX9_isWord_37 : decode cX9_isWord 37 = .ok (.getfield 14, 3) := by decide +kernel
theorem dX9_isWord_40 : decode cX9_isWord 40 = .ok (.aload_n 0, 1) := by decide +kernel
theorem dX9_isWord_41 : decode cX9_isWord 41 = .ok (.getfield 51, 3) := by decide +kernel
theorem dX9_isWord_44 : decode cX9_isWord 44 = .ok (.iload_n 2, 1) := by decide +kernel
theorem dX9_isWord_45 : decode cX9_isWord 45 = .ok (.iadd, 1) := by decide +kernel
theorem dX9_isWord_46 : decode cX9_isWord 46 = .ok (.invokevirtual 60, 3) := by decide +kernel
theorem dX9_isWord_49 : decode cX9_isWord 49 = .ok (.aload_n 1, 1) := by decide +kernel
theorem dX9_isWord_50 : decode cX9_isWord 50 = .ok (.iload_n 2, 1) := by decide +kernel
theorem dX9_isWord_51 : decode cX9_isWord 51 = .ok (.invokevirtual 97, 3) := by decide +kernel
theorem dX9_isWord_54 : decode cX9_isWord 54 = .ok (.if_icmp .eq 5, 3) := by decide +kernel
theorem dX9_isWord_57 : decode cX9_isWord 57 = .ok (.iconst 0, 1) := by decide +kernel
theorem dX9_isWord_58 : decode cX9_isWord 58 = .ok (.ireturn, 1) := by decide +kernel
theorem dX9_isWord_59 : decode cX9_isWord 59 = .ok (.iinc 2 1, 3) := by decide +kernel
theorem dX9_isWord_62 : decode cX9_isWord 62 = .ok (.goto (-34), 3) := by decide +kernel
theorem dX9_isWord_65 : decode cX9_isWord 65 = .ok (.iconst 1, 1) := by decide +kernel
theorem dX9_isWord_66 : decode cX9_isWord 66 = .ok (.ireturn, 1) := by decide +kernel
theorem dX9_mayStand_0 : decode cX9_mayStand 0 = .ok (.iload_n 1, 1) := by decide +kernel
theorem dX9_mayStand_1 : decode cX9_mayStand 1 = .ok (.iconst 5, 1) := by decide +kernel
theorem dX9_mayStand_2 : decode cX9_mayStand 2 = .ok (.if_icmp .ne 20, 3) := by decide +kernel
theorem dX9_mayStand_5 : decode cX9_mayStand 5 = .ok (.aload_n 0, 1) := by decide +kernel
theorem dX9_mayStand_6 : decode cX9_mayStand 6 = .ok (.getfield 23, 3) := by decide +kernel
theorem dX9_mayStand_9 : decode cX9_mayStand 9 = .ok (.getfield 57, 3) := by decide +kernel
theorem dX9_mayStand_12 : decode cX9_mayStand 12 = .ok (.iconst 4, 1) := by decide +kernel
theorem dX9_mayStand_13 : decode cX9_mayStand 13 = .ok (.if_icmp .ge 7, 3) := by decide +kernel
theorem dX9_mayStand_16 : decode cX9_mayStand 16 = .ok (.iconst 1, 1) := by decide +kernel
theorem dX9_mayStand_17 : decode cX9_mayStand 17 = .ok (.goto 4, 3) := by decide +kernel
theorem dX9_mayStand_20 : decode cX9_mayStand 20 = .ok (.iconst 0, 1) := by decide +kernel
theorem dX9_mayStand_21 : decode cX9_mayStand 21 = .ok (.ireturn, 1) := by decide +kernel
theorem dX9_mayStand_22 : decode cX9_mayStand 22 = .ok (.iconst 1, 1) := by decide +kernel
theorem dX9_mayStand_23 : decode cX9_mayStand 23 = .ok (.iload_n 1, 1) := by decide +kernel
theorem dX9_mayStand_24 : decode cX9_mayStand 24 = .ok (.ishl, 1) := by decide +kernel
theorem dX9_mayStand_25 : decode cX9_mayStand 25 = .ok (.istore_n 2, 1) := by decide +kernel
theorem dX9_mayStand_26 : decode cX9_mayStand 26 = .ok (.aload_n 0, 1) := by decide +kernel
theorem dX9_mayStand_27 : decode cX9_mayStand 27 = .ok (.getfield 30, 3) := by decide +kernel
theorem dX9_mayStand_30 : decode cX9_mayStand 30 = .ok (.iload_n 2, 1) := by decide +kernel
theorem dX9_mayStand_31 : decode cX9_mayStand 31 = .ok (.iand, 1) := by decide +kernel
theorem dX9_mayStand_32 : decode cX9_mayStand 32 = .ok (.ifCond .ne 7, 3) := by decide +kernel
theorem dX9_mayStand_35 : decode cX9_mayStand 35 = .ok (.iconst 1, 1) := by decide +kernel
theorem dX9_mayStand_36 : decode cX9_mayStand 36 = .ok (.goto 4, 3) := by decide +kernel
theorem dX9_mayStand_39 : decode cX9_mayStand 39 = .ok (.iconst 0, 1) := by decide +kernel
theorem dX9_mayStand_40 : decode cX9_mayStand 40 = .ok (.istore_n 3, 1) := by decide +kernel
theorem dX9_mayStand_41 : decode cX9_mayStand 41 = .ok (.aload_n 0, 1) := by decide +kernel
theorem dX9_mayStand_42 : decode cX9_mayStand 42 = .ok (.dup, 1) := by decide +kernel
theorem dX9_mayStand_43 : decode cX9_mayStand 43 = .ok (.getfield 30, 3) := by decide +kernel
theorem dX9_mayStand_46 : decode cX9_mayStand 46 = .ok (.iload_n 2, 1) := by decide +kernel
theorem dX9_mayStand_47 : decode cX9_mayStand 47 = .ok (.ior, 1) := by decide +kernel
theorem dX9_mayStand_48 : decode cX9_mayStand 48 = .ok (.putfield 30, 3) := by decide +kernel
theorem dX9_mayStand_51 : decode cX9_mayStand 51 = .ok (.iload_n 3, 1) := by decide +kernel
theorem dX9_mayStand_52 : decode cX9_mayStand 52 = .ok (.ireturn, 1) := by decide +kernel
theorem dX9_tell_0 : decode cX9_tell 0 = .ok (.iload_n 1, 1) := by decide +kernel
theorem dX9_tell_1 : decode cX9_tell 1 = .ok (.tableswitch 142 0 4 #[35, 57, 79, 101, 123], 35) := by decide +kernel
theorem dX9_tell_36 : decode cX9_tell 36 = .ok (.aload_n 0, 1) := by decide +kernel
theorem dX9_tell_37 : decode cX9_tell 37 = .ok (.ldc 101, 2) := by decide +kernel
theorem dX9_tell_39 : decode cX9_tell 39 = .ok (.ldc 85, 2) := by decide +kernel
theorem dX9_tell_41 : decode cX9_tell 41 = .ok (.ldc 103, 2) := by decide +kernel
theorem dX9_tell_43 : decode cX9_tell 43 = .ok (.invokevirtual 105, 3) := by decide +kernel
theorem dX9_tell_46 : decode cX9_tell 46 = .ok (.istore_n 2, 1) := by decide +kernel
theorem dX9_tell_47 : decode cX9_tell 47 = .ok (.aload_n 0, 1) := by decide +kernel
theorem dX9_tell_48 : decode cX9_tell 48 = .ok (.getfield 23, 3) := by decide +kernel
theorem dX9_tell_51 : decode cX9_tell 51 = .ok (.iload_n 2, 1) := by decide +kernel
theorem dX9_tell_52 : decode cX9_tell 52 = .ok (.putfield 109, 3) := by decide +kernel
theorem dX9_tell_55 : decode cX9_tell 55 = .ok (.goto 104, 3) := by decide +kernel
theorem dX9_tell_58 : decode cX9_tell 58 = .ok (.aload_n 0, 1) := by decide +kernel
theorem dX9_tell_59 : decode cX9_tell 59 = .ok (.iconst 2, 1) := by decide +kernel
theorem dX9_tell_60 : decode cX9_tell 60 = .ok (.bipush 60, 2) := by decide +kernel
theorem dX9_tell_62 : decode cX9_tell 62 = .ok (.invokevirtual 111, 3) := by decide +kernel
theorem dX9_tell_65 : decode cX9_tell 65 = .ok (.istore_n 2, 1) := by decide +kernel
theorem dX9_tell_66 : decode cX9_tell 66 = .ok (.aload_n 0, 1) := by decide +kernel
theorem dX9_tell_67 : decode cX9_tell 67 = .ok (.getfield 23, 3) := by decide +kernel
theorem dX9_tell_70 : decode cX9_tell 70 = .ok (.getfield 115, 3) := by decide +kernel
theorem dX9_tell_73 : decode cX9_tell 73 = .ok (.iload_n 2, 1) := by decide +kernel
theorem dX9_tell_74 : decode cX9_tell 74 = .ok (.putfield 119, 3) := by decide +kernel
theorem dX9_tell_77 : decode cX9_tell 77 = .ok (.goto 82, 3) := by decide +kernel
theorem dX9_tell_80 : decode cX9_tell 80 = .ok (.aload_n 0, 1) := by decide +kernel
theorem dX9_tell_81 : decode cX9_tell 81 = .ok (.iconst 1, 1) := by decide +kernel
theorem dX9_tell_82 : decode cX9_tell 82 = .ok (.bipush 30, 2) := by decide +kernel
theorem dX9_tell_84 : decode cX9_tell 84 = .ok (.invokevirtual 111, 3) := by decide +kernel
theorem dX9_tell_87 : decode cX9_tell 87 = .ok (.istore_n 2, 1) := by decide +kernel
theorem dX9_tell_88 : decode cX9_tell 88 = .ok (.aload_n 0, 1) := by decide +kernel
theorem dX9_tell_89 : decode cX9_tell 89 = .ok (.getfield 23, 3) := by decide +kernel
theorem dX9_tell_92 : decode cX9_tell 92 = .ok (.getfield 115, 3) := by decide +kernel
theorem dX9_tell_95 : decode cX9_tell 95 = .ok (.iload_n 2, 1) := by decide +kernel
theorem dX9_tell_96 : decode cX9_tell 96 = .ok (.putfield 123, 3) := by decide +kernel
theorem dX9_tell_99 : decode cX9_tell 99 = .ok (.goto 60, 3) := by decide +kernel
theorem dX9_tell_102 : decode cX9_tell 102 = .ok (.aload_n 0, 1) := by decide +kernel
theorem dX9_tell_103 : decode cX9_tell 103 = .ok (.ldc 125, 2) := by decide +kernel
theorem dX9_tell_105 : decode cX9_tell 105 = .ok (.ldc 127, 2) := by decide +kernel
theorem dX9_tell_107 : decode cX9_tell 107 = .ok (.ldc 129, 2) := by decide +kernel
theorem dX9_tell_109 : decode cX9_tell 109 = .ok (.invokevirtual 105, 3) := by decide +kernel
theorem dX9_tell_112 : decode cX9_tell 112 = .ok (.istore_n 2, 1) := by decide +kernel
theorem dX9_tell_113 : decode cX9_tell 113 = .ok (.aload_n 0, 1) := by decide +kernel
theorem dX9_tell_114 : decode cX9_tell 114 = .ok (.getfield 23, 3) := by decide +kernel
theorem dX9_tell_117 : decode cX9_tell 117 = .ok (.iload_n 2, 1) := by decide +kernel
theorem dX9_tell_118 : decode cX9_tell 118 = .ok (.putfield 131, 3) := by decide +kernel
theorem dX9_tell_121 : decode cX9_tell 121 = .ok (.goto 38, 3) := by decide +kernel
theorem dX9_tell_124 : decode cX9_tell 124 = .ok (.aload_n 0, 1) := by decide +kernel
theorem dX9_tell_125 : decode cX9_tell 125 = .ok (.iconst 1, 1) := by decide +kernel
theorem dX9_tell_126 : decode cX9_tell 126 = .ok (.bipush 60, 2) := by decide +kernel
theorem dX9_tell_128 : decode cX9_tell 128 = .ok (.invokevirtual 111, 3) := by decide +kernel
theorem dX9_tell_131 : decode cX9_tell 131 = .ok (.istore_n 2, 1) := by decide +kernel
theorem dX9_tell_132 : decode cX9_tell 132 = .ok (.aload_n 0, 1) := by decide +kernel
theorem dX9_tell_133 : decode cX9_tell 133 = .ok (.getfield 23, 3) := by decide +kernel
theorem dX9_tell_136 : decode cX9_tell 136 = .ok (.iload_n 2, 1) := by decide +kernel
theorem dX9_tell_137 : decode cX9_tell 137 = .ok (.putfield 133, 3) := by decide +kernel
theorem dX9_tell_140 : decode cX9_tell 140 = .ok (.goto 19, 3) := by decide +kernel
theorem dX9_tell_143 : decode cX9_tell 143 = .ok (.aload_n 0, 1) := by decide +kernel
theorem dX9_tell_144 : decode cX9_tell 144 = .ok (.iconst 1, 1) := by decide +kernel
theorem dX9_tell_145 : decode cX9_tell 145 = .ok (.bipush 8, 2) := by decide +kernel
theorem dX9_tell_147 : decode cX9_tell 147 = .ok (.invokevirtual 111, 3) := by decide +kernel
theorem dX9_tell_150 : decode cX9_tell 150 = .ok (.istore_n 2, 1) := by decide +kernel
theorem dX9_tell_151 : decode cX9_tell 151 = .ok (.aload_n 0, 1) := by decide +kernel
theorem dX9_tell_152 : decode cX9_tell 152 = .ok (.getfield 23, 3) := by decide +kernel
theorem dX9_tell_155 : decode cX9_tell 155 = .ok (.iload_n 2, 1) := by decide +kernel
theorem dX9_tell_156 : decode cX9_tell 156 = .ok (.invokevirtual 134, 3) := by decide +kernel
theorem dX9_tell_159 : decode cX9_tell 159 = .ok (.iload_n 2, 1) := by decide +kernel
theorem dX9_tell_160 : decode cX9_tell 160 = .ok (.iconst (-1), 1) := by decide +kernel
theorem dX9_tell_161 : decode cX9_tell 161 = .ok (.if_icmp .eq 7, 3) := by decide +kernel
theorem dX9_tell_164 : decode cX9_tell 164 = .ok (.iconst 1, 1) := by decide +kernel
theorem dX9_tell_165 : decode cX9_tell 165 = .ok (.goto 4, 3) := by decide +kernel
theorem dX9_tell_168 : decode cX9_tell 168 = .ok (.iconst 0, 1) := by decide +kernel
theorem dX9_tell_169 : decode cX9_tell 169 = .ok (.ireturn, 1) := by decide +kernel
theorem dX9_choice_0 : decode cX9_choice 0 = .ok (.aload_n 0, 1) := by decide +kernel
theorem dX9_choice_1 : decode cX9_choice 1 = .ok (.aload_n 1, 1) := by decide +kernel
theorem dX9_choice_2 : decode cX9_choice 2 = .ok (.invokevirtual 79, 3) := by decide +kernel
theorem dX9_choice_5 : decode cX9_choice 5 = .ok (.ifCond .eq 5, 3) := by decide +kernel
theorem dX9_choice_8 : decode cX9_choice 8 = .ok (.iconst 0, 1) := by decide +kernel
theorem dX9_choice_9 : decode cX9_choice 9 = .ok (.ireturn, 1) := by decide +kernel
theorem dX9_choice_10 : decode cX9_choice 10 = .ok (.aload_n 0, 1) := by decide +kernel
theorem dX9_choice_11 : decode cX9_choice 11 = .ok (.aload_n 2, 1) := by decide +kernel
theorem dX9_choice_12 : decode cX9_choice 12 = .ok (.invokevirtual 79, 3) := by decide +kernel
theorem dX9_choice_15 : decode cX9_choice 15 = .ok (.ifCond .eq 5, 3) := by decide +kernel
theorem dX9_choice_18 : decode cX9_choice 18 = .ok (.iconst 1, 1) := by decide +kernel
theorem dX9_choice_19 : decode cX9_choice 19 = .ok (.ireturn, 1) := by decide +kernel
theorem dX9_choice_20 : decode cX9_choice 20 = .ok (.aload_n 0, 1) := by decide +kernel
theorem dX9_choice_21 : decode cX9_choice 21 = .ok (.aload_n 3, 1) := by decide +kernel
theorem dX9_choice_22 : decode cX9_choice 22 = .ok (.invokevirtual 79, 3) := by decide +kernel
theorem dX9_choice_25 : decode cX9_choice 25 = .ok (.ifCond .eq 7, 3) := by decide +kernel
theorem dX9_choice_28 : decode cX9_choice 28 = .ok (.iconst 2, 1) := by decide +kernel
theorem dX9_choice_29 : decode cX9_choice 29 = .ok (.goto 4, 3) := by decide +kernel
theorem dX9_choice_32 : decode cX9_choice 32 = .ok (.iconst (-1), 1) := by decide +kernel
theorem dX9_choice_33 : decode cX9_choice 33 = .ok (.ireturn, 1) := by decide +kernel
theorem dX9_number_0 : decode cX9_number 0 = .ok (.aload_n 0, 1) := by decide +kernel
theorem dX9_number_1 : decode cX9_number 1 = .ok (.getfield 40, 3) := by decide +kernel
theorem dX9_number_4 : decode cX9_number 4 = .ok (.iconst 2, 1) := by decide +kernel
theorem dX9_number_5 : decode cX9_number 5 = .ok (.if_icmp .ne 16, 3) := by decide +kernel
theorem dX9_number_8 : decode cX9_number 8 = .ok (.aload_n 0, 1) := by decide +kernel
theorem dX9_number_9 : decode cX9_number 9 = .ok (.getfield 34, 3) := by decide +kernel
theorem dX9_number_12 : decode cX9_number 12 = .ok (.aload_n 0, 1) := by decide +kernel
theorem dX9_number_13 : decode cX9_number 13 = .ok (.getfield 51, 3) := by decide +kernel
theorem dX9_number_16 : decode cX9_number 16 = .ok (.isub, 1) := by decide +kernel
theorem dX9_number_17 : decode cX9_number 17 = .ok (.iconst 2, 1) := by decide +kernel
theorem dX9_number_18 : decode cX9_number 18 = .ok (.if_icmp .le 5, 3) := by decide +kernel
theorem dX9_number_21 : decode cX9_number 21 = .ok (.iconst (-1), 1) := by decide +kernel
theorem dX9_number_22 : decode cX9_number 22 = .ok (.ireturn, 1) := by decide +kernel
theorem dX9_number_23 : decode cX9_number 23 = .ok (.iconst 0, 1) := by decide +kernel
theorem dX9_number_24 : decode cX9_number 24 = .ok (.istore_n 3, 1) := by decide +kernel
theorem dX9_number_25 : decode cX9_number 25 = .ok (.aload_n 0, 1) := by decide +kernel
theorem dX9_number_26 : decode cX9_number 26 = .ok (.getfield 51, 3) := by decide +kernel
theorem dX9_number_29 : decode cX9_number 29 = .ok (.istore 4, 2) := by decide +kernel
theorem dX9_number_31 : decode cX9_number 31 = .ok (.iload 4, 2) := by decide +kernel
theorem dX9_number_33 : decode cX9_number 33 = .ok (.aload_n 0, 1) := by decide +kernel
theorem dX9_number_34 : decode cX9_number 34 = .ok (.getfield 34, 3) := by decide +kernel
theorem dX9_number_37 : decode cX9_number 37 = .ok (.if_icmp .ge 27, 3) := by decide +kernel
theorem dX9_number_40 : decode cX9_number 40 = .ok (.bipush 10, 2) := by decide +kernel
theorem dX9_number_42 : decode cX9_number 42 = .ok (.iload_n 3, 1) := by decide +kernel
theorem dX9_number_43 : decode cX9_number 43 = .ok (.imul, 1) := by decide +kernel
theorem dX9_number_44 : decode cX9_number 44 = .ok (.aload_n 0, 1) := by decide +kernel
theorem dX9_number_45 : decode cX9_number 45 = .ok (.getfield 14, 3) := by decide +kernel
theorem dX9_number_48 : decode cX9_number 48 = .ok (.iload 4, 2) := by decide +kernel
theorem dX9_number_50 : decode cX9_number 50 = .ok (.invokevirtual 60, 3) := by decide +kernel
theorem dX9_number_53 : decode cX9_number 53 = .ok (.iadd, 1) := by decide +kernel
theorem dX9_number_54 : decode cX9_number 54 = .ok (.bipush 48, 2) := by decide +kernel
theorem dX9_number_56 : decode cX9_number 56 = .ok (.isub, 1) := by decide +kernel
theorem dX9_number_57 : decode cX9_number 57 = .ok (.istore_n 3, 1) := by decide +kernel
theorem dX9_number_58 : decode cX9_number 58 = .ok (.iinc 4 1, 3) := by decide +kernel
theorem dX9_number_61 : decode cX9_number 61 = .ok (.goto (-30), 3) := by decide +kernel
theorem dX9_number_64 : decode cX9_number 64 = .ok (.iload_n 3, 1) := by decide +kernel
theorem dX9_number_65 : decode cX9_number 65 = .ok (.iload_n 1, 1) := by decide +kernel
theorem dX9_number_66 : decode cX9_number 66 = .ok (.if_icmp .lt 12, 3) := by decide +kernel
theorem dX9_number_69 : decode cX9_number 69 = .ok (.iload_n 3, 1) := by decide +kernel
theorem dX9_number_70 : decode cX9_number 70 = .ok (.iload_n 2, 1) := by decide +kernel
theorem dX9_number_71 : decode cX9_number 71 = .ok (.if_icmp .gt 7, 3) := by decide +kernel
theorem dX9_number_74 : decode cX9_number 74 = .ok (.iload_n 3, 1) := by decide +kernel
theorem dX9_number_75 : decode cX9_number 75 = .ok (.goto 4, 3) := by decide +kernel
theorem dX9_number_78 : decode cX9_number 78 = .ok (.iconst (-1), 1) := by decide +kernel
theorem dX9_number_79 : decode cX9_number 79 = .ok (.ireturn, 1) := by decide +kernel
theorem dX10_init_0 : decode cX10_init 0 = .ok (.aload_n 0, 1) := by decide +kernel
theorem dX10_init_1 : decode cX10_init 1 = .ok (.invokespecial 1, 3) := by decide +kernel
theorem dX10_init_4 : decode cX10_init 4 = .ok (.return_, 1) := by decide +kernel
theorem dX10_begin_0 : decode cX10_begin 0 = .ok (.aload_n 0, 1) := by decide +kernel
theorem dX10_begin_1 : decode cX10_begin 1 = .ok (.iconst 0, 1) := by decide +kernel
theorem dX10_begin_2 : decode cX10_begin 2 = .ok (.putfield 7, 3) := by decide +kernel
theorem dX10_begin_5 : decode cX10_begin 5 = .ok (.aload_n 0, 1) := by decide +kernel
theorem dX10_begin_6 : decode cX10_begin 6 = .ok (.iconst 0, 1) := by decide +kernel
theorem dX10_begin_7 : decode cX10_begin 7 = .ok (.putfield 13, 3) := by decide +kernel
theorem dX10_begin_10 : decode cX10_begin 10 = .ok (.aload_n 0, 1) := by decide +kernel
theorem dX10_begin_11 : decode cX10_begin 11 = .ok (.iconst 0, 1) := by decide +kernel
theorem dX10_begin_12 : decode cX10_begin 12 = .ok (.putfield 16, 3) := by decide +kernel
theorem dX10_begin_15 : decode cX10_begin 15 = .ok (.return_, 1) := by decide +kernel
theorem dX10_step_0 : decode cX10_step 0 = .ok (.aload_n 0, 1) := by decide +kernel
theorem dX10_step_1 : decode cX10_step 1 = .ok (.getfield 16, 3) := by decide +kernel
theorem dX10_step_4 : decode cX10_step 4 = .ok (.istore_n 2, 1) := by decide +kernel
theorem dX10_step_5 : decode cX10_step 5 = .ok (.iload_n 2, 1) := by decide +kernel
theorem dX10_step_6 : decode cX10_step 6 = .ok (.istore_n 3, 1) := by decide +kernel
theorem dX10_step_7 : decode cX10_step 7 = .ok (.iload_n 3, 1) := by decide +kernel
theorem dX10_step_8 : decode cX10_step 8 = .ok (.aload_n 1, 1) := by decide +kernel
theorem dX10_step_9 : decode cX10_step 9 = .ok (.getfield 19, 3) := by decide +kernel
theorem dX10_step_12 : decode cX10_step 12 = .ok (.if_icmp .ge 47, 3) := by decide +kernel
theorem dX10_step_15 : decode cX10_step 15 = .ok (.aload_n 1, 1) := by decide +kernel
theorem dX10_step_16 : decode cX10_step 16 = .ok (.iload_n 3, 1) := by decide +kernel
theorem dX10_step_17 : decode cX10_step 17 = .ok (.invokevirtual 24, 3) := by decide +kernel
theorem dX10_step_20 : decode cX10_step 20 = .ok (.ifCond .ne 33, 3) := by decide +kernel
theorem dX10_step_23 : decode cX10_step 23 = .ok (.aload_n 0, 1) := by decide +kernel
theorem dX10_step_24 : decode cX10_step 24 = .ok (.iload_n 3, 1) := by decide +kernel
theorem dX10_step_25 : decode cX10_step 25 = .ok (.iconst 1, 1) := by decide +kernel
theorem dX10_step_26 : decode cX10_step 26 = .ok (.iadd, 1) := by decide +kernel
theorem dX10_step_27 : decode cX10_step 27 = .ok (.putfield 16, 3) := by decide +kernel
theorem dX10_step_30 : decode cX10_step 30 = .ok (.iload_n 3, 1) := by decide +kernel
theorem dX10_step_31 : decode cX10_step 31 = .ok (.iload_n 2, 1) := by decide +kernel
theorem dX10_step_32 : decode cX10_step 32 = .ok (.if_icmp .le 17, 3) := by decide +kernel
theorem dX10_step_35 : decode cX10_step 35 = .ok (.aload_n 0, 1) := by decide +kernel
theorem dX10_step_36 : decode cX10_step 36 = .ok (.iload_n 2, 1) := by decide +kernel
theorem dX10_step_37 : decode cX10_step 37 = .ok (.putfield 7, 3) := by decide +kernel
theorem dX10_step_40 : decode cX10_step 40 = .ok (.aload_n 0, 1) := by decide +kernel
theorem dX10_step_41 : decode cX10_step 41 = .ok (.iload_n 3, 1) := by decide +kernel
theorem dX10_step_42 : decode cX10_step 42 = .ok (.iload_n 2, 1) := by decide +kernel
theorem dX10_step_43 : decode cX10_step 43 = .ok (.isub, 1) := by decide +kernel
theorem dX10_step_44 : decode cX10_step 44 = .ok (.putfield 13, 3) := by decide +kernel
theorem dX10_step_47 : decode cX10_step 47 = .ok (.iconst 1, 1) := by decide +kernel
theorem dX10_step_48 : decode cX10_step 48 = .ok (.ireturn, 1) := by decide +kernel
theorem dX10_step_49 : decode cX10_step 49 = .ok (.iload_n 3, 1) := by decide +kernel
theorem dX10_step_50 : decode cX10_step 50 = .ok (.iconst 1, 1) := by decide +kernel
theorem dX10_step_51 : decode cX10_step 51 = .ok (.iadd, 1) := by decide +kernel
theorem dX10_step_52 : decode cX10_step 52 = .ok (.istore_n 2, 1) := by decide +kernel
theorem dX10_step_53 : decode cX10_step 53 = .ok (.iinc 3 1, 3) := by decide +kernel
theorem dX10_step_56 : decode cX10_step 56 = .ok (.goto (-49), 3) := by decide +kernel
theorem dX10_step_59 : decode cX10_step 59 = .ok (.aload_n 0, 1) := by decide +kernel
theorem dX10_step_60 : decode cX10_step 60 = .ok (.aload_n 1, 1) := by decide +kernel
theorem dX10_step_61 : decode cX10_step 61 = .ok (.getfield 19, 3) := by decide +kernel
theorem dX10_step_64 : decode cX10_step 64 = .ok (.putfield 16, 3) := by decide +kernel
theorem dX10_step_67 : decode cX10_step 67 = .ok (.iconst 0, 1) := by decide +kernel
theorem dX10_step_68 : decode cX10_step 68 = .ok (.ireturn, 1) := by decide +kernel
theorem dX10_find_0 : decode cX10_find 0 = .ok (.iload_n 2, 1) := by decide +kernel
theorem dX10_find_1 : decode cX10_find 1 = .ok (.ifCond .lt 11, 3) := by decide +kernel
theorem dX10_find_4 : decode cX10_find 4 = .ok (.iload_n 2, 1) := by decide +kernel
theorem dX10_find_5 : decode cX10_find 5 = .ok (.aload_n 1, 1) := by decide +kernel
theorem dX10_find_6 : decode cX10_find 6 = .ok (.getfield 19, 3) := by decide +kernel
theorem dX10_find_9 : decode cX10_find 9 = .ok (.if_icmp .lt 5, 3) := by decide +kernel
theorem dX10_find_12 : decode cX10_find 12 = .ok (.iconst 0, 1) := by decide +kernel
theorem dX10_find_13 : decode cX10_find 13 = .ok (.ireturn, 1) := by decide +kernel
theorem dX10_find_14 : decode cX10_find 14 = .ok (.aload_n 0, 1) := by decide +kernel
theorem dX10_find_15 : decode cX10_find 15 = .ok (.invokevirtual 28, 3) := by decide +kernel
theorem dX10_find_18 : decode cX10_find 18 = .ok (.iconst 1, 1) := by decide +kernel
theorem dX10_find_19 : decode cX10_find 19 = .ok (.istore_n 3, 1) := by decide +kernel
theorem dX10_find_20 : decode cX10_find 20 = .ok (.iconst 0, 1) := by decide +kernel
theorem dX10_find_21 : decode cX10_find 21 = .ok (.istore 4, 2) := by decide +kernel
theorem dX10_find_23 : decode cX10_find 23 = .ok (.iload_n 3, 1) := by decide +kernel
theorem dX10_find_24 : decode cX10_find 24 = .ok (.ifCond .eq 21, 3) := by decide +kernel
theorem dX10_find_27 : decode cX10_find 27 = .ok (.iload 4, 2) := by decide +kernel
theorem dX10_find_29 : decode cX10_find 29 = .ok (.iload_n 2, 1) := by decide +kernel
theorem dX10_find_30 : decode cX10_find 30 = .ok (.if_icmp .gt 15, 3) := by decide +kernel
theorem dX10_find_33 : decode cX10_find 33 = .ok (.aload_n 0, 1) := by decide +kernel
theorem dX10_find_34 : decode cX10_find 34 = .ok (.aload_n 1, 1) := by decide +kernel
theorem dX10_find_35 : decode cX10_find 35 = .ok (.invokevirtual 31, 3) := by decide +kernel
theorem dX10_find_38 : decode cX10_find 38 = .ok (.istore_n 3, 1) := by decide +kernel
theorem dX10_find_39 : decode cX10_find 39 = .ok (.iinc 4 1, 3) := by decide +kernel
theorem dX10_find_42 : decode cX10_find 42 = .ok (.goto (-19), 3) := by decide +kernel
theorem dX10_find_45 : decode cX10_find 45 = .ok (.iload_n 3, 1) := by decide +kernel
theorem dX10_find_46 : decode cX10_find 46 = .ok (.ireturn, 1) := by decide +kernel
theorem dX11_init_0 : decode cX11_init 0 = .ok (.aload_n 0, 1) := by decide +kernel
theorem dX11_init_1 : decode cX11_init 1 = .ok (.invokespecial 3, 3) := by decide +kernel
theorem dX11_init_4 : decode cX11_init 4 = .ok (.aload_n 0, 1) := by decide +kernel
theorem dX11_init_5 : decode cX11_init 5 = .ok (.new 9, 3) := by decide +kernel
theorem dX11_init_8 : decode cX11_init 8 = .ok (.dup, 1) := by decide +kernel
theorem dX11_init_9 : decode cX11_init 9 = .ok (.invokespecial 11, 3) := by decide +kernel
theorem dX11_init_12 : decode cX11_init 12 = .ok (.putfield 12, 3) := by decide +kernel
theorem dX11_init_15 : decode cX11_init 15 = .ok (.aload_n 0, 1) := by decide +kernel
theorem dX11_init_16 : decode cX11_init 16 = .ok (.new 16, 3) := by decide +kernel
theorem dX11_init_19 : decode cX11_init 19 = .ok (.dup, 1) := by decide +kernel
theorem dX11_init_20 : decode cX11_init 20 = .ok (.sipush 600, 3) := by decide +kernel
theorem dX11_init_23 : decode cX11_init 23 = .ok (.invokespecial 18, 3) := by decide +kernel
theorem dX11_init_26 : decode cX11_init 26 = .ok (.putfield 21, 3) := by decide +kernel
theorem dX11_init_29 : decode cX11_init 29 = .ok (.aload_n 0, 1) := by decide +kernel
theorem dX11_init_30 : decode cX11_init 30 = .ok (.new 16, 3) := by decide +kernel
theorem dX11_init_33 : decode cX11_init 33 = .ok (.dup, 1) := by decide +kernel
theorem dX11_init_34 : decode cX11_init 34 = .ok (.bipush 120, 2) := by decide +kernel
theorem dX11_init_36 : decode cX11_init 36 = .ok (.invokespecial 18, 3) := by decide +kernel
theorem dX11_init_39 : decode cX11_init 39 = .ok (.putfield 25, 3) := by decide +kernel
theorem dX11_init_42 : decode cX11_init 42 = .ok (.aload_n 0, 1) := by decide +kernel
theorem dX11_init_43 : decode cX11_init 43 = .ok (.new 28, 3) := by decide +kernel
theorem dX11_init_46 : decode cX11_init 46 = .ok (.dup, 1) := by decide +kernel
theorem dX11_init_47 : decode cX11_init 47 = .ok (.invokespecial 30, 3) := by decide +kernel
theorem dX11_init_50 : decode cX11_init 50 = .ok (.putfield 31, 3) := by decide +kernel
theorem dX11_init_53 : decode cX11_init 53 = .ok (.aload_n 0, 1) := by decide +kernel
theorem dX11_init_54 : decode cX11_init 54 = .ok (.new 35, 3) := by decide +kernel
theorem dX11_init_57 : decode cX11_init 57 = .ok (.dup, 1) := by decide +kernel
theorem dX11_init_58 : decode cX11_init 58 = .ok (.invokespecial 37, 3) := by decide +kernel
theorem dX11_init_61 : decode cX11_init 61 = .ok (.putfield 38, 3) := by decide +kernel
theorem dX11_init_64 : decode cX11_init 64 = .ok (.aload_n 0, 1) := by decide +kernel
theorem dX11_init_65 : decode cX11_init 65 = .ok (.new 42, 3) := by decide +kernel
theorem dX11_init_68 : decode cX11_init 68 = .ok (.dup, 1) := by decide +kernel
theorem dX11_init_69 : decode cX11_init 69 = .ok (.invokespecial 44, 3) := by decide +kernel
theorem dX11_init_72 : decode cX11_init 72 = .ok (.putfield 45, 3) := by decide +kernel
theorem dX11_init_75 : decode cX11_init 75 = .ok (.aload_n 0, 1) := by decide +kernel
theorem dX11_init_76 : decode cX11_init 76 = .ok (.new 49, 3) := by decide +kernel
theorem dX11_init_79 : decode cX11_init 79 = .ok (.dup, 1) := by decide +kernel
theorem dX11_init_80 : decode cX11_init 80 = .ok (.invokespecial 51, 3) := by decide +kernel
theorem dX11_init_83 : decode cX11_init 83 = .ok (.putfield 52, 3) := by decide +kernel
theorem dX11_init_86 : decode cX11_init 86 = .ok (.aload_n 0, 1) := by decide +kernel
theorem dX11_init_87 : decode cX11_init 87 = .ok (.new 56, 3) := by decide +kernel
theorem dX11_init_90 : decode cX11_init 90 = .ok (.dup, 1) := by decide +kernel
theorem dX11_init_91 : decode cX11_init 91 = .ok (.invokespecial 58, 3) := by decide +kernel
theorem dX11_init_94 : decode cX11_init 94 = .ok (.putfield 59, 3) := by decide +kernel
theorem dX11_init_97 : decode cX11_init 97 = .ok (.aload_n 0, 1) := by decide +kernel
theorem dX11_init_98 : decode cX11_init 98 = .ok (.new 56, 3) := by decide +kernel
theorem dX11_init_101 : decode cX11_init 101 = .ok (.dup, 1) := by decide +kernel
theorem dX11_init_102 : decode cX11_init 102 = .ok (.invokespecial 58, 3) := by decide +kernel
theorem dX11_init_105 : decode cX11_init 105 = .ok (.putfield 63, 3) := by decide +kernel
theorem dX11_init_108 : decode cX11_init 108 = .ok (.aload_n 0, 1) := by decide +kernel
theorem dX11_init_109 : decode cX11_init 109 = .ok (.iconst 4, 1) := by decide +kernel
theorem dX11_init_110 : decode cX11_init 110 = .ok (.newarray .int, 2) := by decide +kernel
theorem dX11_init_112 : decode cX11_init 112 = .ok (.putfield 66, 3) := by decide +kernel
theorem dX11_init_115 : decode cX11_init 115 = .ok (.aload_n 0, 1) := by decide +kernel
theorem dX11_init_116 : decode cX11_init 116 = .ok (.new 56, 3) := by decide +kernel
theorem dX11_init_119 : decode cX11_init 119 = .ok (.dup, 1) := by decide +kernel
theorem dX11_init_120 : decode cX11_init 120 = .ok (.invokespecial 58, 3) := by decide +kernel
theorem dX11_init_123 : decode cX11_init 123 = .ok (.putfield 70, 3) := by decide +kernel
theorem dX11_init_126 : decode cX11_init 126 = .ok (.return_, 1) := by decide +kernel
theorem dX11_feed_0 : decode cX11_feed 0 = .ok (.aload_n 0, 1) := by decide +kernel
theorem dX11_feed_1 : decode cX11_feed 1 = .ok (.getfield 12, 3) := by decide +kernel
theorem dX11_feed_4 : decode cX11_feed 4 = .ok (.getfield 73, 3) := by decide +kernel
theorem dX11_feed_7 : decode cX11_feed 7 = .ok (.getfield 76, 3) := by decide +kernel
theorem dX11_feed_10 : decode cX11_feed 10 = .ok (.bipush 20, 2) := by decide +kernel
theorem dX11_feed_12 : decode cX11_feed 12 = .ok (.iadd, 1) := by decide +kernel
theorem dX11_feed_13 : decode cX11_feed 13 = .ok (.sipush 300, 3) := by decide +kernel
theorem dX11_feed_16 : decode cX11_feed 16 = .ok (.if_icmp .le 5, 3) := by decide +kernel
theorem dX11_feed_19 : decode cX11_feed 19 = .ok (.iconst (-1), 1) := by decide +kernel
theorem dX11_feed_20 : decode cX11_feed 20 = .ok (.ireturn, 1) := by decide +kernel
theorem dX11_feed_21 : decode cX11_feed 21 = .ok (.aload_n 0, 1) := by decide +kernel
theorem dX11_feed_22 : decode cX11_feed 22 = .ok (.iload_n 1, 1) := by decide +kernel
theorem dX11_feed_23 : decode cX11_feed 23 = .ok (.invokevirtual 80, 3) := by decide +kernel
theorem dX11_feed_26 : decode cX11_feed 26 = .ok (.aload_n 0, 1) := by decide +kernel
theorem dX11_feed_27 : decode cX11_feed 27 = .ok (.iload_n 2, 1) := by decide +kernel
theorem dX11_feed_28 : decode cX11_feed 28 = .ok (.invokevirtual 80, 3) := by decide +kernel
theorem dX11_feed_31 : decode cX11_feed 31 = .ok (.aload_n 0, 1) := by decide +kernel
theorem dX11_feed_32 : decode cX11_feed 32 = .ok (.iload_n 3, 1) := by decide +kernel
theorem dX11_feed_33 : decode cX11_feed 33 = .ok (.invokevirtual 80, 3) := by decide +kernel
theorem dX11_feed_36 : decode cX11_feed 36 = .ok (.aload_n 0, 1) := by decide +kernel
theorem dX11_feed_37 : decode cX11_feed 37 = .ok (.iload 4, 2) := by decide +kernel
theorem dX11_feed_39 : decode cX11_feed 39 = .ok (.invokevirtual 80, 3) := by decide +kernel
theorem dX11_feed_42 : decode cX11_feed 42 = .ok (.aload_n 0, 1) := by decide +kernel
theorem dX11_feed_43 : decode cX11_feed 43 = .ok (.iload 5, 2) := by decide +kernel
theorem dX11_feed_45 : decode cX11_feed 45 = .ok (.invokevirtual 80, 3) := by decide +kernel
theorem dX11_feed_48 : decode cX11_feed 48 = .ok (.aload_n 0, 1) := by decide +kernel
theorem dX11_feed_49 : decode cX11_feed 49 = .ok (.getfield 12, 3) := by decide +kernel
theorem dX11_feed_52 : decode cX11_feed 52 = .ok (.getfield 73, 3) := by decide +kernel
theorem dX11_feed_55 : decode cX11_feed 55 = .ok (.getfield 76, 3) := by decide +kernel
theorem dX11_feed_58 : decode cX11_feed 58 = .ok (.ireturn, 1) := by decide +kernel
theorem dX11_addFour_0 : decode cX11_addFour 0 = .ok (.bipush 24, 2) := by decide +kernel
theorem dX11_addFour_2 : decode cX11_addFour 2 = .ok (.istore_n 2, 1) := by decide +kernel
theorem dX11_addFour_3 : decode cX11_addFour 3 = .ok (.iload_n 2, 1) := by decide +kernel
theorem dX11_addFour_4 : decode cX11_addFour 4 = .ok (.ifCond .lt 26, 3) := by decide +kernel
theorem dX11_addFour_7 : decode cX11_addFour 7 = .ok (.aload_n 0, 1) := by decide +kernel
theorem dX11_addFour_8 : decode cX11_addFour 8 = .ok (.getfield 12, 3) := by decide +kernel
theorem dX11_addFour_11 : decode cX11_addFour 11 = .ok (.getfield 73, 3) := by decide +kernel
theorem dX11_addFour_14 : decode cX11_addFour 14 = .ok (.iload_n 1, 1) := by decide +kernel
theorem dX11_addFour_15 : decode cX11_addFour 15 = .ok (.iload_n 2, 1) := by decide +kernel
theorem dX11_addFour_16 : decode cX11_addFour 16 = .ok (.iushr, 1) := by decide +kernel
theorem dX11_addFour_17 : decode cX11_addFour 17 = .ok (.sipush 255, 3) := by decide +kernel
theorem dX11_addFour_20 : decode cX11_addFour 20 = .ok (.iand, 1) := by decide +kernel
theorem dX11_addFour_21 : decode cX11_addFour 21 = .ok (.invokevirtual 83, 3) := by decide +kernel
theorem dX11_addFour_24 : decode cX11_addFour 24 = .ok (.iinc 2 (-8), 3) := by decide +kernel
theorem dX11_addFour_27 : decode cX11_addFour 27 = .ok (.goto (-24), 3) := by decide +kernel
theorem dX11_addFour_30 : decode cX11_addFour 30 = .ok (.return_, 1) := by decide +kernel
theorem dX11_end_0 : decode cX11_end 0 = .ok (.iload_n 1, 1) := by decide +kernel
theorem dX11_end_1 : decode cX11_end 1 = .ok (.ifCond .lt 17, 3) := by decide +kernel
theorem dX11_end_4 : decode cX11_end 4 = .ok (.iload_n 1, 1) := by decide +kernel
theorem dX11_end_5 : decode cX11_end 5 = .ok (.aload_n 0, 1) := by decide +kernel
theorem dX11_end_6 : decode cX11_end 6 = .ok (.getfield 12, 3) := by decide +kernel
theorem dX11_end_9 : decode cX11_end 9 = .ok (.getfield 73, 3) := by decide +kernel
theorem dX11_end_12 : decode cX11_end 12 = .ok (.getfield 76, 3) := by decide +kernel
theorem dX11_end_15 : decode cX11_end 15 = .ok (.if_icmp .le 5, 3) := by decide +kernel
theorem dX11_end_18 : decode cX11_end 18 = .ok (.iconst 0, 1) := by decide +kernel
theorem dX11_end_19 : decode cX11_end 19 = .ok (.ireturn, 1) := by decide +kernel
theorem dX11_end_20 : decode cX11_end 20 = .ok (.aload_n 0, 1) := by decide +kernel
theorem dX11_end_21 : decode cX11_end 21 = .ok (.getfield 12, 3) := by decide +kernel
theorem dX11_end_24 : decode cX11_end 24 = .ok (.getfield 73, 3) := by decide +kernel
theorem dX11_end_27 : decode cX11_end 27 = .ok (.iload_n 1, 1) := by decide +kernel
theorem dX11_end_28 : decode cX11_end 28 = .ok (.putfield 76, 3) := by decide +kernel
theorem dX11_end_31 : decode cX11_end 31 = .ok (.iconst 1, 1) := by decide +kernel
theorem dX11_end_32 : decode cX11_end 32 = .ok (.ireturn, 1) := by decide +kernel
theorem dX11_fault_0 : decode cX11_fault 0 = .ok (.aload_n 0, 1) := by decide +kernel
theorem dX11_fault_1 : decode cX11_fault 1 = .ok (.getfield 12, 3) := by decide +kernel
theorem dX11_fault_4 : decode cX11_fault 4 = .ok (.invokevirtual 86, 3) := by decide +kernel
theorem dX11_fault_7 : decode cX11_fault 7 = .ok (.ireturn, 1) := by decide +kernel
theorem dX11_line_0 : decode cX11_line 0 = .ok (.aload_n 0, 1) := by decide +kernel
theorem dX11_line_1 : decode cX11_line 1 = .ok (.getfield 12, 3) := by decide +kernel
theorem dX11_line_4 : decode cX11_line 4 = .ok (.invokevirtual 86, 3) := by decide +kernel
theorem dX11_line_7 : decode cX11_line 7 = .ok (.iconst (-1), 1) := by decide +kernel
theorem dX11_line_8 : decode cX11_line 8 = .ok (.if_icmp .eq 5, 3) := by decide +kernel
theorem dX11_line_11 : decode cX11_line 11 = .ok (.iconst (-1), 1) := by decide +kernel
theorem dX11_line_12 : decode cX11_line 12 = .ok (.ireturn, 1) := by decide +kernel
theorem dX11_line_13 : decode cX11_line 13 = .ok (.aload_n 0, 1) := by decide +kernel
theorem dX11_line_14 : decode cX11_line 14 = .ok (.getfield 31, 3) := by decide +kernel
theorem dX11_line_17 : decode cX11_line 17 = .ok (.getfield 90, 3) := by decide +kernel
theorem dX11_line_20 : decode cX11_line 20 = .ok (.aload_n 0, 1) := by decide +kernel
theorem dX11_line_21 : decode cX11_line 21 = .ok (.getfield 12, 3) := by decide +kernel
theorem dX11_line_24 : decode cX11_line 24 = .ok (.getfield 94, 3) := by decide +kernel
theorem dX11_line_27 : decode cX11_line 27 = .ok (.invokevirtual 97, 3) := by decide +kernel
theorem dX11_line_30 : decode cX11_line 30 = .ok (.aload_n 0, 1) := by decide +kernel
theorem dX11_line_31 : decode cX11_line 31 = .ok (.getfield 12, 3) := by decide +kernel
theorem dX11_line_34 : decode cX11_line 34 = .ok (.getfield 73, 3) := by decide +kernel
theorem dX11_line_37 : decode cX11_line 37 = .ok (.invokevirtual 103, 3) := by decide +kernel
theorem dX11_line_40 : decode cX11_line 40 = .ok (.aload_n 0, 1) := by decide +kernel
theorem dX11_line_41 : decode cX11_line 41 = .ok (.getfield 25, 3) := by decide +kernel
theorem dX11_line_44 : decode cX11_line 44 = .ok (.invokevirtual 103, 3) := by decide +kernel
theorem dX11_line_47 : decode cX11_line 47 = .ok (.aload_n 0, 1) := by decide +kernel
theorem dX11_line_48 : decode cX11_line 48 = .ok (.getfield 52, 3) := by decide +kernel
theorem dX11_line_51 : decode cX11_line 51 = .ok (.invokevirtual 106, 3) := by decide +kernel
theorem dX11_line_54 : decode cX11_line 54 = .ok (.aload_n 0, 1) := by decide +kernel
theorem dX11_line_55 : decode cX11_line 55 = .ok (.getfield 70, 3) := by decide +kernel
theorem dX11_line_58 : decode cX11_line 58 = .ok (.aload_n 0, 1) := by decide +kernel
theorem dX11_line_59 : decode cX11_line 59 = .ok (.getfield 31, 3) := by decide +kernel
theorem dX11_line_62 : decode cX11_line 62 = .ok (.getfield 90, 3) := by decide +kernel
theorem dX11_line_65 : decode cX11_line 65 = .ok (.invokevirtual 109, 3) := by decide +kernel
theorem dX11_line_68 : decode cX11_line 68 = .ok (.aload_n 0, 1) := by decide +kernel
theorem dX11_line_69 : decode cX11_line 69 = .ok (.iconst 1, 1) := by decide +kernel
theorem dX11_line_70 : decode cX11_line 70 = .ok (.putfield 112, 3) := by decide +kernel
theorem dX11_line_73 : decode cX11_line 73 = .ok (.aload_n 0, 1) := by decide +kernel
theorem dX11_line_74 : decode cX11_line 74 = .ok (.iconst 0, 1) := by decide +kernel
theorem dX11_line_75 : decode cX11_line 75 = .ok (.putfield 116, 3) := by decide +kernel
theorem dX11_line_78 : decode cX11_line 78 = .ok (.aload_n 0, 1) := by decide +kernel
theorem dX11_line_79 : decode cX11_line 79 = .ok (.getfield 31, 3) := by decide +kernel
theorem dX11_line_82 : decode cX11_line 82 = .ok (.getfield 90, 3) := by decide +kernel
theorem dX11_line_85 : decode cX11_line 85 = .ok (.getfield 119, 3) := by decide +kernel
theorem dX11_line_88 : decode cX11_line 88 = .ok (.ireturn, 1) := by decide +kernel
theorem dX11_rule_0 : decode cX11_rule 0 = .ok (.aload_n 0, 1) := by decide +kernel
theorem dX11_rule_1 : decode cX11_rule 1 = .ok (.getfield 112, 3) := by decide +kernel
theorem dX11_rule_4 : decode cX11_rule 4 = .ok (.ifCond .ne 6, 3) := by decide +kernel
theorem dX11_rule_7 : decode cX11_rule 7 = .ok (.ldc 122, 2) := by decide +kernel
theorem dX11_rule_9 : decode cX11_rule 9 = .ok (.ireturn, 1) := by decide +kernel
theorem dX11_rule_10 : decode cX11_rule 10 = .ok (.aload_n 0, 1) := by decide +kernel
theorem dX11_rule_11 : decode cX11_rule 11 = .ok (.getfield 31, 3) := by decide +kernel
theorem dX11_rule_14 : decode cX11_rule 14 = .ok (.getfield 90, 3) := by decide +kernel
theorem dX11_rule_17 : decode cX11_rule 17 = .ok (.astore_n 2, 1) := by decide +kernel
theorem dX11_rule_18 : decode cX11_rule 18 = .ok (.iload_n 1, 1) := by decide +kernel
theorem dX11_rule_19 : decode cX11_rule 19 = .ok (.tableswitch 149 0 11 #[61, 66, 74, 82, 87, 92, 97, 108, 113, 124, 132, 140], 61) := by decide +kernel
theorem dX11_rule_80 : decode cX11_rule 80 = .ok (.aload_n 2, 1) := by decide +kernel
theorem dX11_rule_81 : decode cX11_rule 81 = .ok (.getfield 123, 3) := by decide +kernel
theorem dX11_rule_84 : decode cX11_rule 84 = .ok (.ireturn, 1) := by decide +kernel
theorem dX11_rule_85 : decode cX11_rule 85 = .ok (.aload_n 2, 1) := by decide +kernel
theorem dX11_rule_86 : decode cX11_rule 86 = .ok (.getfield 126, 3) := by decide +kernel
theorem dX11_rule_89 : decode cX11_rule 89 = .ok (.getfield 130, 3) := by decide +kernel
theorem dX11_rule_92 : decode cX11_rule 92 = .ok (.ireturn, 1) := by decide +kernel
theorem dX11_rule_93 : decode cX11_rule 93 = .ok (.aload_n 2, 1) := by decide +kernel
theorem dX11_rule_94 : decode cX11_rule 94 = .ok (.getfield 126, 3) := by decide +kernel
theorem dX11_rule_97 : decode cX11_rule 97 = .ok (.getfield 135, 3) := by decide +kernel
theorem dX11_rule_100 : decode cX11_rule 100 = .ok (.ireturn, 1) := by decide +kernel
theorem dX11_rule_101 : decode cX11_rule 101 = .ok (.aload_n 2, 1) := by decide +kernel
theorem dX11_rule_102 : decode cX11_rule 102 = .ok (.getfield 138, 3) := by decide +kernel
theorem dX11_rule_105 : decode cX11_rule 105 = .ok (.ireturn, 1) := by decide +kernel
theorem dX11_rule_106 : decode cX11_rule 106 = .ok (.aload_n 2, 1) := by decide +kernel
theorem dX11_rule_107 : decode cX11_rule 107 = .ok (.getfield 141, 3) := by decide +kernel
theorem dX11_rule_110 : decode cX11_rule 110 = .ok (.ireturn, 1) := by decide +kernel
theorem dX11_rule_111 : decode cX11_rule 111 = .ok (.aload_n 2, 1) := by decide +kernel
theorem dX11_rule_112 : decode cX11_rule 112 = .ok (.getfield 119, 3) := by decide +kernel
theorem dX11_rule_115 : decode cX11_rule 115 = .ok (.ireturn, 1) := by decide +kernel
theorem dX11_rule_116 : decode cX11_rule 116 = .ok (.aload_n 0, 1) := by decide +kernel
theorem dX11_rule_117 : decode cX11_rule 117 = .ok (.getfield 70, 3) := by decide +kernel
theorem dX11_rule_120 : decode cX11_rule 120 = .ok (.getfield 142, 3) := by decide +kernel
theorem dX11_rule_123 : decode cX11_rule 123 = .ok (.getfield 76, 3) := by decide +kernel
theorem dX11_rule_126 : decode cX11_rule 126 = .ok (.ireturn, 1) := by decide +kernel
theorem dX11_rule_127 : decode cX11_rule 127 = .ok (.aload_n 0, 1) := by decide +kernel
theorem dX11_rule_128 : decode cX11_rule 128 = .ok (.invokevirtual 145, 3) := by decide +kernel
theorem dX11_rule_131 : decode cX11_rule 131 = .ok (.ireturn, 1) := by decide +kernel
theorem dX11_rule_132 : decode cX11_rule 132 = .ok (.aload_n 0, 1) := by decide +kernel
theorem dX11_rule_133 : decode cX11_rule 133 = .ok (.getfield 70, 3) := by decide +kernel
theorem dX11_rule_136 : decode cX11_rule 136 = .ok (.getfield 148, 3) := by decide +kernel
theorem dX11_rule_139 : decode cX11_rule 139 = .ok (.getfield 76, 3) := by decide +kernel
theorem dX11_rule_142 : decode cX11_rule 142 = .ok (.ireturn, 1) := by decide +kernel
theorem dX11_rule_143 : decode cX11_rule 143 = .ok (.aload_n 0, 1) := by decide +kernel
theorem dX11_rule_144 : decode cX11_rule 144 = .ok (.getfield 70, 3) := by decide +kernel
theorem dX11_rule_147 : decode cX11_rule 147 = .ok (.getfield 151, 3) := by decide +kernel
theorem dX11_rule_150 : decode cX11_rule 150 = .ok (.ireturn, 1) := by decide +kernel
theorem dX11_rule_151 : decode cX11_rule 151 = .ok (.aload_n 0, 1) := by decide +kernel
theorem dX11_rule_152 : decode cX11_rule 152 = .ok (.getfield 70, 3) := by decide +kernel
theorem dX11_rule_155 : decode cX11_rule 155 = .ok (.getfield 154, 3) := by decide +kernel
theorem dX11_rule_158 : decode cX11_rule 158 = .ok (.ireturn, 1) := by decide +kernel
theorem dX11_rule_159 : decode cX11_rule 159 = .ok (.aload_n 2, 1) := by decide +kernel
theorem dX11_rule_160 : decode cX11_rule 160 = .ok (.aload_n 2, 1) := by decide +kernel
theorem dX11_rule_161 : decode cX11_rule 161 = .ok (.getfield 141, 3) := by decide +kernel
theorem dX11_rule_164 : decode cX11_rule 164 = .ok (.invokevirtual 157, 3) := by decide +kernel
theorem dX11_rule_167 : decode cX11_rule 167 = .ok (.ireturn, 1) := by decide +kernel
theorem dX11_rule_168 : decode cX11_rule 168 = .ok (.ldc 122, 2) := by decide +kernel
theorem dX11_rule_170 : decode cX11_rule 170 = .ok (.ireturn, 1) := by decide +kernel
theorem dX11_framesThere_0 : decode cX11_framesThere 0 = .ok (.iconst 0, 1) := by decide +kernel
theorem dX11_framesThere_1 : decode cX11_framesThere 1 = .ok (.istore_n 1, 1) := by decide +kernel
theorem dX11_framesThere_2 : decode cX11_framesThere 2 = .ok (.aload_n 0, 1) := by decide +kernel
theorem dX11_framesThere_3 : decode cX11_framesThere 3 = .ok (.getfield 38, 3) := by decide +kernel
theorem dX11_framesThere_6 : decode cX11_framesThere 6 = .ok (.invokevirtual 161, 3) := by decide +kernel
theorem dX11_framesThere_9 : decode cX11_framesThere 9 = .ok (.iconst 0, 1) := by decide +kernel
theorem dX11_framesThere_10 : decode cX11_framesThere 10 = .ok (.istore_n 2, 1) := by decide +kernel
theorem dX11_framesThere_11 : decode cX11_framesThere 11 = .ok (.iload_n 2, 1) := by decide +kernel
theorem dX11_framesThere_12 : decode cX11_framesThere 12 = .ok (.sipush 600, 3) := by decide +kernel
theorem dX11_framesThere_15 : decode cX11_framesThere 15 = .ok (.if_icmp .ge 29, 3) := by decide +kernel
theorem dX11_framesThere_18 : decode cX11_framesThere 18 = .ok (.aload_n 0, 1) := by decide +kernel
theorem dX11_framesThere_19 : decode cX11_framesThere 19 = .ok (.getfield 38, 3) := by decide +kernel
theorem dX11_framesThere_22 : decode cX11_framesThere 22 = .ok (.aload_n 0, 1) := by decide +kernel
theorem dX11_framesThere_23 : decode cX11_framesThere 23 = .ok (.getfield 70, 3) := by decide +kernel
theorem dX11_framesThere_26 : decode cX11_framesThere 26 = .ok (.getfield 142, 3) := by decide +kernel
theorem dX11_framesThere_29 : decode cX11_framesThere 29 = .ok (.invokevirtual 164, 3) := by decide +kernel
theorem dX11_framesThere_32 : decode cX11_framesThere 32 = .ok (.ifCond .eq 12, 3) := by decide +kernel
theorem dX11_framesThere_35 : decode cX11_framesThere 35 = .ok (.iinc 1 1, 3) := by decide +kernel
theorem dX11_framesThere_38 : decode cX11_framesThere 38 = .ok (.iinc 2 1, 3) := by decide +kernel
theorem dX11_framesThere_41 : decode cX11_framesThere 41 = .ok (.goto (-30), 3) := by decide +kernel
theorem dX11_framesThere_44 : decode cX11_framesThere 44 = .ok (.iload_n 1, 1) := by decide +kernel
theorem dX11_framesThere_45 : decode cX11_framesThere 45 = .ok (.ireturn, 1) := by decide +kernel
theorem dX11_send_0 : decode cX11_send 0 = .ok (.aload_n 0, 1) := by decide +kernel
theorem dX11_send_1 : decode cX11_send 1 = .ok (.getfield 112, 3) := by decide +kernel
theorem dX11_send_4 : decode cX11_send 4 = .ok (.ifCond .ne 9, 3) := by decide +kernel
theorem dX11_send_7 : decode cX11_send 7 = .ok (.aload_n 0, 1) := by decide +kernel
theorem dX11_send_8 : decode cX11_send 8 = .ok (.iconst 0, 1) := by decide +kernel
theorem dX11_send_9 : decode cX11_send 9 = .ok (.invokevirtual 168, 3) := by decide +kernel
theorem dX11_send_12 : decode cX11_send 12 = .ok (.ireturn, 1) := by decide +kernel
theorem dX11_send_13 : decode cX11_send 13 = .ok (.aload_n 0, 1) := by decide +kernel
theorem dX11_send_14 : decode cX11_send 14 = .ok (.getfield 70, 3) := by decide +kernel
theorem dX11_send_17 : decode cX11_send 17 = .ok (.iload_n 1, 1) := by decide +kernel
theorem dX11_send_18 : decode cX11_send 18 = .ok (.invokevirtual 171, 3) := by decide +kernel
theorem dX11_send_21 : decode cX11_send 21 = .ok (.astore_n 2, 1) := by decide +kernel
theorem dX11_send_22 : decode cX11_send 22 = .ok (.aload_n 2, 1) := by decide +kernel
theorem dX11_send_23 : decode cX11_send 23 = .ok (.ifnonnull 9, 3) := by decide +kernel
theorem dX11_send_26 : decode cX11_send 26 = .ok (.aload_n 0, 1) := by decide +kernel
theorem dX11_send_27 : decode cX11_send 27 = .ok (.iconst 1, 1) := by decide +kernel
theorem dX11_send_28 : decode cX11_send 28 = .ok (.invokevirtual 168, 3) := by decide +kernel
theorem dX11_send_31 : decode cX11_send 31 = .ok (.ireturn, 1) := by decide +kernel
theorem dX11_send_32 : decode cX11_send 32 = .ok (.aload_n 0, 1) := by decide +kernel
theorem dX11_send_33 : decode cX11_send 33 = .ok (.getfield 12, 3) := by decide +kernel
theorem dX11_send_36 : decode cX11_send 36 = .ok (.getfield 73, 3) := by decide +kernel
theorem dX11_send_39 : decode cX11_send 39 = .ok (.getfield 76, 3) := by decide +kernel
theorem dX11_send_42 : decode cX11_send 42 = .ok (.bipush 120, 2) := by decide +kernel
theorem dX11_send_44 : decode cX11_send 44 = .ok (.if_icmp .le 9, 3) := by decide +kernel
theorem dX11_send_47 : decode cX11_send 47 = .ok (.aload_n 0, 1) := by decide +kernel
theorem dX11_send_48 : decode cX11_send 48 = .ok (.iconst 2, 1) := by decide +kernel
theorem dX11_send_49 : decode cX11_send 49 = .ok (.invokevirtual 168, 3) := by decide +kernel
theorem dX11_send_52 : decode cX11_send 52 = .ok (.ireturn, 1) := by decide +kernel
theorem dX11_send_53 : decode cX11_send 53 = .ok (.aload_n 2, 1) := by decide +kernel
theorem dX11_send_54 : decode cX11_send 54 = .ok (.getfield 175, 3) := by decide +kernel
theorem dX11_send_57 : decode cX11_send 57 = .ok (.invokevirtual 181, 3) := by decide +kernel
theorem dX11_send_60 : decode cX11_send 60 = .ok (.bipush 8, 2) := by decide +kernel
theorem dX11_send_62 : decode cX11_send 62 = .ok (.if_icmp .lt 9, 3) := by decide +kernel
theorem dX11_send_65 : decode cX11_send 65 = .ok (.aload_n 0, 1) := by decide +kernel
theorem dX11_send_66 : decode cX11_send 66 = .ok (.iconst 3, 1) := by decide +kernel
theorem dX11_send_67 : decode cX11_send 67 = .ok (.invokevirtual 168, 3) := by decide +kernel
theorem dX11_send_70 : decode cX11_send 70 = .ok (.ireturn, 1) := by decide +kernel
theorem dX11_send_71 : decode cX11_send 71 = .ok (.aload_n 0, 1) := by decide +kernel
theorem dX11_send_72 : decode cX11_send 72 = .ok (.getfield 52, 3) := by decide +kernel
theorem dX11_send_75 : decode cX11_send 75 = .ok (.aload_n 0, 1) := by decide +kernel
theorem dX11_send_76 : decode cX11_send 76 = .ok (.getfield 70, 3) := by decide +kernel
theorem dX11_send_79 : decode cX11_send 79 = .ok (.invokevirtual 186, 3) := by decide +kernel
theorem dX11_send_82 : decode cX11_send 82 = .ok (.aload_n 2, 1) := by decide +kernel
theorem dX11_send_83 : decode cX11_send 83 = .ok (.getfield 175, 3) := by decide +kernel
theorem dX11_send_86 : decode cX11_send 86 = .ok (.aload_n 0, 1) := by decide +kernel
theorem dX11_send_87 : decode cX11_send 87 = .ok (.getfield 12, 3) := by decide +kernel
theorem dX11_send_90 : decode cX11_send 90 = .ok (.getfield 73, 3) := by decide +kernel
theorem dX11_send_93 : decode cX11_send 93 = .ok (.iconst 0, 1) := by decide +kernel
theorem dX11_send_94 : decode cX11_send 94 = .ok (.invokevirtual 190, 3) := by decide +kernel
theorem dX11_send_97 : decode cX11_send 97 = .ok (.aload_n 0, 1) := by decide +kernel
theorem dX11_send_98 : decode cX11_send 98 = .ok (.getfield 12, 3) := by decide +kernel
theorem dX11_send_101 : decode cX11_send 101 = .ok (.getfield 73, 3) := by decide +kernel
theorem dX11_send_104 : decode cX11_send 104 = .ok (.invokevirtual 103, 3) := by decide +kernel
theorem dX11_send_107 : decode cX11_send 107 = .ok (.aload_n 0, 1) := by decide +kernel
theorem dX11_send_108 : decode cX11_send 108 = .ok (.getfield 52, 3) := by decide +kernel
theorem dX11_send_111 : decode cX11_send 111 = .ok (.invokevirtual 194, 3) := by decide +kernel
theorem dX11_send_114 : decode cX11_send 114 = .ok (.aload_n 2, 1) := by decide +kernel
theorem dX11_send_115 : decode cX11_send 115 = .ok (.getfield 175, 3) := by decide +kernel
theorem dX11_send_118 : decode cX11_send 118 = .ok (.invokevirtual 181, 3) := by decide +kernel
theorem dX11_send_121 : decode cX11_send 121 = .ok (.ireturn, 1) := by decide +kernel
theorem dX11_put_0 : decode cX11_put 0 = .ok (.aload_n 0, 1) := by decide +kernel
theorem dX11_put_1 : decode cX11_put 1 = .ok (.getfield 112, 3) := by decide +kernel
theorem dX11_put_4 : decode cX11_put 4 = .ok (.ifCond .ne 9, 3) := by decide +kernel
theorem dX11_put_7 : decode cX11_put 7 = .ok (.aload_n 0, 1) := by decide +kernel
theorem dX11_put_8 : decode cX11_put 8 = .ok (.iconst 0, 1) := by decide +kernel
theorem dX11_put_9 : decode cX11_put 9 = .ok (.invokevirtual 168, 3) := by decide +kernel
theorem dX11_put_12 : decode cX11_put 12 = .ok (.ireturn, 1) := by decide +kernel
theorem dX11_put_13 : decode cX11_put 13 = .ok (.iload_n 1, 1) := by decide +kernel
theorem dX11_put_14 : decode cX11_put 14 = .ok (.iconst 1, 1) := by decide +kernel
theorem dX11_put_15 : decode cX11_put 15 = .ok (.if_icmp .lt 9, 3) := by decide +kernel
theorem dX11_put_18 : decode cX11_put 18 = .ok (.iload_n 1, 1) := by decide +kernel
theorem dX11_put_19 : decode cX11_put 19 = .ok (.bipush 60, 2) := by decide +kernel
theorem dX11_put_21 : decode cX11_put 21 = .ok (.if_icmp .le 9, 3) := by decide +kernel
theorem dX11_put_24 : decode cX11_put 24 = .ok (.aload_n 0, 1) := by decide +kernel
theorem dX11_put_25 : decode cX11_put 25 = .ok (.iconst 2, 1) := by decide +kernel
theorem dX11_put_26 : decode cX11_put 26 = .ok (.invokevirtual 168, 3) := by decide +kernel
theorem dX11_put_29 : decode cX11_put 29 = .ok (.ireturn, 1) := by decide +kernel
theorem dX11_put_30 : decode cX11_put 30 = .ok (.aload_n 0, 1) := by decide +kernel
theorem dX11_put_31 : decode cX11_put 31 = .ok (.getfield 52, 3) := by decide +kernel
theorem dX11_put_34 : decode cX11_put 34 = .ok (.aload_n 0, 1) := by decide +kernel
theorem dX11_put_35 : decode cX11_put 35 = .ok (.getfield 70, 3) := by decide +kernel
theorem dX11_put_38 : decode cX11_put 38 = .ok (.invokevirtual 186, 3) := by decide +kernel
theorem dX11_put_41 : decode cX11_put 41 = .ok (.aload_n 0, 1) := by decide +kernel
theorem dX11_put_42 : decode cX11_put 42 = .ok (.getfield 70, 3) := by decide +kernel
theorem dX11_put_45 : decode cX11_put 45 = .ok (.iload_n 1, 1) := by decide +kernel
theorem dX11_put_46 : decode cX11_put 46 = .ok (.aload_n 0, 1) := by decide +kernel
theorem dX11_put_47 : decode cX11_put 47 = .ok (.getfield 31, 3) := by decide +kernel
theorem dX11_put_50 : decode cX11_put 50 = .ok (.invokevirtual 197, 3) := by decide +kernel
theorem dX11_put_53 : decode cX11_put 53 = .ok (.istore_n 2, 1) := by decide +kernel
theorem dX11_put_54 : decode cX11_put 54 = .ok (.iload_n 2, 1) := by decide +kernel
theorem dX11_put_55 : decode cX11_put 55 = .ok (.ifCond .le 10, 3) := by decide +kernel
theorem dX11_put_58 : decode cX11_put 58 = .ok (.aload_n 0, 1) := by decide +kernel
theorem dX11_put_59 : decode cX11_put 59 = .ok (.getfield 52, 3) := by decide +kernel
theorem dX11_put_62 : decode cX11_put 62 = .ok (.invokevirtual 194, 3) := by decide +kernel
theorem dX11_put_65 : decode cX11_put 65 = .ok (.iload_n 2, 1) := by decide +kernel
theorem dX11_put_66 : decode cX11_put 66 = .ok (.ireturn, 1) := by decide +kernel
theorem dX11_refuse_0 : decode cX11_refuse 0 = .ok (.iload_n 1, 1) := by decide +kernel
theorem dX11_refuse_1 : decode cX11_refuse 1 = .ok (.ifCond .lt 22, 3) := by decide +kernel
theorem dX11_refuse_4 : decode cX11_refuse 4 = .ok (.iload_n 1, 1) := by decide +kernel
theorem dX11_refuse_5 : decode cX11_refuse 5 = .ok (.aload_n 0, 1) := by decide +kernel
theorem dX11_refuse_6 : decode cX11_refuse 6 = .ok (.getfield 66, 3) := by decide +kernel
theorem dX11_refuse_9 : decode cX11_refuse 9 = .ok (.arraylength, 1) := by decide +kernel
