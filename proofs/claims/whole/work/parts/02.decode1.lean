theorem dX11_refuse_10 : decode cX11_refuse 10 = .ok (.if_icmp .ge 13, 3) := by decide +kernel
theorem dX11_refuse_13 : decode cX11_refuse 13 = .ok (.aload_n 0, 1) := by decide +kernel
theorem dX11_refuse_14 : decode cX11_refuse 14 = .ok (.getfield 66, 3) := by decide +kernel
theorem dX11_refuse_17 : decode cX11_refuse 17 = .ok (.iload_n 1, 1) := by decide +kernel
theorem dX11_refuse_18 : decode cX11_refuse 18 = .ok (.dup2, 1) := by decide +kernel
theorem dX11_refuse_19 : decode cX11_refuse 19 = .ok (.iaload, 1) := by decide +kernel
theorem dX11_refuse_20 : decode cX11_refuse 20 = .ok (.iconst 1, 1) := by decide +kernel
theorem dX11_refuse_21 : decode cX11_refuse 21 = .ok (.iadd, 1) := by decide +kernel
theorem dX11_refuse_22 : decode cX11_refuse 22 = .ok (.iastore, 1) := by decide +kernel
theorem dX11_refuse_23 : decode cX11_refuse 23 = .ok (.iconst (-1), 1) := by decide +kernel
theorem dX11_refuse_24 : decode cX11_refuse 24 = .ok (.ireturn, 1) := by decide +kernel
theorem dX11_byteAt_0 : decode cX11_byteAt 0 = .ok (.aload_n 0, 1) := by decide +kernel
theorem dX11_byteAt_1 : decode cX11_byteAt 1 = .ok (.getfield 70, 3) := by decide +kernel
theorem dX11_byteAt_4 : decode cX11_byteAt 4 = .ok (.getfield 142, 3) := by decide +kernel
theorem dX11_byteAt_7 : decode cX11_byteAt 7 = .ok (.iload_n 1, 1) := by decide +kernel
theorem dX11_byteAt_8 : decode cX11_byteAt 8 = .ok (.invokevirtual 201, 3) := by decide +kernel
theorem dX11_byteAt_11 : decode cX11_byteAt 11 = .ok (.ireturn, 1) := by decide +kernel
theorem dX11_flip_0 : decode cX11_flip 0 = .ok (.aload_n 0, 1) := by decide +kernel
theorem dX11_flip_1 : decode cX11_flip 1 = .ok (.getfield 112, 3) := by decide +kernel
theorem dX11_flip_4 : decode cX11_flip 4 = .ok (.ifCond .ne 9, 3) := by decide +kernel
theorem dX11_flip_7 : decode cX11_flip 7 = .ok (.aload_n 0, 1) := by decide +kernel
theorem dX11_flip_8 : decode cX11_flip 8 = .ok (.iconst 0, 1) := by decide +kernel
theorem dX11_flip_9 : decode cX11_flip 9 = .ok (.invokevirtual 168, 3) := by decide +kernel
theorem dX11_flip_12 : decode cX11_flip 12 = .ok (.ireturn, 1) := by decide +kernel
theorem dX11_flip_13 : decode cX11_flip 13 = .ok (.aload_n 0, 1) := by decide +kernel
theorem dX11_flip_14 : decode cX11_flip 14 = .ok (.getfield 70, 3) := by decide +kernel
theorem dX11_flip_17 : decode cX11_flip 17 = .ok (.getfield 142, 3) := by decide +kernel
theorem dX11_flip_20 : decode cX11_flip 20 = .ok (.iload_n 1, 1) := by decide +kernel
theorem dX11_flip_21 : decode cX11_flip 21 = .ok (.invokevirtual 204, 3) := by decide +kernel
theorem dX11_flip_24 : decode cX11_flip 24 = .ok (.ifCond .ne 9, 3) := by decide +kernel
theorem dX11_flip_27 : decode cX11_flip 27 = .ok (.aload_n 0, 1) := by decide +kernel
theorem dX11_flip_28 : decode cX11_flip 28 = .ok (.iconst 1, 1) := by decide +kernel
theorem dX11_flip_29 : decode cX11_flip 29 = .ok (.invokevirtual 168, 3) := by decide +kernel
theorem dX11_flip_32 : decode cX11_flip 32 = .ok (.ireturn, 1) := by decide +kernel
theorem dX11_flip_33 : decode cX11_flip 33 = .ok (.iload_n 2, 1) := by decide +kernel
theorem dX11_flip_34 : decode cX11_flip 34 = .ok (.invokestatic 208, 3) := by decide +kernel
theorem dX11_flip_37 : decode cX11_flip 37 = .ok (.ifCond .ne 9, 3) := by decide +kernel
theorem dX11_flip_40 : decode cX11_flip 40 = .ok (.aload_n 0, 1) := by decide +kernel
theorem dX11_flip_41 : decode cX11_flip 41 = .ok (.iconst 2, 1) := by decide +kernel
theorem dX11_flip_42 : decode cX11_flip 42 = .ok (.invokevirtual 168, 3) := by decide +kernel
theorem dX11_flip_45 : decode cX11_flip 45 = .ok (.ireturn, 1) := by decide +kernel
theorem dX11_flip_46 : decode cX11_flip 46 = .ok (.aload_n 0, 1) := by decide +kernel
theorem dX11_flip_47 : decode cX11_flip 47 = .ok (.getfield 52, 3) := by decide +kernel
theorem dX11_flip_50 : decode cX11_flip 50 = .ok (.aload_n 0, 1) := by decide +kernel
theorem dX11_flip_51 : decode cX11_flip 51 = .ok (.getfield 70, 3) := by decide +kernel
theorem dX11_flip_54 : decode cX11_flip 54 = .ok (.invokevirtual 186, 3) := by decide +kernel
theorem dX11_flip_57 : decode cX11_flip 57 = .ok (.aload_n 0, 1) := by decide +kernel
theorem dX11_flip_58 : decode cX11_flip 58 = .ok (.getfield 70, 3) := by decide +kernel
theorem dX11_flip_61 : decode cX11_flip 61 = .ok (.getfield 142, 3) := by decide +kernel
theorem dX11_flip_64 : decode cX11_flip 64 = .ok (.iload_n 1, 1) := by decide +kernel
theorem dX11_flip_65 : decode cX11_flip 65 = .ok (.aload_n 0, 1) := by decide +kernel
theorem dX11_flip_66 : decode cX11_flip 66 = .ok (.getfield 70, 3) := by decide +kernel
theorem dX11_flip_69 : decode cX11_flip 69 = .ok (.getfield 142, 3) := by decide +kernel
theorem dX11_flip_72 : decode cX11_flip 72 = .ok (.iload_n 1, 1) := by decide +kernel
theorem dX11_flip_73 : decode cX11_flip 73 = .ok (.invokevirtual 201, 3) := by decide +kernel
theorem dX11_flip_76 : decode cX11_flip 76 = .ok (.iload_n 2, 1) := by decide +kernel
theorem dX11_flip_77 : decode cX11_flip 77 = .ok (.ixor, 1) := by decide +kernel
theorem dX11_flip_78 : decode cX11_flip 78 = .ok (.invokevirtual 211, 3) := by decide +kernel
theorem dX11_flip_81 : decode cX11_flip 81 = .ok (.aload_n 0, 1) := by decide +kernel
theorem dX11_flip_82 : decode cX11_flip 82 = .ok (.getfield 52, 3) := by decide +kernel
theorem dX11_flip_85 : decode cX11_flip 85 = .ok (.invokevirtual 194, 3) := by decide +kernel
theorem dX11_flip_88 : decode cX11_flip 88 = .ok (.aload_n 0, 1) := by decide +kernel
theorem dX11_flip_89 : decode cX11_flip 89 = .ok (.getfield 70, 3) := by decide +kernel
theorem dX11_flip_92 : decode cX11_flip 92 = .ok (.getfield 142, 3) := by decide +kernel
theorem dX11_flip_95 : decode cX11_flip 95 = .ok (.iload_n 1, 1) := by decide +kernel
theorem dX11_flip_96 : decode cX11_flip 96 = .ok (.invokevirtual 201, 3) := by decide +kernel
theorem dX11_flip_99 : decode cX11_flip 99 = .ok (.ireturn, 1) := by decide +kernel
theorem dX11_isFlip_0 : decode cX11_isFlip 0 = .ok (.iload_n 0, 1) := by decide +kernel
theorem dX11_isFlip_1 : decode cX11_isFlip 1 = .ok (.iconst 1, 1) := by decide +kernel
theorem dX11_isFlip_2 : decode cX11_isFlip 2 = .ok (.if_icmp .lt 14, 3) := by decide +kernel
theorem dX11_isFlip_5 : decode cX11_isFlip 5 = .ok (.iload_n 0, 1) := by decide +kernel
theorem dX11_isFlip_6 : decode cX11_isFlip 6 = .ok (.sipush 255, 3) := by decide +kernel
theorem dX11_isFlip_9 : decode cX11_isFlip 9 = .ok (.if_icmp .gt 7, 3) := by decide +kernel
theorem dX11_isFlip_12 : decode cX11_isFlip 12 = .ok (.iconst 1, 1) := by decide +kernel
theorem dX11_isFlip_13 : decode cX11_isFlip 13 = .ok (.goto 4, 3) := by decide +kernel
theorem dX11_isFlip_16 : decode cX11_isFlip 16 = .ok (.iconst 0, 1) := by decide +kernel
theorem dX11_isFlip_17 : decode cX11_isFlip 17 = .ok (.ireturn, 1) := by decide +kernel
theorem dX11_lose_0 : decode cX11_lose 0 = .ok (.aload_n 0, 1) := by decide +kernel
theorem dX11_lose_1 : decode cX11_lose 1 = .ok (.getfield 112, 3) := by decide +kernel
theorem dX11_lose_4 : decode cX11_lose 4 = .ok (.ifCond .ne 9, 3) := by decide +kernel
theorem dX11_lose_7 : decode cX11_lose 7 = .ok (.aload_n 0, 1) := by decide +kernel
theorem dX11_lose_8 : decode cX11_lose 8 = .ok (.iconst 0, 1) := by decide +kernel
theorem dX11_lose_9 : decode cX11_lose 9 = .ok (.invokevirtual 168, 3) := by decide +kernel
theorem dX11_lose_12 : decode cX11_lose 12 = .ok (.ireturn, 1) := by decide +kernel
theorem dX11_lose_13 : decode cX11_lose 13 = .ok (.aload_n 0, 1) := by decide +kernel
theorem dX11_lose_14 : decode cX11_lose 14 = .ok (.getfield 70, 3) := by decide +kernel
theorem dX11_lose_17 : decode cX11_lose 17 = .ok (.getfield 142, 3) := by decide +kernel
theorem dX11_lose_20 : decode cX11_lose 20 = .ok (.iload_n 1, 1) := by decide +kernel
theorem dX11_lose_21 : decode cX11_lose 21 = .ok (.invokevirtual 204, 3) := by decide +kernel
theorem dX11_lose_24 : decode cX11_lose 24 = .ok (.ifCond .ne 9, 3) := by decide +kernel
theorem dX11_lose_27 : decode cX11_lose 27 = .ok (.aload_n 0, 1) := by decide +kernel
theorem dX11_lose_28 : decode cX11_lose 28 = .ok (.iconst 1, 1) := by decide +kernel
theorem dX11_lose_29 : decode cX11_lose 29 = .ok (.invokevirtual 168, 3) := by decide +kernel
theorem dX11_lose_32 : decode cX11_lose 32 = .ok (.ireturn, 1) := by decide +kernel
theorem dX11_lose_33 : decode cX11_lose 33 = .ok (.aload_n 0, 1) := by decide +kernel
theorem dX11_lose_34 : decode cX11_lose 34 = .ok (.getfield 70, 3) := by decide +kernel
theorem dX11_lose_37 : decode cX11_lose 37 = .ok (.getfield 142, 3) := by decide +kernel
theorem dX11_lose_40 : decode cX11_lose 40 = .ok (.iload_n 1, 1) := by decide +kernel
theorem dX11_lose_41 : decode cX11_lose 41 = .ok (.invokevirtual 201, 3) := by decide +kernel
theorem dX11_lose_44 : decode cX11_lose 44 = .ok (.istore_n 2, 1) := by decide +kernel
theorem dX11_lose_45 : decode cX11_lose 45 = .ok (.aload_n 0, 1) := by decide +kernel
theorem dX11_lose_46 : decode cX11_lose 46 = .ok (.getfield 52, 3) := by decide +kernel
theorem dX11_lose_49 : decode cX11_lose 49 = .ok (.aload_n 0, 1) := by decide +kernel
theorem dX11_lose_50 : decode cX11_lose 50 = .ok (.getfield 70, 3) := by decide +kernel
theorem dX11_lose_53 : decode cX11_lose 53 = .ok (.invokevirtual 186, 3) := by decide +kernel
theorem dX11_lose_56 : decode cX11_lose 56 = .ok (.aload_n 0, 1) := by decide +kernel
theorem dX11_lose_57 : decode cX11_lose 57 = .ok (.getfield 70, 3) := by decide +kernel
theorem dX11_lose_60 : decode cX11_lose 60 = .ok (.getfield 142, 3) := by decide +kernel
theorem dX11_lose_63 : decode cX11_lose 63 = .ok (.iload_n 1, 1) := by decide +kernel
theorem dX11_lose_64 : decode cX11_lose 64 = .ok (.invokevirtual 215, 3) := by decide +kernel
theorem dX11_lose_67 : decode cX11_lose 67 = .ok (.aload_n 0, 1) := by decide +kernel
theorem dX11_lose_68 : decode cX11_lose 68 = .ok (.getfield 52, 3) := by decide +kernel
theorem dX11_lose_71 : decode cX11_lose 71 = .ok (.invokevirtual 194, 3) := by decide +kernel
theorem dX11_lose_74 : decode cX11_lose 74 = .ok (.iload_n 2, 1) := by decide +kernel
theorem dX11_lose_75 : decode cX11_lose 75 = .ok (.ireturn, 1) := by decide +kernel
theorem dX11_insert_0 : decode cX11_insert 0 = .ok (.aload_n 0, 1) := by decide +kernel
theorem dX11_insert_1 : decode cX11_insert 1 = .ok (.getfield 112, 3) := by decide +kernel
theorem dX11_insert_4 : decode cX11_insert 4 = .ok (.ifCond .ne 9, 3) := by decide +kernel
theorem dX11_insert_7 : decode cX11_insert 7 = .ok (.aload_n 0, 1) := by decide +kernel
theorem dX11_insert_8 : decode cX11_insert 8 = .ok (.iconst 0, 1) := by decide +kernel
theorem dX11_insert_9 : decode cX11_insert 9 = .ok (.invokevirtual 168, 3) := by decide +kernel
theorem dX11_insert_12 : decode cX11_insert 12 = .ok (.ireturn, 1) := by decide +kernel
theorem dX11_insert_13 : decode cX11_insert 13 = .ok (.iload_n 1, 1) := by decide +kernel
theorem dX11_insert_14 : decode cX11_insert 14 = .ok (.ifCond .lt 17, 3) := by decide +kernel
theorem dX11_insert_17 : decode cX11_insert 17 = .ok (.iload_n 1, 1) := by decide +kernel
theorem dX11_insert_18 : decode cX11_insert 18 = .ok (.aload_n 0, 1) := by decide +kernel
theorem dX11_insert_19 : decode cX11_insert 19 = .ok (.getfield 70, 3) := by decide +kernel
theorem dX11_insert_22 : decode cX11_insert 22 = .ok (.getfield 142, 3) := by decide +kernel
theorem dX11_insert_25 : decode cX11_insert 25 = .ok (.getfield 76, 3) := by decide +kernel
theorem dX11_insert_28 : decode cX11_insert 28 = .ok (.if_icmp .le 9, 3) := by decide +kernel
theorem dX11_insert_31 : decode cX11_insert 31 = .ok (.aload_n 0, 1) := by decide +kernel
theorem dX11_insert_32 : decode cX11_insert 32 = .ok (.iconst 1, 1) := by decide +kernel
theorem dX11_insert_33 : decode cX11_insert 33 = .ok (.invokevirtual 168, 3) := by decide +kernel
theorem dX11_insert_36 : decode cX11_insert 36 = .ok (.ireturn, 1) := by decide +kernel
theorem dX11_insert_37 : decode cX11_insert 37 = .ok (.iload_n 2, 1) := by decide +kernel
theorem dX11_insert_38 : decode cX11_insert 38 = .ok (.ifCond .lt 10, 3) := by decide +kernel
theorem dX11_insert_41 : decode cX11_insert 41 = .ok (.iload_n 2, 1) := by decide +kernel
theorem dX11_insert_42 : decode cX11_insert 42 = .ok (.sipush 255, 3) := by decide +kernel
theorem dX11_insert_45 : decode cX11_insert 45 = .ok (.if_icmp .le 9, 3) := by decide +kernel
theorem dX11_insert_48 : decode cX11_insert 48 = .ok (.aload_n 0, 1) := by decide +kernel
theorem dX11_insert_49 : decode cX11_insert 49 = .ok (.iconst 2, 1) := by decide +kernel
theorem dX11_insert_50 : decode cX11_insert 50 = .ok (.invokevirtual 168, 3) := by decide +kernel
theorem dX11_insert_53 : decode cX11_insert 53 = .ok (.ireturn, 1) := by decide +kernel
theorem dX11_insert_54 : decode cX11_insert 54 = .ok (.aload_n 0, 1) := by decide +kernel
theorem dX11_insert_55 : decode cX11_insert 55 = .ok (.getfield 70, 3) := by decide +kernel
theorem dX11_insert_58 : decode cX11_insert 58 = .ok (.getfield 142, 3) := by decide +kernel
theorem dX11_insert_61 : decode cX11_insert 61 = .ok (.getfield 76, 3) := by decide +kernel
theorem dX11_insert_64 : decode cX11_insert 64 = .ok (.sipush 600, 3) := by decide +kernel
theorem dX11_insert_67 : decode cX11_insert 67 = .ok (.if_icmp .lt 9, 3) := by decide +kernel
theorem dX11_insert_70 : decode cX11_insert 70 = .ok (.aload_n 0, 1) := by decide +kernel
theorem dX11_insert_71 : decode cX11_insert 71 = .ok (.iconst 3, 1) := by decide +kernel
theorem dX11_insert_72 : decode cX11_insert 72 = .ok (.invokevirtual 168, 3) := by decide +kernel
theorem dX11_insert_75 : decode cX11_insert 75 = .ok (.ireturn, 1) := by decide +kernel
theorem dX11_insert_76 : decode cX11_insert 76 = .ok (.aload_n 0, 1) := by decide +kernel
theorem dX11_insert_77 : decode cX11_insert 77 = .ok (.getfield 52, 3) := by decide +kernel
theorem dX11_insert_80 : decode cX11_insert 80 = .ok (.aload_n 0, 1) := by decide +kernel
theorem dX11_insert_81 : decode cX11_insert 81 = .ok (.getfield 70, 3) := by decide +kernel
theorem dX11_insert_84 : decode cX11_insert 84 = .ok (.invokevirtual 186, 3) := by decide +kernel
theorem dX11_insert_87 : decode cX11_insert 87 = .ok (.aload_n 0, 1) := by decide +kernel
theorem dX11_insert_88 : decode cX11_insert 88 = .ok (.getfield 70, 3) := by decide +kernel
theorem dX11_insert_91 : decode cX11_insert 91 = .ok (.getfield 142, 3) := by decide +kernel
theorem dX11_insert_94 : decode cX11_insert 94 = .ok (.iload_n 1, 1) := by decide +kernel
theorem dX11_insert_95 : decode cX11_insert 95 = .ok (.iload_n 2, 1) := by decide +kernel
theorem dX11_insert_96 : decode cX11_insert 96 = .ok (.invokevirtual 218, 3) := by decide +kernel
theorem dX11_insert_99 : decode cX11_insert 99 = .ok (.aload_n 0, 1) := by decide +kernel
theorem dX11_insert_100 : decode cX11_insert 100 = .ok (.getfield 52, 3) := by decide +kernel
theorem dX11_insert_103 : decode cX11_insert 103 = .ok (.invokevirtual 194, 3) := by decide +kernel
theorem dX11_insert_106 : decode cX11_insert 106 = .ok (.aload_n 0, 1) := by decide +kernel
theorem dX11_insert_107 : decode cX11_insert 107 = .ok (.getfield 70, 3) := by decide +kernel
theorem dX11_insert_110 : decode cX11_insert 110 = .ok (.getfield 142, 3) := by decide +kernel
theorem dX11_insert_113 : decode cX11_insert 113 = .ok (.getfield 76, 3) := by decide +kernel
theorem dX11_insert_116 : decode cX11_insert 116 = .ok (.ireturn, 1) := by decide +kernel
theorem dX11_noise_0 : decode cX11_noise 0 = .ok (.aload_n 0, 1) := by decide +kernel
theorem dX11_noise_1 : decode cX11_noise 1 = .ok (.getfield 112, 3) := by decide +kernel
theorem dX11_noise_4 : decode cX11_noise 4 = .ok (.ifCond .ne 9, 3) := by decide +kernel
theorem dX11_noise_7 : decode cX11_noise 7 = .ok (.aload_n 0, 1) := by decide +kernel
theorem dX11_noise_8 : decode cX11_noise 8 = .ok (.iconst 0, 1) := by decide +kernel
theorem dX11_noise_9 : decode cX11_noise 9 = .ok (.invokevirtual 168, 3) := by decide +kernel
theorem dX11_noise_12 : decode cX11_noise 12 = .ok (.ireturn, 1) := by decide +kernel
theorem dX11_noise_13 : decode cX11_noise 13 = .ok (.iload_n 1, 1) := by decide +kernel
theorem dX11_noise_14 : decode cX11_noise 14 = .ok (.iconst 1, 1) := by decide +kernel
theorem dX11_noise_15 : decode cX11_noise 15 = .ok (.if_icmp .lt 9, 3) := by decide +kernel
theorem dX11_noise_18 : decode cX11_noise 18 = .ok (.iload_n 1, 1) := by decide +kernel
theorem dX11_noise_19 : decode cX11_noise 19 = .ok (.bipush 40, 2) := by decide +kernel
theorem dX11_noise_21 : decode cX11_noise 21 = .ok (.if_icmp .le 9, 3) := by decide +kernel
theorem dX11_noise_24 : decode cX11_noise 24 = .ok (.aload_n 0, 1) := by decide +kernel
theorem dX11_noise_25 : decode cX11_noise 25 = .ok (.iconst 2, 1) := by decide +kernel
theorem dX11_noise_26 : decode cX11_noise 26 = .ok (.invokevirtual 168, 3) := by decide +kernel
theorem dX11_noise_29 : decode cX11_noise 29 = .ok (.ireturn, 1) := by decide +kernel
theorem dX11_noise_30 : decode cX11_noise 30 = .ok (.aload_n 0, 1) := by decide +kernel
theorem dX11_noise_31 : decode cX11_noise 31 = .ok (.getfield 52, 3) := by decide +kernel
theorem dX11_noise_34 : decode cX11_noise 34 = .ok (.aload_n 0, 1) := by decide +kernel
theorem dX11_noise_35 : decode cX11_noise 35 = .ok (.getfield 70, 3) := by decide +kernel
theorem dX11_noise_38 : decode cX11_noise 38 = .ok (.invokevirtual 186, 3) := by decide +kernel
theorem dX11_noise_41 : decode cX11_noise 41 = .ok (.aload_n 0, 1) := by decide +kernel
theorem dX11_noise_42 : decode cX11_noise 42 = .ok (.getfield 45, 3) := by decide +kernel
theorem dX11_noise_45 : decode cX11_noise 45 = .ok (.lload_n 2, 1) := by decide +kernel
theorem dX11_noise_46 : decode cX11_noise 46 = .ok (.putfield 221, 3) := by decide +kernel
theorem dX11_noise_49 : decode cX11_noise 49 = .ok (.iconst 0, 1) := by decide +kernel
theorem dX11_noise_50 : decode cX11_noise 50 = .ok (.istore 4, 2) := by decide +kernel
theorem dX11_noise_52 : decode cX11_noise 52 = .ok (.iconst 0, 1) := by decide +kernel
theorem dX11_noise_53 : decode cX11_noise 53 = .ok (.istore 5, 2) := by decide +kernel
theorem dX11_noise_55 : decode cX11_noise 55 = .ok (.iload 5, 2) := by decide +kernel
theorem dX11_noise_57 : decode cX11_noise 57 = .ok (.iload_n 1, 1) := by decide +kernel
theorem dX11_noise_58 : decode cX11_noise 58 = .ok (.if_icmp .ge 26, 3) := by decide +kernel
theorem dX11_noise_61 : decode cX11_noise 61 = .ok (.aload_n 0, 1) := by decide +kernel
theorem dX11_noise_62 : decode cX11_noise 62 = .ok (.getfield 70, 3) := by decide +kernel
theorem dX11_noise_65 : decode cX11_noise 65 = .ok (.aload_n 0, 1) := by decide +kernel
theorem dX11_noise_66 : decode cX11_noise 66 = .ok (.getfield 45, 3) := by decide +kernel
theorem dX11_noise_69 : decode cX11_noise 69 = .ok (.invokevirtual 225, 3) := by decide +kernel
theorem dX11_noise_72 : decode cX11_noise 72 = .ok (.ifCond .eq 6, 3) := by decide +kernel
theorem dX11_noise_75 : decode cX11_noise 75 = .ok (.iinc 4 1, 3) := by decide +kernel
theorem dX11_noise_78 : decode cX11_noise 78 = .ok (.iinc 5 1, 3) := by decide +kernel
theorem dX11_noise_81 : decode cX11_noise 81 = .ok (.goto (-26), 3) := by decide +kernel
theorem dX11_noise_84 : decode cX11_noise 84 = .ok (.iload 4, 2) := by decide +kernel
theorem dX11_noise_86 : decode cX11_noise 86 = .ok (.ifCond .le 10, 3) := by decide +kernel
theorem dX11_noise_89 : decode cX11_noise 89 = .ok (.aload_n 0, 1) := by decide +kernel
theorem dX11_noise_90 : decode cX11_noise 90 = .ok (.getfield 52, 3) := by decide +kernel
theorem dX11_noise_93 : decode cX11_noise 93 = .ok (.invokevirtual 194, 3) := by decide +kernel
theorem dX11_noise_96 : decode cX11_noise 96 = .ok (.iload 4, 2) := by decide +kernel
theorem dX11_noise_98 : decode cX11_noise 98 = .ok (.ireturn, 1) := by decide +kernel
theorem dX11_read_0 : decode cX11_read 0 = .ok (.aload_n 0, 1) := by decide +kernel
theorem dX11_read_1 : decode cX11_read 1 = .ok (.getfield 112, 3) := by decide +kernel
theorem dX11_read_4 : decode cX11_read 4 = .ok (.ifCond .ne 9, 3) := by decide +kernel
theorem dX11_read_7 : decode cX11_read 7 = .ok (.aload_n 0, 1) := by decide +kernel
theorem dX11_read_8 : decode cX11_read 8 = .ok (.iconst 0, 1) := by decide +kernel
theorem dX11_read_9 : decode cX11_read 9 = .ok (.invokevirtual 168, 3) := by decide +kernel
theorem dX11_read_12 : decode cX11_read 12 = .ok (.ireturn, 1) := by decide +kernel
theorem dX11_read_13 : decode cX11_read 13 = .ok (.iload_n 1, 1) := by decide +kernel
theorem dX11_read_14 : decode cX11_read 14 = .ok (.iconst 1, 1) := by decide +kernel
theorem dX11_read_15 : decode cX11_read 15 = .ok (.if_icmp .lt 10, 3) := by decide +kernel
theorem dX11_read_18 : decode cX11_read 18 = .ok (.iload_n 1, 1) := by decide +kernel
theorem dX11_read_19 : decode cX11_read 19 = .ok (.sipush 600, 3) := by decide +kernel
theorem dX11_read_22 : decode cX11_read 22 = .ok (.if_icmp .le 9, 3) := by decide +kernel
theorem dX11_read_25 : decode cX11_read 25 = .ok (.aload_n 0, 1) := by decide +kernel
theorem dX11_read_26 : decode cX11_read 26 = .ok (.iconst 2, 1) := by decide +kernel
theorem dX11_read_27 : decode cX11_read 27 = .ok (.invokevirtual 168, 3) := by decide +kernel
theorem dX11_read_30 : decode cX11_read 30 = .ok (.ireturn, 1) := by decide +kernel
theorem dX11_read_31 : decode cX11_read 31 = .ok (.aload_n 0, 1) := by decide +kernel
theorem dX11_read_32 : decode cX11_read 32 = .ok (.getfield 70, 3) := by decide +kernel
theorem dX11_read_35 : decode cX11_read 35 = .ok (.getfield 142, 3) := by decide +kernel
theorem dX11_read_38 : decode cX11_read 38 = .ok (.getfield 76, 3) := by decide +kernel
theorem dX11_read_41 : decode cX11_read 41 = .ok (.ifCond .ne 5, 3) := by decide +kernel
theorem dX11_read_44 : decode cX11_read 44 = .ok (.iconst 0, 1) := by decide +kernel
theorem dX11_read_45 : decode cX11_read 45 = .ok (.ireturn, 1) := by decide +kernel
theorem dX11_read_46 : decode cX11_read 46 = .ok (.aload_n 0, 1) := by decide +kernel
theorem dX11_read_47 : decode cX11_read 47 = .ok (.getfield 52, 3) := by decide +kernel
theorem dX11_read_50 : decode cX11_read 50 = .ok (.aload_n 0, 1) := by decide +kernel
theorem dX11_read_51 : decode cX11_read 51 = .ok (.getfield 70, 3) := by decide +kernel
theorem dX11_read_54 : decode cX11_read 54 = .ok (.invokevirtual 186, 3) := by decide +kernel
theorem dX11_read_57 : decode cX11_read 57 = .ok (.aload_n 0, 1) := by decide +kernel
theorem dX11_read_58 : decode cX11_read 58 = .ok (.getfield 70, 3) := by decide +kernel
theorem dX11_read_61 : decode cX11_read 61 = .ok (.iload_n 1, 1) := by decide +kernel
theorem dX11_read_62 : decode cX11_read 62 = .ok (.aload_n 0, 1) := by decide +kernel
theorem dX11_read_63 : decode cX11_read 63 = .ok (.getfield 31, 3) := by decide +kernel
theorem dX11_read_66 : decode cX11_read 66 = .ok (.invokevirtual 229, 3) := by decide +kernel
theorem dX11_read_69 : decode cX11_read 69 = .ok (.istore_n 2, 1) := by decide +kernel
theorem dX11_read_70 : decode cX11_read 70 = .ok (.aload_n 0, 1) := by decide +kernel
theorem dX11_read_71 : decode cX11_read 71 = .ok (.getfield 52, 3) := by decide +kernel
theorem dX11_read_74 : decode cX11_read 74 = .ok (.invokevirtual 194, 3) := by decide +kernel
theorem dX11_read_77 : decode cX11_read 77 = .ok (.iload_n 2, 1) := by decide +kernel
theorem dX11_read_78 : decode cX11_read 78 = .ok (.ireturn, 1) := by decide +kernel
theorem dX11_take_0 : decode cX11_take 0 = .ok (.aload_n 0, 1) := by decide +kernel
theorem dX11_take_1 : decode cX11_take 1 = .ok (.getfield 112, 3) := by decide +kernel
theorem dX11_take_4 : decode cX11_take 4 = .ok (.ifCond .ne 9, 3) := by decide +kernel
theorem dX11_take_7 : decode cX11_take 7 = .ok (.aload_n 0, 1) := by decide +kernel
theorem dX11_take_8 : decode cX11_take 8 = .ok (.iconst 0, 1) := by decide +kernel
theorem dX11_take_9 : decode cX11_take 9 = .ok (.invokevirtual 168, 3) := by decide +kernel
theorem dX11_take_12 : decode cX11_take 12 = .ok (.ireturn, 1) := by decide +kernel
theorem dX11_take_13 : decode cX11_take 13 = .ok (.aload_n 0, 1) := by decide +kernel
theorem dX11_take_14 : decode cX11_take 14 = .ok (.getfield 70, 3) := by decide +kernel
theorem dX11_take_17 : decode cX11_take 17 = .ok (.iload_n 1, 1) := by decide +kernel
theorem dX11_take_18 : decode cX11_take 18 = .ok (.invokevirtual 171, 3) := by decide +kernel
theorem dX11_take_21 : decode cX11_take 21 = .ok (.astore_n 2, 1) := by decide +kernel
theorem dX11_take_22 : decode cX11_take 22 = .ok (.aload_n 2, 1) := by decide +kernel
theorem dX11_take_23 : decode cX11_take 23 = .ok (.ifnull 13, 3) := by decide +kernel
theorem dX11_take_26 : decode cX11_take 26 = .ok (.aload_n 2, 1) := by decide +kernel
theorem dX11_take_27 : decode cX11_take 27 = .ok (.getfield 232, 3) := by decide +kernel
theorem dX11_take_30 : decode cX11_take 30 = .ok (.invokevirtual 181, 3) := by decide +kernel
theorem dX11_take_33 : decode cX11_take 33 = .ok (.ifCond .ne 9, 3) := by decide +kernel
theorem dX11_take_36 : decode cX11_take 36 = .ok (.aload_n 0, 1) := by decide +kernel
theorem dX11_take_37 : decode cX11_take 37 = .ok (.iconst 1, 1) := by decide +kernel
theorem dX11_take_38 : decode cX11_take 38 = .ok (.invokevirtual 168, 3) := by decide +kernel
theorem dX11_take_41 : decode cX11_take 41 = .ok (.ireturn, 1) := by decide +kernel
theorem dX11_take_42 : decode cX11_take 42 = .ok (.aload_n 0, 1) := by decide +kernel
theorem dX11_take_43 : decode cX11_take 43 = .ok (.getfield 52, 3) := by decide +kernel
theorem dX11_take_46 : decode cX11_take 46 = .ok (.aload_n 0, 1) := by decide +kernel
theorem dX11_take_47 : decode cX11_take 47 = .ok (.getfield 70, 3) := by decide +kernel
theorem dX11_take_50 : decode cX11_take 50 = .ok (.invokevirtual 186, 3) := by decide +kernel
theorem dX11_take_53 : decode cX11_take 53 = .ok (.aload_n 2, 1) := by decide +kernel
theorem dX11_take_54 : decode cX11_take 54 = .ok (.aload_n 0, 1) := by decide +kernel
theorem dX11_take_55 : decode cX11_take 55 = .ok (.getfield 25, 3) := by decide +kernel
theorem dX11_take_58 : decode cX11_take 58 = .ok (.invokevirtual 235, 3) := by decide +kernel
theorem dX11_take_61 : decode cX11_take 61 = .ok (.aload_n 0, 1) := by decide +kernel
theorem dX11_take_62 : decode cX11_take 62 = .ok (.getfield 52, 3) := by decide +kernel
theorem dX11_take_65 : decode cX11_take 65 = .ok (.invokevirtual 194, 3) := by decide +kernel
theorem dX11_take_68 : decode cX11_take 68 = .ok (.aload_n 0, 1) := by decide +kernel
theorem dX11_take_69 : decode cX11_take 69 = .ok (.getfield 25, 3) := by decide +kernel
theorem dX11_take_72 : decode cX11_take 72 = .ok (.getfield 76, 3) := by decide +kernel
theorem dX11_take_75 : decode cX11_take 75 = .ok (.ireturn, 1) := by decide +kernel
theorem dX11_hand_0 : decode cX11_hand 0 = .ok (.aload_n 0, 1) := by decide +kernel
theorem dX11_hand_1 : decode cX11_hand 1 = .ok (.getfield 25, 3) := by decide +kernel
theorem dX11_hand_4 : decode cX11_hand 4 = .ok (.iload_n 1, 1) := by decide +kernel
theorem dX11_hand_5 : decode cX11_hand 5 = .ok (.invokevirtual 201, 3) := by decide +kernel
theorem dX11_hand_8 : decode cX11_hand 8 = .ok (.ireturn, 1) := by decide +kernel
theorem dX11_renew_0 : decode cX11_renew 0 = .ok (.aload_n 0, 1) := by decide +kernel
theorem dX11_renew_1 : decode cX11_renew 1 = .ok (.getfield 112, 3) := by decide +kernel
theorem dX11_renew_4 : decode cX11_renew 4 = .ok (.ifCond .ne 9, 3) := by decide +kernel
theorem dX11_renew_7 : decode cX11_renew 7 = .ok (.aload_n 0, 1) := by decide +kernel
theorem dX11_renew_8 : decode cX11_renew 8 = .ok (.iconst 0, 1) := by decide +kernel
theorem dX11_renew_9 : decode cX11_renew 9 = .ok (.invokevirtual 168, 3) := by decide +kernel
theorem dX11_renew_12 : decode cX11_renew 12 = .ok (.ireturn, 1) := by decide +kernel
theorem dX11_renew_13 : decode cX11_renew 13 = .ok (.aload_n 0, 1) := by decide +kernel
theorem dX11_renew_14 : decode cX11_renew 14 = .ok (.getfield 70, 3) := by decide +kernel
theorem dX11_renew_17 : decode cX11_renew 17 = .ok (.iload_n 1, 1) := by decide +kernel
theorem dX11_renew_18 : decode cX11_renew 18 = .ok (.invokevirtual 171, 3) := by decide +kernel
theorem dX11_renew_21 : decode cX11_renew 21 = .ok (.astore_n 2, 1) := by decide +kernel
theorem dX11_renew_22 : decode cX11_renew 22 = .ok (.aload_n 2, 1) := by decide +kernel
theorem dX11_renew_23 : decode cX11_renew 23 = .ok (.ifnonnull 9, 3) := by decide +kernel
theorem dX11_renew_26 : decode cX11_renew 26 = .ok (.aload_n 0, 1) := by decide +kernel
theorem dX11_renew_27 : decode cX11_renew 27 = .ok (.iconst 1, 1) := by decide +kernel
theorem dX11_renew_28 : decode cX11_renew 28 = .ok (.invokevirtual 168, 3) := by decide +kernel
theorem dX11_renew_31 : decode cX11_renew 31 = .ok (.ireturn, 1) := by decide +kernel
theorem dX11_renew_32 : decode cX11_renew 32 = .ok (.aload_n 2, 1) := by decide +kernel
theorem dX11_renew_33 : decode cX11_renew 33 = .ok (.getfield 239, 3) := by decide +kernel
theorem dX11_renew_36 : decode cX11_renew 36 = .ok (.aload_n 2, 1) := by decide +kernel
theorem dX11_renew_37 : decode cX11_renew 37 = .ok (.getfield 242, 3) := by decide +kernel
theorem dX11_renew_40 : decode cX11_renew 40 = .ok (.if_icmp .lt 9, 3) := by decide +kernel
theorem dX11_renew_43 : decode cX11_renew 43 = .ok (.aload_n 0, 1) := by decide +kernel
theorem dX11_renew_44 : decode cX11_renew 44 = .ok (.iconst 2, 1) := by decide +kernel
theorem dX11_renew_45 : decode cX11_renew 45 = .ok (.invokevirtual 168, 3) := by decide +kernel
theorem dX11_renew_48 : decode cX11_renew 48 = .ok (.ireturn, 1) := by decide +kernel
theorem dX11_renew_49 : decode cX11_renew 49 = .ok (.aload_n 0, 1) := by decide +kernel
theorem dX11_renew_50 : decode cX11_renew 50 = .ok (.getfield 52, 3) := by decide +kernel
theorem dX11_renew_53 : decode cX11_renew 53 = .ok (.aload_n 0, 1) := by decide +kernel
theorem dX11_renew_54 : decode cX11_renew 54 = .ok (.getfield 70, 3) := by decide +kernel
theorem dX11_renew_57 : decode cX11_renew 57 = .ok (.invokevirtual 186, 3) := by decide +kernel
theorem dX11_renew_60 : decode cX11_renew 60 = .ok (.aload_n 2, 1) := by decide +kernel
theorem dX11_renew_61 : decode cX11_renew 61 = .ok (.aload_n 2, 1) := by decide +kernel
theorem dX11_renew_62 : decode cX11_renew 62 = .ok (.getfield 242, 3) := by decide +kernel
theorem dX11_renew_65 : decode cX11_renew 65 = .ok (.putfield 239, 3) := by decide +kernel
theorem dX11_renew_68 : decode cX11_renew 68 = .ok (.aload_n 0, 1) := by decide +kernel
theorem dX11_renew_69 : decode cX11_renew 69 = .ok (.getfield 52, 3) := by decide +kernel
theorem dX11_renew_72 : decode cX11_renew 72 = .ok (.invokevirtual 194, 3) := by decide +kernel
theorem dX11_renew_75 : decode cX11_renew 75 = .ok (.aload_n 2, 1) := by decide +kernel
theorem dX11_renew_76 : decode cX11_renew 76 = .ok (.getfield 239, 3) := by decide +kernel
theorem dX11_renew_79 : decode cX11_renew 79 = .ok (.ireturn, 1) := by decide +kernel
theorem dX11_channel_0 : decode cX11_channel 0 = .ok (.aload_n 0, 1) := by decide +kernel
theorem dX11_channel_1 : decode cX11_channel 1 = .ok (.getfield 70, 3) := by decide +kernel
theorem dX11_channel_4 : decode cX11_channel 4 = .ok (.iload_n 1, 1) := by decide +kernel
theorem dX11_channel_5 : decode cX11_channel 5 = .ok (.invokevirtual 171, 3) := by decide +kernel
theorem dX11_channel_8 : decode cX11_channel 8 = .ok (.astore_n 3, 1) := by decide +kernel
theorem dX11_channel_9 : decode cX11_channel 9 = .ok (.aload_n 3, 1) := by decide +kernel
theorem dX11_channel_10 : decode cX11_channel 10 = .ok (.ifnonnull 13, 3) := by decide +kernel
theorem dX11_channel_13 : decode cX11_channel 13 = .ok (.new 244, 3) := by decide +kernel
theorem dX11_channel_16 : decode cX11_channel 16 = .ok (.dup, 1) := by decide +kernel
theorem dX11_channel_17 : decode cX11_channel 17 = .ok (.ldc 246, 2) := by decide +kernel
theorem dX11_channel_19 : decode cX11_channel 19 = .ok (.invokespecial 248, 3) := by decide +kernel
theorem dX11_channel_22 : decode cX11_channel 22 = .ok (.athrow, 1) := by decide +kernel
theorem dX11_channel_23 : decode cX11_channel 23 = .ok (.iload_n 2, 1) := by decide +kernel
theorem dX11_channel_24 : decode cX11_channel 24 = .ok (.tableswitch 133 0 11 #[64, 69, 74, 82, 87, 92, 97, 102, 107, 115, 120, 128], 64) := by decide +kernel
theorem dX11_channel_88 : decode cX11_channel 88 = .ok (.aload_n 3, 1) := by decide +kernel
theorem dX11_channel_89 : decode cX11_channel 89 = .ok (.getfield 239, 3) := by decide +kernel
theorem dX11_channel_92 : decode cX11_channel 92 = .ok (.ireturn, 1) := by decide +kernel
theorem dX11_channel_93 : decode cX11_channel 93 = .ok (.aload_n 3, 1) := by decide +kernel
theorem dX11_channel_94 : decode cX11_channel 94 = .ok (.getfield 242, 3) := by decide +kernel
theorem dX11_channel_97 : decode cX11_channel 97 = .ok (.ireturn, 1) := by decide +kernel
theorem dX11_channel_98 : decode cX11_channel 98 = .ok (.aload_n 3, 1) := by decide +kernel
theorem dX11_channel_99 : decode cX11_channel 99 = .ok (.getfield 175, 3) := by decide +kernel
theorem dX11_channel_102 : decode cX11_channel 102 = .ok (.invokevirtual 181, 3) := by decide +kernel
theorem dX11_channel_105 : decode cX11_channel 105 = .ok (.ireturn, 1) := by decide +kernel
theorem dX11_channel_106 : decode cX11_channel 106 = .ok (.aload_n 3, 1) := by decide +kernel
theorem dX11_channel_107 : decode cX11_channel 107 = .ok (.getfield 251, 3) := by decide +kernel
theorem dX11_channel_110 : decode cX11_channel 110 = .ok (.ireturn, 1) := by decide +kernel
theorem dX11_channel_111 : decode cX11_channel 111 = .ok (.aload_n 3, 1) := by decide +kernel
theorem dX11_channel_112 : decode cX11_channel 112 = .ok (.getfield 254, 3) := by decide +kernel
theorem dX11_channel_115 : decode cX11_channel 115 = .ok (.ireturn, 1) := by decide +kernel
theorem dX11_channel_116 : decode cX11_channel 116 = .ok (.aload_n 3, 1) := by decide +kernel
theorem dX11_channel_117 : decode cX11_channel 117 = .ok (.getfield 257, 3) := by decide +kernel
theorem dX11_channel_120 : decode cX11_channel 120 = .ok (.ireturn, 1) := by decide +kernel
theorem dX11_channel_121 : decode cX11_channel 121 = .ok (.aload_n 3, 1) := by decide +kernel
theorem dX11_channel_122 : decode cX11_channel 122 = .ok (.getfield 260, 3) := by decide +kernel
theorem dX11_channel_125 : decode cX11_channel 125 = .ok (.ireturn, 1) := by decide +kernel
theorem dX11_channel_126 : decode cX11_channel 126 = .ok (.aload_n 3, 1) := by decide +kernel
theorem dX11_channel_127 : decode cX11_channel 127 = .ok (.getfield 263, 3) := by decide +kernel
theorem dX11_channel_130 : decode cX11_channel 130 = .ok (.ireturn, 1) := by decide +kernel
theorem dX11_channel_131 : decode cX11_channel 131 = .ok (.aload_n 3, 1) := by decide +kernel
theorem dX11_channel_132 : decode cX11_channel 132 = .ok (.getfield 232, 3) := by decide +kernel
theorem dX11_channel_135 : decode cX11_channel 135 = .ok (.invokevirtual 181, 3) := by decide +kernel
theorem dX11_channel_138 : decode cX11_channel 138 = .ok (.ireturn, 1) := by decide +kernel
theorem dX11_channel_139 : decode cX11_channel 139 = .ok (.aload_n 3, 1) := by decide +kernel
theorem dX11_channel_140 : decode cX11_channel 140 = .ok (.getfield 266, 3) := by decide +kernel
theorem dX11_channel_143 : decode cX11_channel 143 = .ok (.ireturn, 1) := by decide +kernel
theorem dX11_channel_144 : decode cX11_channel 144 = .ok (.aload_n 3, 1) := by decide +kernel
theorem dX11_channel_145 : decode cX11_channel 145 = .ok (.getfield 269, 3) := by decide +kernel
theorem dX11_channel_148 : decode cX11_channel 148 = .ok (.getfield 76, 3) := by decide +kernel
theorem dX11_channel_151 : decode cX11_channel 151 = .ok (.ireturn, 1) := by decide +kernel
theorem dX11_channel_152 : decode cX11_channel 152 = .ok (.aload_n 3, 1) := by decide +kernel
theorem dX11_channel_153 : decode cX11_channel 153 = .ok (.getfield 272, 3) := by decide +kernel
theorem dX11_channel_156 : decode cX11_channel 156 = .ok (.ireturn, 1) := by decide +kernel
theorem dX11_channel_157 : decode cX11_channel 157 = .ok (.new 244, 3) := by decide +kernel
theorem dX11_channel_160 : decode cX11_channel 160 = .ok (.dup, 1) := by decide +kernel
theorem dX11_channel_161 : decode cX11_channel 161 = .ok (.ldc_w 275, 3) := by decide +kernel
theorem dX11_channel_164 : decode cX11_channel 164 = .ok (.invokespecial 248, 3) := by decide +kernel
theorem dX11_channel_167 : decode cX11_channel 167 = .ok (.athrow, 1) := by decide +kernel
theorem dX11_event_0 : decode cX11_event 0 = .ok (.iload_n 1, 1) := by decide +kernel
theorem dX11_event_1 : decode cX11_event 1 = .ok (.ifCond .lt 18, 3) := by decide +kernel
theorem dX11_event_4 : decode cX11_event 4 = .ok (.iload_n 1, 1) := by decide +kernel
theorem dX11_event_5 : decode cX11_event 5 = .ok (.bipush 40, 2) := by decide +kernel
theorem dX11_event_7 : decode cX11_event 7 = .ok (.if_icmp .ge 12, 3) := by decide +kernel
theorem dX11_event_10 : decode cX11_event 10 = .ok (.iload_n 2, 1) := by decide +kernel
theorem dX11_event_11 : decode cX11_event 11 = .ok (.ifCond .lt 8, 3) := by decide +kernel
theorem dX11_event_14 : decode cX11_event 14 = .ok (.iload_n 2, 1) := by decide +kernel
theorem dX11_event_15 : decode cX11_event 15 = .ok (.iconst 5, 1) := by decide +kernel
theorem dX11_event_16 : decode cX11_event 16 = .ok (.if_icmp .lt 5, 3) := by decide +kernel
theorem dX11_event_19 : decode cX11_event 19 = .ok (.iconst (-1), 1) := by decide +kernel
theorem dX11_event_20 : decode cX11_event 20 = .ok (.ireturn, 1) := by decide +kernel
theorem dX11_event_21 : decode cX11_event 21 = .ok (.aload_n 0, 1) := by decide +kernel
theorem dX11_event_22 : decode cX11_event 22 = .ok (.getfield 70, 3) := by decide +kernel
theorem dX11_event_25 : decode cX11_event 25 = .ok (.getfield 277, 3) := by decide +kernel
theorem dX11_event_28 : decode cX11_event 28 = .ok (.aload_n 0, 1) := by decide +kernel
theorem dX11_event_29 : decode cX11_event 29 = .ok (.getfield 70, 3) := by decide +kernel
theorem dX11_event_32 : decode cX11_event 32 = .ok (.getfield 277, 3) := by decide +kernel
theorem dX11_event_35 : decode cX11_event 35 = .ok (.getfield 76, 3) := by decide +kernel
theorem dX11_event_38 : decode cX11_event 38 = .ok (.iconst 5, 1) := by decide +kernel
theorem dX11_event_39 : decode cX11_event 39 = .ok (.iload_n 1, 1) := by decide +kernel
theorem dX11_event_40 : decode cX11_event 40 = .ok (.iconst 1, 1) := by decide +kernel
theorem dX11_event_41 : decode cX11_event 41 = .ok (.iadd, 1) := by decide +kernel
theorem dX11_event_42 : decode cX11_event 42 = .ok (.imul, 1) := by decide +kernel
theorem dX11_event_43 : decode cX11_event 43 = .ok (.isub, 1) := by decide +kernel
theorem dX11_event_44 : decode cX11_event 44 = .ok (.iload_n 2, 1) := by decide +kernel
theorem dX11_event_45 : decode cX11_event 45 = .ok (.iadd, 1) := by decide +kernel
theorem dX11_event_46 : decode cX11_event 46 = .ok (.invokevirtual 201, 3) := by decide +kernel
theorem dX11_event_49 : decode cX11_event 49 = .ok (.ireturn, 1) := by decide +kernel
theorem dX11_stuff_0 : decode cX11_stuff 0 = .ok (.iload_n 1, 1) := by decide +kernel
theorem dX11_stuff_1 : decode cX11_stuff 1 = .ok (.invokestatic 280, 3) := by decide +kernel
theorem dX11_stuff_4 : decode cX11_stuff 4 = .ok (.ifCond .ne 5, 3) := by decide +kernel
theorem dX11_stuff_7 : decode cX11_stuff 7 = .ok (.iconst (-1), 1) := by decide +kernel
theorem dX11_stuff_8 : decode cX11_stuff 8 = .ok (.ireturn, 1) := by decide +kernel
theorem dX11_stuff_9 : decode cX11_stuff 9 = .ok (.aload_n 0, 1) := by decide +kernel
theorem dX11_stuff_10 : decode cX11_stuff 10 = .ok (.getfield 31, 3) := by decide +kernel
theorem dX11_stuff_13 : decode cX11_stuff 13 = .ok (.getfield 90, 3) := by decide +kernel
theorem dX11_stuff_16 : decode cX11_stuff 16 = .ok (.getfield 126, 3) := by decide +kernel
theorem dX11_stuff_19 : decode cX11_stuff 19 = .ok (.aload_n 0, 1) := by decide +kernel
theorem dX11_stuff_20 : decode cX11_stuff 20 = .ok (.getfield 12, 3) := by decide +kernel
theorem dX11_stuff_23 : decode cX11_stuff 23 = .ok (.getfield 73, 3) := by decide +kernel
theorem dX11_stuff_26 : decode cX11_stuff 26 = .ok (.iload_n 1, 1) := by decide +kernel
theorem dX11_stuff_27 : decode cX11_stuff 27 = .ok (.aload_n 0, 1) := by decide +kernel
theorem dX11_stuff_28 : decode cX11_stuff 28 = .ok (.getfield 21, 3) := by decide +kernel
theorem dX11_stuff_31 : decode cX11_stuff 31 = .ok (.invokevirtual 283, 3) := by decide +kernel
theorem dX11_stuff_34 : decode cX11_stuff 34 = .ok (.aload_n 0, 1) := by decide +kernel
theorem dX11_stuff_35 : decode cX11_stuff 35 = .ok (.getfield 12, 3) := by decide +kernel
theorem dX11_stuff_38 : decode cX11_stuff 38 = .ok (.getfield 73, 3) := by decide +kernel
theorem dX11_stuff_41 : decode cX11_stuff 41 = .ok (.invokevirtual 103, 3) := by decide +kernel
theorem dX11_stuff_44 : decode cX11_stuff 44 = .ok (.aload_n 0, 1) := by decide +kernel
theorem dX11_stuff_45 : decode cX11_stuff 45 = .ok (.getfield 21, 3) := by decide +kernel
theorem dX11_stuff_48 : decode cX11_stuff 48 = .ok (.getfield 76, 3) := by decide +kernel
theorem dX11_stuff_51 : decode cX11_stuff 51 = .ok (.ireturn, 1) := by decide +kernel
theorem dX11_unstuff_0 : decode cX11_unstuff 0 = .ok (.iload_n 1, 1) := by decide +kernel
theorem dX11_unstuff_1 : decode cX11_unstuff 1 = .ok (.invokestatic 280, 3) := by decide +kernel
theorem dX11_unstuff_4 : decode cX11_unstuff 4 = .ok (.ifCond .ne 5, 3) := by decide +kernel
theorem dX11_unstuff_7 : decode cX11_unstuff 7 = .ok (.iconst (-1), 1) := by decide +kernel
theorem dX11_unstuff_8 : decode cX11_unstuff 8 = .ok (.ireturn, 1) := by decide +kernel
theorem dX11_unstuff_9 : decode cX11_unstuff 9 = .ok (.aload_n 0, 1) := by decide +kernel
theorem dX11_unstuff_10 : decode cX11_unstuff 10 = .ok (.getfield 31, 3) := by decide +kernel
theorem dX11_unstuff_13 : decode cX11_unstuff 13 = .ok (.getfield 287, 3) := by decide +kernel
theorem dX11_unstuff_16 : decode cX11_unstuff 16 = .ok (.astore_n 2, 1) := by decide +kernel
theorem dX11_unstuff_17 : decode cX11_unstuff 17 = .ok (.aload_n 0, 1) := by decide +kernel
theorem dX11_unstuff_18 : decode cX11_unstuff 18 = .ok (.getfield 31, 3) := by decide +kernel
theorem dX11_unstuff_21 : decode cX11_unstuff 21 = .ok (.getfield 90, 3) := by decide +kernel
theorem dX11_unstuff_24 : decode cX11_unstuff 24 = .ok (.getfield 126, 3) := by decide +kernel
theorem dX11_unstuff_27 : decode cX11_unstuff 27 = .ok (.aload_n 0, 1) := by decide +kernel
theorem dX11_unstuff_28 : decode cX11_unstuff 28 = .ok (.getfield 12, 3) := by decide +kernel
theorem dX11_unstuff_31 : decode cX11_unstuff 31 = .ok (.getfield 73, 3) := by decide +kernel
theorem dX11_unstuff_34 : decode cX11_unstuff 34 = .ok (.iconst 0, 1) := by decide +kernel
theorem dX11_unstuff_35 : decode cX11_unstuff 35 = .ok (.aload_n 0, 1) := by decide +kernel
theorem dX11_unstuff_36 : decode cX11_unstuff 36 = .ok (.getfield 12, 3) := by decide +kernel
theorem dX11_unstuff_39 : decode cX11_unstuff 39 = .ok (.getfield 73, 3) := by decide +kernel
theorem dX11_unstuff_42 : decode cX11_unstuff 42 = .ok (.getfield 76, 3) := by decide +kernel
theorem dX11_unstuff_45 : decode cX11_unstuff 45 = .ok (.iload_n 1, 1) := by decide +kernel
theorem dX11_unstuff_46 : decode cX11_unstuff 46 = .ok (.aload_n 2, 1) := by decide +kernel
theorem dX11_unstuff_47 : decode cX11_unstuff 47 = .ok (.invokevirtual 290, 3) := by decide +kernel
theorem dX11_unstuff_50 : decode cX11_unstuff 50 = .ok (.istore_n 3, 1) := by decide +kernel
theorem dX11_unstuff_51 : decode cX11_unstuff 51 = .ok (.iload_n 3, 1) := by decide +kernel
theorem dX11_unstuff_52 : decode cX11_unstuff 52 = .ok (.iconst (-1), 1) := by decide +kernel
theorem dX11_unstuff_53 : decode cX11_unstuff 53 = .ok (.if_icmp .eq 8, 3) := by decide +kernel
theorem dX11_unstuff_56 : decode cX11_unstuff 56 = .ok (.bipush (-2), 2) := by decide +kernel
theorem dX11_unstuff_58 : decode cX11_unstuff 58 = .ok (.iload_n 3, 1) := by decide +kernel
theorem dX11_unstuff_59 : decode cX11_unstuff 59 = .ok (.isub, 1) := by decide +kernel
theorem dX11_unstuff_60 : decode cX11_unstuff 60 = .ok (.ireturn, 1) := by decide +kernel
theorem dX11_unstuff_61 : decode cX11_unstuff 61 = .ok (.aload_n 0, 1) := by decide +kernel
theorem dX11_unstuff_62 : decode cX11_unstuff 62 = .ok (.getfield 21, 3) := by decide +kernel
theorem dX11_unstuff_65 : decode cX11_unstuff 65 = .ok (.aload_n 2, 1) := by decide +kernel
theorem dX11_unstuff_66 : decode cX11_unstuff 66 = .ok (.invokevirtual 294, 3) := by decide +kernel
theorem dX11_unstuff_69 : decode cX11_unstuff 69 = .ok (.aload_n 0, 1) := by decide +kernel
theorem dX11_unstuff_70 : decode cX11_unstuff 70 = .ok (.getfield 12, 3) := by decide +kernel
theorem dX11_unstuff_73 : decode cX11_unstuff 73 = .ok (.getfield 73, 3) := by decide +kernel
theorem dX11_unstuff_76 : decode cX11_unstuff 76 = .ok (.invokevirtual 103, 3) := by decide +kernel
theorem dX11_unstuff_79 : decode cX11_unstuff 79 = .ok (.aload_n 0, 1) := by decide +kernel
theorem dX11_unstuff_80 : decode cX11_unstuff 80 = .ok (.getfield 21, 3) := by decide +kernel
theorem dX11_unstuff_83 : decode cX11_unstuff 83 = .ok (.getfield 76, 3) := by decide +kernel
theorem dX11_unstuff_86 : decode cX11_unstuff 86 = .ok (.ireturn, 1) := by decide +kernel
theorem dX11_isWay_0 : decode cX11_isWay 0 = .ok (.iload_n 0, 1) := by decide +kernel
theorem dX11_isWay_1 : decode cX11_isWay 1 = .ok (.ifCond .eq 13, 3) := by decide +kernel
theorem dX11_isWay_4 : decode cX11_isWay 4 = .ok (.iload_n 0, 1) := by decide +kernel
theorem dX11_isWay_5 : decode cX11_isWay 5 = .ok (.iconst 1, 1) := by decide +kernel
theorem dX11_isWay_6 : decode cX11_isWay 6 = .ok (.if_icmp .eq 8, 3) := by decide +kernel
theorem dX11_isWay_9 : decode cX11_isWay 9 = .ok (.iload_n 0, 1) := by decide +kernel
theorem dX11_isWay_10 : decode cX11_isWay 10 = .ok (.iconst 2, 1) := by decide +kernel
theorem dX11_isWay_11 : decode cX11_isWay 11 = .ok (.if_icmp .ne 7, 3) := by decide +kernel
theorem dX11_isWay_14 : decode cX11_isWay 14 = .ok (.iconst 1, 1) := by decide +kernel
theorem dX11_isWay_15 : decode cX11_isWay 15 = .ok (.goto 4, 3) := by decide +kernel
theorem dX11_isWay_18 : decode cX11_isWay 18 = .ok (.iconst 0, 1) := by decide +kernel
theorem dX11_isWay_19 : decode cX11_isWay 19 = .ok (.ireturn, 1) := by decide +kernel
theorem dX11_box_0 : decode cX11_box 0 = .ok (.aload_n 0, 1) := by decide +kernel
theorem dX11_box_1 : decode cX11_box 1 = .ok (.getfield 21, 3) := by decide +kernel
theorem dX11_box_4 : decode cX11_box 4 = .ok (.iload_n 1, 1) := by decide +kernel
theorem dX11_box_5 : decode cX11_box 5 = .ok (.invokevirtual 201, 3) := by decide +kernel
theorem dX11_box_8 : decode cX11_box 8 = .ok (.ireturn, 1) := by decide +kernel
theorem dX11_shortest_0 : decode cX11_shortest 0 = .ok (.iconst 0, 1) := by decide +kernel
theorem dX11_shortest_1 : decode cX11_shortest 1 = .ok (.istore_n 1, 1) := by decide +kernel
theorem dX11_shortest_2 : decode cX11_shortest 2 = .ok (.aload_n 0, 1) := by decide +kernel
theorem dX11_shortest_3 : decode cX11_shortest 3 = .ok (.iconst 0, 1) := by decide +kernel
theorem dX11_shortest_4 : decode cX11_shortest 4 = .ok (.invokevirtual 296, 3) := by decide +kernel
theorem dX11_shortest_7 : decode cX11_shortest 7 = .ok (.istore_n 2, 1) := by decide +kernel
theorem dX11_shortest_8 : decode cX11_shortest 8 = .ok (.iconst 1, 1) := by decide +kernel
theorem dX11_shortest_9 : decode cX11_shortest 9 = .ok (.istore_n 3, 1) := by decide +kernel
theorem dX11_shortest_10 : decode cX11_shortest 10 = .ok (.iload_n 3, 1) := by decide +kernel
theorem dX11_shortest_11 : decode cX11_shortest 11 = .ok (.iconst 2, 1) := by decide +kernel
theorem dX11_shortest_12 : decode cX11_shortest 12 = .ok (.if_icmp .gt 27, 3) := by decide +kernel
theorem dX11_shortest_15 : decode cX11_shortest 15 = .ok (.aload_n 0, 1) := by decide +kernel
theorem dX11_shortest_16 : decode cX11_shortest 16 = .ok (.iload_n 3, 1) := by decide +kernel
theorem dX11_shortest_17 : decode cX11_shortest 17 = .ok (.invokevirtual 296, 3) := by decide +kernel
theorem dX11_shortest_20 : decode cX11_shortest 20 = .ok (.istore 4, 2) := by decide +kernel
theorem dX11_shortest_22 : decode cX11_shortest 22 = .ok (.iload 4, 2) := by decide +kernel
theorem dX11_shortest_24 : decode cX11_shortest 24 = .ok (.iload_n 2, 1) := by decide +kernel
theorem dX11_shortest_25 : decode cX11_shortest 25 = .ok (.if_icmp .ge 8, 3) := by decide +kernel
theorem dX11_shortest_28 : decode cX11_shortest 28 = .ok (.iload_n 3, 1) := by decide +kernel
theorem dX11_shortest_29 : decode cX11_shortest 29 = .ok (.istore_n 1, 1) := by decide +kernel
theorem dX11_shortest_30 : decode cX11_shortest 30 = .ok (.iload 4, 2) := by decide +kernel
theorem dX11_shortest_32 : decode cX11_shortest 32 = .ok (.istore_n 2, 1) := by decide +kernel
theorem dX11_shortest_33 : decode cX11_shortest 33 = .ok (.iinc 3 1, 3) := by decide +kernel
theorem dX11_shortest_36 : decode cX11_shortest 36 = .ok (.goto (-26), 3) := by decide +kernel
theorem dX11_shortest_39 : decode cX11_shortest 39 = .ok (.iload_n 1, 1) := by decide +kernel
theorem dX11_shortest_40 : decode cX11_shortest 40 = .ok (.ireturn, 1) := by decide +kernel
theorem dX11_stuffedLength_0 : decode cX11_stuffedLength 0 = .ok (.aload_n 0, 1) := by decide +kernel
theorem dX11_stuffedLength_1 : decode cX11_stuffedLength 1 = .ok (.getfield 31, 3) := by decide +kernel
theorem dX11_stuffedLength_4 : decode cX11_stuffedLength 4 = .ok (.getfield 90, 3) := by decide +kernel
theorem dX11_stuffedLength_7 : decode cX11_stuffedLength 7 = .ok (.getfield 126, 3) := by decide +kernel
theorem dX11_stuffedLength_10 : decode cX11_stuffedLength 10 = .ok (.aload_n 0, 1) := by decide +kernel
theorem dX11_stuffedLength_11 : decode cX11_stuffedLength 11 = .ok (.getfield 12, 3) := by decide +kernel
theorem dX11_stuffedLength_14 : decode cX11_stuffedLength 14 = .ok (.getfield 73, 3) := by decide +kernel
theorem dX11_stuffedLength_17 : decode cX11_stuffedLength 17 = .ok (.iload_n 1, 1) := by decide +kernel
theorem dX11_stuffedLength_18 : decode cX11_stuffedLength 18 = .ok (.aload_n 0, 1) := by decide +kernel
theorem dX11_stuffedLength_19 : decode cX11_stuffedLength 19 = .ok (.getfield 31, 3) := by decide +kernel
theorem dX11_stuffedLength_22 : decode cX11_stuffedLength 22 = .ok (.getfield 299, 3) := by decide +kernel
theorem dX11_stuffedLength_25 : decode cX11_stuffedLength 25 = .ok (.invokevirtual 283, 3) := by decide +kernel
theorem dX11_stuffedLength_28 : decode cX11_stuffedLength 28 = .ok (.aload_n 0, 1) := by decide +kernel
theorem dX11_stuffedLength_29 : decode cX11_stuffedLength 29 = .ok (.getfield 31, 3) := by decide +kernel
theorem dX11_stuffedLength_32 : decode cX11_stuffedLength 32 = .ok (.getfield 299, 3) := by decide +kernel
theorem dX11_stuffedLength_35 : decode cX11_stuffedLength 35 = .ok (.getfield 76, 3) := by decide +kernel
theorem dX11_stuffedLength_38 : decode cX11_stuffedLength 38 = .ok (.ireturn, 1) := by decide +kernel
theorem dX11_bound_0 : decode cX11_bound 0 = .ok (.iload_n 1, 1) := by decide +kernel
theorem dX11_bound_1 : decode cX11_bound 1 = .ok (.ifCond .lt 10, 3) := by decide +kernel
theorem dX11_bound_4 : decode cX11_bound 4 = .ok (.iload_n 1, 1) := by decide +kernel
theorem dX11_bound_5 : decode cX11_bound 5 = .ok (.sipush 300, 3) := by decide +kernel
theorem dX11_bound_8 : decode cX11_bound 8 = .ok (.if_icmp .le 5, 3) := by decide +kernel
theorem dX11_bound_11 : decode cX11_bound 11 = .ok (.iconst (-1), 1) := by decide +kernel
theorem dX11_bound_12 : decode cX11_bound 12 = .ok (.ireturn, 1) := by decide +kernel
theorem dX11_bound_13 : decode cX11_bound 13 = .ok (.aload_n 0, 1) := by decide +kernel
theorem dX11_bound_14 : decode cX11_bound 14 = .ok (.getfield 31, 3) := by decide +kernel
theorem dX11_bound_17 : decode cX11_bound 17 = .ok (.getfield 90, 3) := by decide +kernel
theorem dX11_bound_20 : decode cX11_bound 20 = .ok (.getfield 126, 3) := by decide +kernel
theorem dX11_bound_23 : decode cX11_bound 23 = .ok (.iload_n 1, 1) := by decide +kernel
theorem dX11_bound_24 : decode cX11_bound 24 = .ok (.invokevirtual 302, 3) := by decide +kernel
theorem dX11_bound_27 : decode cX11_bound 27 = .ok (.ireturn, 1) := by decide +kernel
theorem dX11_frame_0 : decode cX11_frame 0 = .ok (.iload_n 2, 1) := by decide +kernel
theorem dX11_frame_1 : decode cX11_frame 1 = .ok (.ifCond .lt 26, 3) := by decide +kernel
theorem dX11_frame_4 : decode cX11_frame 4 = .ok (.iload_n 2, 1) := by decide +kernel
theorem dX11_frame_5 : decode cX11_frame 5 = .ok (.iconst 4, 1) := by decide +kernel
theorem dX11_frame_6 : decode cX11_frame 6 = .ok (.if_icmp .gt 21, 3) := by decide +kernel
theorem dX11_frame_9 : decode cX11_frame 9 = .ok (.aload_n 0, 1) := by decide +kernel
theorem dX11_frame_10 : decode cX11_frame 10 = .ok (.getfield 38, 3) := by decide +kernel
theorem dX11_frame_13 : decode cX11_frame 13 = .ok (.aload_n 0, 1) := by decide +kernel
theorem dX11_frame_14 : decode cX11_frame 14 = .ok (.getfield 70, 3) := by decide +kernel
theorem dX11_frame_17 : decode cX11_frame 17 = .ok (.getfield 142, 3) := by decide +kernel
theorem dX11_frame_20 : decode cX11_frame 20 = .ok (.iload_n 1, 1) := by decide +kernel
theorem dX11_frame_21 : decode cX11_frame 21 = .ok (.invokevirtual 305, 3) := by decide +kernel
theorem dX11_frame_24 : decode cX11_frame 24 = .ok (.ifCond .ne 5, 3) := by decide +kernel
theorem dX11_frame_27 : decode cX11_frame 27 = .ok (.iconst (-1), 1) := by decide +kernel
theorem dX11_frame_28 : decode cX11_frame 28 = .ok (.ireturn, 1) := by decide +kernel
theorem dX11_frame_29 : decode cX11_frame 29 = .ok (.iload_n 2, 1) := by decide +kernel
theorem dX11_frame_30 : decode cX11_frame 30 = .ok (.ifCond .ne 11, 3) := by decide +kernel
theorem dX11_frame_33 : decode cX11_frame 33 = .ok (.aload_n 0, 1) := by decide +kernel
theorem dX11_frame_34 : decode cX11_frame 34 = .ok (.getfield 38, 3) := by decide +kernel
theorem dX11_frame_37 : decode cX11_frame 37 = .ok (.getfield 309, 3) := by decide +kernel
theorem dX11_frame_40 : decode cX11_frame 40 = .ok (.ireturn, 1) := by decide +kernel
theorem dX11_frame_41 : decode cX11_frame 41 = .ok (.iload_n 2, 1) := by decide +kernel
theorem dX11_frame_42 : decode cX11_frame 42 = .ok (.iconst 1, 1) := by decide +kernel
theorem dX11_frame_43 : decode cX11_frame 43 = .ok (.if_icmp .ne 11, 3) := by decide +kernel
theorem dX11_frame_46 : decode cX11_frame 46 = .ok (.aload_n 0, 1) := by decide +kernel
theorem dX11_frame_47 : decode cX11_frame 47 = .ok (.getfield 38, 3) := by decide +kernel
theorem dX11_frame_50 : decode cX11_frame 50 = .ok (.getfield 312, 3) := by decide +kernel
theorem dX11_frame_53 : decode cX11_frame 53 = .ok (.ireturn, 1) := by decide +kernel
theorem dX11_frame_54 : decode cX11_frame 54 = .ok (.aload_n 0, 1) := by decide +kernel
theorem dX11_frame_55 : decode cX11_frame 55 = .ok (.getfield 31, 3) := by decide +kernel
theorem dX11_frame_58 : decode cX11_frame 58 = .ok (.aload_n 0, 1) := by decide +kernel
theorem dX11_frame_59 : decode cX11_frame 59 = .ok (.getfield 70, 3) := by decide +kernel
theorem dX11_frame_62 : decode cX11_frame 62 = .ok (.getfield 142, 3) := by decide +kernel
theorem dX11_frame_65 : decode cX11_frame 65 = .ok (.aload_n 0, 1) := by decide +kernel
theorem dX11_frame_66 : decode cX11_frame 66 = .ok (.getfield 38, 3) := by decide +kernel
theorem dX11_frame_69 : decode cX11_frame 69 = .ok (.getfield 309, 3) := by decide +kernel
theorem dX11_frame_72 : decode cX11_frame 72 = .ok (.aload_n 0, 1) := by decide +kernel
theorem dX11_frame_73 : decode cX11_frame 73 = .ok (.getfield 38, 3) := by decide +kernel
theorem dX11_frame_76 : decode cX11_frame 76 = .ok (.getfield 312, 3) := by decide +kernel
theorem dX11_frame_79 : decode cX11_frame 79 = .ok (.invokevirtual 315, 3) := by decide +kernel
theorem dX11_frame_82 : decode cX11_frame 82 = .ok (.istore_n 3, 1) := by decide +kernel
theorem dX11_frame_83 : decode cX11_frame 83 = .ok (.iload_n 2, 1) := by decide +kernel
theorem dX11_frame_84 : decode cX11_frame 84 = .ok (.iconst 2, 1) := by decide +kernel
theorem dX11_frame_85 : decode cX11_frame 85 = .ok (.if_icmp .ne 5, 3) := by decide +kernel
theorem dX11_frame_88 : decode cX11_frame 88 = .ok (.iload_n 3, 1) := by decide +kernel
theorem dX11_frame_89 : decode cX11_frame 89 = .ok (.ireturn, 1) := by decide +kernel
theorem dX11_frame_90 : decode cX11_frame 90 = .ok (.iload_n 3, 1) := by decide +kernel
theorem dX11_frame_91 : decode cX11_frame 91 = .ok (.iconst 2, 1) := by decide +kernel
theorem dX11_frame_92 : decode cX11_frame 92 = .ok (.if_icmp .eq 8, 3) := by decide +kernel
theorem dX11_frame_95 : decode cX11_frame 95 = .ok (.iload_n 3, 1) := by decide +kernel
theorem dX11_frame_96 : decode cX11_frame 96 = .ok (.iconst 3, 1) := by decide +kernel
theorem dX11_frame_97 : decode cX11_frame 97 = .ok (.if_icmp .ne 5, 3) := by decide +kernel
theorem dX11_frame_100 : decode cX11_frame 100 = .ok (.iconst (-1), 1) := by decide +kernel
theorem dX11_frame_101 : decode cX11_frame 101 = .ok (.ireturn, 1) := by decide +kernel
theorem dX11_frame_102 : decode cX11_frame 102 = .ok (.iload_n 2, 1) := by decide +kernel
theorem dX11_frame_103 : decode cX11_frame 103 = .ok (.iconst 3, 1) := by decide +kernel
theorem dX11_frame_104 : decode cX11_frame 104 = .ok (.if_icmp .ne 16, 3) := by decide +kernel
theorem dX11_frame_107 : decode cX11_frame 107 = .ok (.aload_n 0, 1) := by decide +kernel
theorem dX11_frame_108 : decode cX11_frame 108 = .ok (.getfield 31, 3) := by decide +kernel
theorem dX11_frame_111 : decode cX11_frame 111 = .ok (.getfield 319, 3) := by decide +kernel
theorem dX11_frame_114 : decode cX11_frame 114 = .ok (.bipush 6, 2) := by decide +kernel
theorem dX11_frame_116 : decode cX11_frame 116 = .ok (.ishr, 1) := by decide +kernel
theorem dX11_frame_117 : decode cX11_frame 117 = .ok (.goto 13, 3) := by decide +kernel
theorem dX11_frame_120 : decode cX11_frame 120 = .ok (.aload_n 0, 1) := by decide +kernel
theorem dX11_frame_121 : decode cX11_frame 121 = .ok (.getfield 31, 3) := by decide +kernel
theorem dX11_frame_124 : decode cX11_frame 124 = .ok (.getfield 319, 3) := by decide +kernel
theorem dX11_frame_127 : decode cX11_frame 127 = .ok (.bipush 15, 2) := by decide +kernel
theorem dX11_frame_129 : decode cX11_frame 129 = .ok (.iand, 1) := by decide +kernel
theorem dX11_frame_130 : decode cX11_frame 130 = .ok (.ireturn, 1) := by decide +kernel
theorem dX11_harm_0 : decode cX11_harm 0 = .ok (.aload_n 0, 1) := by decide +kernel
theorem dX11_harm_1 : decode cX11_harm 1 = .ok (.getfield 112, 3) := by decide +kernel
theorem dX11_harm_4 : decode cX11_harm 4 = .ok (.ifCond .eq 24, 3) := by decide +kernel
theorem dX11_harm_7 : decode cX11_harm 7 = .ok (.aload_n 0, 1) := by decide +kernel
theorem dX11_harm_8 : decode cX11_harm 8 = .ok (.getfield 70, 3) := by decide +kernel
theorem dX11_harm_11 : decode cX11_harm 11 = .ok (.getfield 142, 3) := by decide +kernel
theorem dX11_harm_14 : decode cX11_harm 14 = .ok (.iload_n 1, 1) := by decide +kernel
theorem dX11_harm_15 : decode cX11_harm 15 = .ok (.invokevirtual 204, 3) := by decide +kernel
theorem dX11_harm_18 : decode cX11_harm 18 = .ok (.ifCond .eq 10, 3) := by decide +kernel
theorem dX11_harm_21 : decode cX11_harm 21 = .ok (.iload_n 2, 1) := by decide +kernel
theorem dX11_harm_22 : decode cX11_harm 22 = .ok (.invokestatic 208, 3) := by decide +kernel
theorem dX11_harm_25 : decode cX11_harm 25 = .ok (.ifCond .ne 6, 3) := by decide +kernel
theorem dX11_harm_28 : decode cX11_harm 28 = .ok (.ldc 122, 2) := by decide +kernel
theorem dX11_harm_30 : decode cX11_harm 30 = .ok (.ireturn, 1) := by decide +kernel
theorem dX11_harm_31 : decode cX11_harm 31 = .ok (.aload_n 0, 1) := by decide +kernel
theorem dX11_harm_32 : decode cX11_harm 32 = .ok (.getfield 59, 3) := by decide +kernel
theorem dX11_harm_35 : decode cX11_harm 35 = .ok (.aload_n 0, 1) := by decide +kernel
theorem dX11_harm_36 : decode cX11_harm 36 = .ok (.getfield 70, 3) := by decide +kernel
theorem dX11_harm_39 : decode cX11_harm 39 = .ok (.invokevirtual 322, 3) := by decide +kernel
theorem dX11_harm_42 : decode cX11_harm 42 = .ok (.aload_n 0, 1) := by decide +kernel
theorem dX11_harm_43 : decode cX11_harm 43 = .ok (.getfield 59, 3) := by decide +kernel
theorem dX11_harm_46 : decode cX11_harm 46 = .ok (.sipush 600, 3) := by decide +kernel
theorem dX11_harm_49 : decode cX11_harm 49 = .ok (.aload_n 0, 1) := by decide +kernel
theorem dX11_harm_50 : decode cX11_harm 50 = .ok (.getfield 31, 3) := by decide +kernel
theorem dX11_harm_53 : decode cX11_harm 53 = .ok (.invokevirtual 229, 3) := by decide +kernel
theorem dX11_harm_56 : decode cX11_harm 56 = .ok (.pop, 1) := by decide +kernel
theorem dX11_harm_57 : decode cX11_harm 57 = .ok (.aload_n 0, 1) := by decide +kernel
theorem dX11_harm_58 : decode cX11_harm 58 = .ok (.getfield 59, 3) := by decide +kernel
theorem dX11_harm_61 : decode cX11_harm 61 = .ok (.invokevirtual 324, 3) := by decide +kernel
theorem dX11_harm_64 : decode cX11_harm 64 = .ok (.istore_n 3, 1) := by decide +kernel
theorem dX11_harm_65 : decode cX11_harm 65 = .ok (.aload_n 0, 1) := by decide +kernel
theorem dX11_harm_66 : decode cX11_harm 66 = .ok (.getfield 59, 3) := by decide +kernel
theorem dX11_harm_69 : decode cX11_harm 69 = .ok (.aload_n 0, 1) := by decide +kernel
theorem dX11_harm_70 : decode cX11_harm 70 = .ok (.getfield 70, 3) := by decide +kernel
theorem dX11_harm_73 : decode cX11_harm 73 = .ok (.invokevirtual 322, 3) := by decide +kernel
theorem dX11_harm_76 : decode cX11_harm 76 = .ok (.aload_n 0, 1) := by decide +kernel
theorem dX11_harm_77 : decode cX11_harm 77 = .ok (.getfield 59, 3) := by decide +kernel
theorem dX11_harm_80 : decode cX11_harm 80 = .ok (.getfield 142, 3) := by decide +kernel
theorem dX11_harm_83 : decode cX11_harm 83 = .ok (.iload_n 1, 1) := by decide +kernel
theorem dX11_harm_84 : decode cX11_harm 84 = .ok (.aload_n 0, 1) := by decide +kernel
theorem dX11_harm_85 : decode cX11_harm 85 = .ok (.getfield 70, 3) := by decide +kernel
theorem dX11_harm_88 : decode cX11_harm 88 = .ok (.getfield 142, 3) := by decide +kernel
theorem dX11_harm_91 : decode cX11_harm 91 = .ok (.iload_n 1, 1) := by decide +kernel
theorem dX11_harm_92 : decode cX11_harm 92 = .ok (.invokevirtual 201, 3) := by decide +kernel
theorem dX11_harm_95 : decode cX11_harm 95 = .ok (.iload_n 2, 1) := by decide +kernel
theorem dX11_harm_96 : decode cX11_harm 96 = .ok (.ixor, 1) := by decide +kernel
theorem dX11_harm_97 : decode cX11_harm 97 = .ok (.invokevirtual 211, 3) := by decide +kernel
theorem dX11_harm_100 : decode cX11_harm 100 = .ok (.aload_n 0, 1) := by decide +kernel
theorem dX11_harm_101 : decode cX11_harm 101 = .ok (.getfield 59, 3) := by decide +kernel
theorem dX11_harm_104 : decode cX11_harm 104 = .ok (.sipush 600, 3) := by decide +kernel
theorem dX11_harm_107 : decode cX11_harm 107 = .ok (.aload_n 0, 1) := by decide +kernel
theorem dX11_harm_108 : decode cX11_harm 108 = .ok (.getfield 31, 3) := by decide +kernel
theorem dX11_harm_111 : decode cX11_harm 111 = .ok (.invokevirtual 229, 3) := by decide +kernel
theorem dX11_harm_114 : decode cX11_harm 114 = .ok (.pop, 1) := by decide +kernel
theorem dX11_harm_115 : decode cX11_harm 115 = .ok (.iload_n 3, 1) := by decide +kernel
theorem dX11_harm_116 : decode cX11_harm 116 = .ok (.aload_n 0, 1) := by decide +kernel
theorem dX11_harm_117 : decode cX11_harm 117 = .ok (.getfield 59, 3) := by decide +kernel
theorem dX11_harm_120 : decode cX11_harm 120 = .ok (.invokevirtual 324, 3) := by decide +kernel
theorem dX11_harm_123 : decode cX11_harm 123 = .ok (.isub, 1) := by decide +kernel
theorem dX11_harm_124 : decode cX11_harm 124 = .ok (.ireturn, 1) := by decide +kernel
theorem dX11_blind_0 : decode cX11_blind 0 = .ok (.aload_n 0, 1) := by decide +kernel
theorem dX11_blind_1 : decode cX11_blind 1 = .ok (.getfield 38, 3) := by decide +kernel
theorem dX11_blind_4 : decode cX11_blind 4 = .ok (.aload_n 0, 1) := by decide +kernel
theorem dX11_blind_5 : decode cX11_blind 5 = .ok (.getfield 70, 3) := by decide +kernel
theorem dX11_blind_8 : decode cX11_blind 8 = .ok (.getfield 142, 3) := by decide +kernel
theorem dX11_blind_11 : decode cX11_blind 11 = .ok (.iload_n 1, 1) := by decide +kernel
theorem dX11_blind_12 : decode cX11_blind 12 = .ok (.invokevirtual 305, 3) := by decide +kernel
theorem dX11_blind_15 : decode cX11_blind 15 = .ok (.ifCond .ne 5, 3) := by decide +kernel
theorem dX11_blind_18 : decode cX11_blind 18 = .ok (.iconst (-1), 1) := by decide +kernel
theorem dX11_blind_19 : decode cX11_blind 19 = .ok (.ireturn, 1) := by decide +kernel
theorem dX11_blind_20 : decode cX11_blind 20 = .ok (.aload_n 0, 1) := by decide +kernel
theorem dX11_blind_21 : decode cX11_blind 21 = .ok (.getfield 31, 3) := by decide +kernel
theorem dX11_blind_24 : decode cX11_blind 24 = .ok (.aload_n 0, 1) := by decide +kernel
theorem dX11_blind_25 : decode cX11_blind 25 = .ok (.getfield 70, 3) := by decide +kernel
theorem dX11_blind_28 : decode cX11_blind 28 = .ok (.getfield 142, 3) := by decide +kernel
theorem dX11_blind_31 : decode cX11_blind 31 = .ok (.aload_n 0, 1) := by decide +kernel
theorem dX11_blind_32 : decode cX11_blind 32 = .ok (.getfield 38, 3) := by decide +kernel
theorem dX11_blind_35 : decode cX11_blind 35 = .ok (.getfield 309, 3) := by decide +kernel
theorem dX11_blind_38 : decode cX11_blind 38 = .ok (.aload_n 0, 1) := by decide +kernel
theorem dX11_blind_39 : decode cX11_blind 39 = .ok (.getfield 38, 3) := by decide +kernel
theorem dX11_blind_42 : decode cX11_blind 42 = .ok (.getfield 312, 3) := by decide +kernel
theorem dX11_blind_45 : decode cX11_blind 45 = .ok (.invokevirtual 315, 3) := by decide +kernel
theorem dX11_blind_48 : decode cX11_blind 48 = .ok (.ifCond .eq 6, 3) := by decide +kernel
theorem dX11_blind_51 : decode cX11_blind 51 = .ok (.bipush (-2), 2) := by decide +kernel
theorem dX11_blind_53 : decode cX11_blind 53 = .ok (.ireturn, 1) := by decide +kernel
theorem dX11_blind_54 : decode cX11_blind 54 = .ok (.aload_n 0, 1) := by decide +kernel
theorem dX11_blind_55 : decode cX11_blind 55 = .ok (.getfield 31, 3) := by decide +kernel
theorem dX11_blind_58 : decode cX11_blind 58 = .ok (.aload_n 0, 1) := by decide +kernel
theorem dX11_blind_59 : decode cX11_blind 59 = .ok (.getfield 70, 3) := by decide +kernel
theorem dX11_blind_62 : decode cX11_blind 62 = .ok (.getfield 142, 3) := by decide +kernel
theorem dX11_blind_65 : decode cX11_blind 65 = .ok (.aload_n 0, 1) := by decide +kernel
theorem dX11_blind_66 : decode cX11_blind 66 = .ok (.getfield 38, 3) := by decide +kernel
theorem dX11_blind_69 : decode cX11_blind 69 = .ok (.getfield 309, 3) := by decide +kernel
theorem dX11_blind_72 : decode cX11_blind 72 = .ok (.aload_n 0, 1) := by decide +kernel
theorem dX11_blind_73 : decode cX11_blind 73 = .ok (.getfield 38, 3) := by decide +kernel
theorem dX11_blind_76 : decode cX11_blind 76 = .ok (.getfield 312, 3) := by decide +kernel
theorem dX11_blind_79 : decode cX11_blind 79 = .ok (.invokevirtual 327, 3) := by decide +kernel
theorem dX11_blind_82 : decode cX11_blind 82 = .ok (.ireturn, 1) := by decide +kernel
theorem dX11_cost_0 : decode cX11_cost 0 = .ok (.aload_n 0, 1) := by decide +kernel
theorem dX11_cost_1 : decode cX11_cost 1 = .ok (.getfield 112, 3) := by decide +kernel
theorem dX11_cost_4 : decode cX11_cost 4 = .ok (.ifCond .eq 22, 3) := by decide +kernel
theorem dX11_cost_7 : decode cX11_cost 7 = .ok (.iload_n 1, 1) := by decide +kernel
theorem dX11_cost_8 : decode cX11_cost 8 = .ok (.ifCond .lt 18, 3) := by decide +kernel
theorem dX11_cost_11 : decode cX11_cost 11 = .ok (.iload_n 1, 1) := by decide +kernel
theorem dX11_cost_12 : decode cX11_cost 12 = .ok (.bipush 120, 2) := by decide +kernel
theorem dX11_cost_14 : decode cX11_cost 14 = .ok (.if_icmp .gt 12, 3) := by decide +kernel
theorem dX11_cost_17 : decode cX11_cost 17 = .ok (.iload_n 2, 1) := by decide +kernel
theorem dX11_cost_18 : decode cX11_cost 18 = .ok (.ifCond .lt 8, 3) := by decide +kernel
theorem dX11_cost_21 : decode cX11_cost 21 = .ok (.iload_n 2, 1) := by decide +kernel
theorem dX11_cost_22 : decode cX11_cost 22 = .ok (.iconst 1, 1) := by decide +kernel
theorem dX11_cost_23 : decode cX11_cost 23 = .ok (.if_icmp .le 5, 3) := by decide +kernel
theorem dX11_cost_26 : decode cX11_cost 26 = .ok (.iconst (-1), 1) := by decide +kernel
theorem dX11_cost_27 : decode cX11_cost 27 = .ok (.ireturn, 1) := by decide +kernel
theorem dX11_cost_28 : decode cX11_cost 28 = .ok (.aload_n 0, 1) := by decide +kernel
theorem dX11_cost_29 : decode cX11_cost 29 = .ok (.getfield 31, 3) := by decide +kernel
theorem dX11_cost_32 : decode cX11_cost 32 = .ok (.getfield 90, 3) := by decide +kernel
theorem dX11_cost_35 : decode cX11_cost 35 = .ok (.getfield 141, 3) := by decide +kernel
theorem dX11_cost_38 : decode cX11_cost 38 = .ok (.istore_n 3, 1) := by decide +kernel
theorem dX11_cost_39 : decode cX11_cost 39 = .ok (.iconst 0, 1) := by decide +kernel
theorem dX11_cost_40 : decode cX11_cost 40 = .ok (.istore 4, 2) := by decide +kernel
theorem dX11_cost_42 : decode cX11_cost 42 = .ok (.iconst 0, 1) := by decide +kernel
theorem dX11_cost_43 : decode cX11_cost 43 = .ok (.istore 5, 2) := by decide +kernel
theorem dX11_cost_45 : decode cX11_cost 45 = .ok (.iload_n 1, 1) := by decide +kernel
theorem dX11_cost_46 : decode cX11_cost 46 = .ok (.istore 6, 2) := by decide +kernel
theorem dX11_cost_48 : decode cX11_cost 48 = .ok (.iconst 0, 1) := by decide +kernel
theorem dX11_cost_49 : decode cX11_cost 49 = .ok (.istore 7, 2) := by decide +kernel
theorem dX11_cost_51 : decode cX11_cost 51 = .ok (.iload 7, 2) := by decide +kernel
theorem dX11_cost_53 : decode cX11_cost 53 = .ok (.bipush 120, 2) := by decide +kernel
theorem dX11_cost_55 : decode cX11_cost 55 = .ok (.if_icmp .gt 54, 3) := by decide +kernel
theorem dX11_cost_58 : decode cX11_cost 58 = .ok (.iload 7, 2) := by decide +kernel
theorem dX11_cost_60 : decode cX11_cost 60 = .ok (.ifCond .eq 8, 3) := by decide +kernel
theorem dX11_cost_63 : decode cX11_cost 63 = .ok (.iload 6, 2) := by decide +kernel
theorem dX11_cost_65 : decode cX11_cost 65 = .ok (.ifCond .le 44, 3) := by decide +kernel
theorem dX11_cost_68 : decode cX11_cost 68 = .ok (.iload_n 3, 1) := by decide +kernel
theorem dX11_cost_69 : decode cX11_cost 69 = .ok (.iload 6, 2) := by decide +kernel
theorem dX11_cost_71 : decode cX11_cost 71 = .ok (.invokestatic 330, 3) := by decide +kernel
theorem dX11_cost_74 : decode cX11_cost 74 = .ok (.istore 8, 2) := by decide +kernel
theorem dX11_cost_76 : decode cX11_cost 76 = .ok (.iinc 4 1, 3) := by decide +kernel
theorem dX11_cost_79 : decode cX11_cost 79 = .ok (.iload 5, 2) := by decide +kernel
theorem dX11_cost_81 : decode cX11_cost 81 = .ok (.aload_n 0, 1) := by decide +kernel
theorem dX11_cost_82 : decode cX11_cost 82 = .ok (.getfield 31, 3) := by decide +kernel
theorem dX11_cost_85 : decode cX11_cost 85 = .ok (.getfield 90, 3) := by decide +kernel
theorem dX11_cost_88 : decode cX11_cost 88 = .ok (.iload 8, 2) := by decide +kernel
theorem dX11_cost_90 : decode cX11_cost 90 = .ok (.invokevirtual 157, 3) := by decide +kernel
theorem dX11_cost_93 : decode cX11_cost 93 = .ok (.iadd, 1) := by decide +kernel
theorem dX11_cost_94 : decode cX11_cost 94 = .ok (.istore 5, 2) := by decide +kernel
theorem dX11_cost_96 : decode cX11_cost 96 = .ok (.iload 6, 2) := by decide +kernel
theorem dX11_cost_98 : decode cX11_cost 98 = .ok (.iload 8, 2) := by decide +kernel
theorem dX11_cost_100 : decode cX11_cost 100 = .ok (.isub, 1) := by decide +kernel
theorem dX11_cost_101 : decode cX11_cost 101 = .ok (.istore 6, 2) := by decide +kernel
theorem dX11_cost_103 : decode cX11_cost 103 = .ok (.iinc 7 1, 3) := by decide +kernel
theorem dX11_cost_106 : decode cX11_cost 106 = .ok (.goto (-55), 3) := by decide +kernel
theorem dX11_cost_109 : decode cX11_cost 109 = .ok (.iload_n 2, 1) := by decide +kernel
theorem dX11_cost_110 : decode cX11_cost 110 = .ok (.ifCond .ne 8, 3) := by decide +kernel
theorem dX11_cost_113 : decode cX11_cost 113 = .ok (.iload 4, 2) := by decide +kernel
theorem dX11_cost_115 : decode cX11_cost 115 = .ok (.goto 5, 3) := by decide +kernel
theorem dX11_cost_118 : decode cX11_cost 118 = .ok (.iload 5, 2) := by decide +kernel
theorem dX11_cost_120 : decode cX11_cost 120 = .ok (.ireturn, 1) := by decide +kernel
theorem dX11_share_0 : decode cX11_share 0 = .ok (.aload_n 0, 1) := by decide +kernel
theorem dX11_share_1 : decode cX11_share 1 = .ok (.getfield 70, 3) := by decide +kernel
theorem dX11_share_4 : decode cX11_share 4 = .ok (.iload_n 1, 1) := by decide +kernel
theorem dX11_share_5 : decode cX11_share 5 = .ok (.invokevirtual 171, 3) := by decide +kernel
theorem dX11_share_8 : decode cX11_share 8 = .ok (.ifnull 12, 3) := by decide +kernel
theorem dX11_share_11 : decode cX11_share 11 = .ok (.iload_n 2, 1) := by decide +kernel
theorem dX11_share_12 : decode cX11_share 12 = .ok (.ifCond .lt 8, 3) := by decide +kernel
theorem dX11_share_15 : decode cX11_share 15 = .ok (.iload_n 2, 1) := by decide +kernel
theorem dX11_share_16 : decode cX11_share 16 = .ok (.iconst 3, 1) := by decide +kernel
theorem dX11_share_17 : decode cX11_share 17 = .ok (.if_icmp .le 5, 3) := by decide +kernel
theorem dX11_share_20 : decode cX11_share 20 = .ok (.iconst (-1), 1) := by decide +kernel
theorem dX11_share_21 : decode cX11_share 21 = .ok (.ireturn, 1) := by decide +kernel
theorem dX11_share_22 : decode cX11_share 22 = .ok (.iconst 0, 1) := by decide +kernel
theorem dX11_share_23 : decode cX11_share 23 = .ok (.istore_n 3, 1) := by decide +kernel
theorem dX11_share_24 : decode cX11_share 24 = .ok (.iconst 0, 1) := by decide +kernel
theorem dX11_share_25 : decode cX11_share 25 = .ok (.istore 4, 2) := by decide +kernel
theorem dX11_share_27 : decode cX11_share 27 = .ok (.iconst 0, 1) := by decide +kernel
theorem dX11_share_28 : decode cX11_share 28 = .ok (.istore 5, 2) := by decide +kernel
theorem dX11_share_30 : decode cX11_share 30 = .ok (.iconst 0, 1) := by decide +kernel
theorem dX11_share_31 : decode cX11_share 31 = .ok (.istore 6, 2) := by decide +kernel
theorem dX11_share_33 : decode cX11_share 33 = .ok (.iconst (-1), 1) := by decide +kernel
theorem dX11_share_34 : decode cX11_share 34 = .ok (.istore 7, 2) := by decide +kernel
theorem dX11_share_36 : decode cX11_share 36 = .ok (.aload_n 0, 1) := by decide +kernel
theorem dX11_share_37 : decode cX11_share 37 = .ok (.getfield 38, 3) := by decide +kernel
theorem dX11_share_40 : decode cX11_share 40 = .ok (.invokevirtual 161, 3) := by decide +kernel
theorem dX11_share_43 : decode cX11_share 43 = .ok (.iconst 0, 1) := by decide +kernel
theorem dX11_share_44 : decode cX11_share 44 = .ok (.istore 8, 2) := by decide +kernel
theorem dX11_share_46 : decode cX11_share 46 = .ok (.iload 8, 2) := by decide +kernel
theorem dX11_share_48 : decode cX11_share 48 = .ok (.sipush 600, 3) := by decide +kernel
theorem dX11_share_51 : decode cX11_share 51 = .ok (.if_icmp .ge 141, 3) := by decide +kernel
theorem dX11_share_54 : decode cX11_share 54 = .ok (.aload_n 0, 1) := by decide +kernel
theorem dX11_share_55 : decode cX11_share 55 = .ok (.getfield 38, 3) := by decide +kernel
theorem dX11_share_58 : decode cX11_share 58 = .ok (.aload_n 0, 1) := by decide +kernel
theorem dX11_share_59 : decode cX11_share 59 = .ok (.getfield 70, 3) := by decide +kernel
theorem dX11_share_62 : decode cX11_share 62 = .ok (.getfield 142, 3) := by decide +kernel
theorem dX11_share_65 : decode cX11_share 65 = .ok (.invokevirtual 164, 3) := by decide +kernel
theorem dX11_share_68 : decode cX11_share 68 = .ok (.ifCond .eq 124, 3) := by decide +kernel
theorem dX11_share_71 : decode cX11_share 71 = .ok (.aload_n 0, 1) := by decide +kernel
theorem dX11_share_72 : decode cX11_share 72 = .ok (.getfield 31, 3) := by decide +kernel
theorem dX11_share_75 : decode cX11_share 75 = .ok (.aload_n 0, 1) := by decide +kernel
theorem dX11_share_76 : decode cX11_share 76 = .ok (.getfield 70, 3) := by decide +kernel
theorem dX11_share_79 : decode cX11_share 79 = .ok (.getfield 142, 3) := by decide +kernel
theorem dX11_share_82 : decode cX11_share 82 = .ok (.aload_n 0, 1) := by decide +kernel
theorem dX11_share_83 : decode cX11_share 83 = .ok (.getfield 38, 3) := by decide +kernel
theorem dX11_share_86 : decode cX11_share 86 = .ok (.getfield 309, 3) := by decide +kernel
theorem dX11_share_89 : decode cX11_share 89 = .ok (.aload_n 0, 1) := by decide +kernel
theorem dX11_share_90 : decode cX11_share 90 = .ok (.getfield 38, 3) := by decide +kernel
theorem dX11_share_93 : decode cX11_share 93 = .ok (.getfield 312, 3) := by decide +kernel
theorem dX11_share_96 : decode cX11_share 96 = .ok (.invokevirtual 315, 3) := by decide +kernel
theorem dX11_share_99 : decode cX11_share 99 = .ok (.ifCond .ne 87, 3) := by decide +kernel
theorem dX11_share_102 : decode cX11_share 102 = .ok (.aload_n 0, 1) := by decide +kernel
theorem dX11_share_103 : decode cX11_share 103 = .ok (.getfield 31, 3) := by decide +kernel
theorem dX11_share_106 : decode cX11_share 106 = .ok (.getfield 319, 3) := by decide +kernel
theorem dX11_share_109 : decode cX11_share 109 = .ok (.bipush 6, 2) := by decide +kernel
theorem dX11_share_111 : decode cX11_share 111 = .ok (.ishr, 1) := by decide +kernel
theorem dX11_share_112 : decode cX11_share 112 = .ok (.iload_n 1, 1) := by decide +kernel
theorem dX11_share_113 : decode cX11_share 113 = .ok (.if_icmp .ne 73, 3) := by decide +kernel
theorem dX11_share_116 : decode cX11_share 116 = .ok (.aload_n 0, 1) := by decide +kernel
theorem dX11_share_117 : decode cX11_share 117 = .ok (.getfield 31, 3) := by decide +kernel
theorem dX11_share_120 : decode cX11_share 120 = .ok (.getfield 319, 3) := by decide +kernel
theorem dX11_share_123 : decode cX11_share 123 = .ok (.bipush 15, 2) := by decide +kernel
theorem dX11_share_125 : decode cX11_share 125 = .ok (.iand, 1) := by decide +kernel
theorem dX11_share_126 : decode cX11_share 126 = .ok (.istore 9, 2) := by decide +kernel
theorem dX11_share_128 : decode cX11_share 128 = .ok (.iload 5, 2) := by decide +kernel
theorem dX11_share_130 : decode cX11_share 130 = .ok (.iload 7, 2) := by decide +kernel
theorem dX11_share_132 : decode cX11_share 132 = .ok (.iconst (-1), 1) := by decide +kernel
theorem dX11_share_133 : decode cX11_share 133 = .ok (.if_icmp .ne 7, 3) := by decide +kernel
theorem dX11_share_136 : decode cX11_share 136 = .ok (.iconst 0, 1) := by decide +kernel
theorem dX11_share_137 : decode cX11_share 137 = .ok (.goto 13, 3) := by decide +kernel
theorem dX11_share_140 : decode cX11_share 140 = .ok (.iload 9, 2) := by decide +kernel
theorem dX11_share_142 : decode cX11_share 142 = .ok (.iload 7, 2) := by decide +kernel
theorem dX11_share_144 : decode cX11_share 144 = .ok (.isub, 1) := by decide +kernel
theorem dX11_share_145 : decode cX11_share 145 = .ok (.iconst 1, 1) := by decide +kernel
theorem dX11_share_146 : decode cX11_share 146 = .ok (.isub, 1) := by decide +kernel
theorem dX11_share_147 : decode cX11_share 147 = .ok (.bipush 15, 2) := by decide +kernel
theorem dX11_share_149 : decode cX11_share 149 = .ok (.iand, 1) := by decide +kernel
theorem dX11_share_150 : decode cX11_share 150 = .ok (.iadd, 1) := by decide +kernel
theorem dX11_share_151 : decode cX11_share 151 = .ok (.istore 5, 2) := by decide +kernel
theorem dX11_share_153 : decode cX11_share 153 = .ok (.iload 9, 2) := by decide +kernel
theorem dX11_share_155 : decode cX11_share 155 = .ok (.istore 7, 2) := by decide +kernel
theorem dX11_share_157 : decode cX11_share 157 = .ok (.iinc 3 1, 3) := by decide +kernel
theorem dX11_share_160 : decode cX11_share 160 = .ok (.iload 4, 2) := by decide +kernel
theorem dX11_share_162 : decode cX11_share 162 = .ok (.aload_n 0, 1) := by decide +kernel
theorem dX11_share_163 : decode cX11_share 163 = .ok (.getfield 38, 3) := by decide +kernel
theorem dX11_share_166 : decode cX11_share 166 = .ok (.getfield 312, 3) := by decide +kernel
theorem dX11_share_169 : decode cX11_share 169 = .ok (.iconst 1, 1) := by decide +kernel
theorem dX11_share_170 : decode cX11_share 170 = .ok (.iadd, 1) := by decide +kernel
theorem dX11_share_171 : decode cX11_share 171 = .ok (.iadd, 1) := by decide +kernel
theorem dX11_share_172 : decode cX11_share 172 = .ok (.istore 4, 2) := by decide +kernel
theorem dX11_share_174 : decode cX11_share 174 = .ok (.iload 6, 2) := by decide +kernel
theorem dX11_share_176 : decode cX11_share 176 = .ok (.aload_n 0, 1) := by decide +kernel
theorem dX11_share_177 : decode cX11_share 177 = .ok (.getfield 31, 3) := by decide +kernel
theorem dX11_share_180 : decode cX11_share 180 = .ok (.getfield 336, 3) := by decide +kernel
theorem dX11_share_183 : decode cX11_share 183 = .ok (.iadd, 1) := by decide +kernel
theorem dX11_share_184 : decode cX11_share 184 = .ok (.istore 6, 2) := by decide +kernel
theorem dX11_share_186 : decode cX11_share 186 = .ok (.iinc 8 1, 3) := by decide +kernel
theorem dX11_share_189 : decode cX11_share 189 = .ok (.goto (-143), 3) := by decide +kernel
theorem dX11_share_192 : decode cX11_share 192 = .ok (.iload_n 2, 1) := by decide +kernel
theorem dX11_share_193 : decode cX11_share 193 = .ok (.tableswitch 35 0 2 #[27, 29, 32], 27) := by decide +kernel
theorem dX11_share_220 : decode cX11_share 220 = .ok (.iload_n 3, 1) := by decide +kernel
theorem dX11_share_221 : decode cX11_share 221 = .ok (.ireturn, 1) := by decide +kernel
theorem dX11_share_222 : decode cX11_share 222 = .ok (.iload 4, 2) := by decide +kernel
theorem dX11_share_224 : decode cX11_share 224 = .ok (.ireturn, 1) := by decide +kernel
theorem dX11_share_225 : decode cX11_share 225 = .ok (.iload 5, 2) := by decide +kernel
theorem dX11_share_227 : decode cX11_share 227 = .ok (.ireturn, 1) := by decide +kernel
theorem dX11_share_228 : decode cX11_share 228 = .ok (.iload 6, 2) := by decide +kernel
theorem dX11_share_230 : decode cX11_share 230 = .ok (.ireturn, 1) := by decide +kernel
theorem dX11_flushed_0 : decode cX11_flushed 0 = .ok (.aload_n 0, 1) := by decide +kernel
theorem dX11_flushed_1 : decode cX11_flushed 1 = .ok (.getfield 112, 3) := by decide +kernel
theorem dX11_flushed_4 : decode cX11_flushed 4 = .ok (.ifCond .eq 12, 3) := by decide +kernel
theorem dX11_flushed_7 : decode cX11_flushed 7 = .ok (.iload_n 1, 1) := by decide +kernel
theorem dX11_flushed_8 : decode cX11_flushed 8 = .ok (.ifCond .lt 8, 3) := by decide +kernel
theorem dX11_flushed_11 : decode cX11_flushed 11 = .ok (.iload_n 1, 1) := by decide +kernel
theorem dX11_flushed_12 : decode cX11_flushed 12 = .ok (.iconst 4, 1) := by decide +kernel
theorem dX11_flushed_13 : decode cX11_flushed 13 = .ok (.if_icmp .le 5, 3) := by decide +kernel
theorem dX11_flushed_16 : decode cX11_flushed 16 = .ok (.iconst (-1), 1) := by decide +kernel
theorem dX11_flushed_17 : decode cX11_flushed 17 = .ok (.ireturn, 1) := by decide +kernel
theorem dX11_flushed_18 : decode cX11_flushed 18 = .ok (.aload_n 0, 1) := by decide +kernel
theorem dX11_flushed_19 : decode cX11_flushed 19 = .ok (.getfield 59, 3) := by decide +kernel
theorem dX11_flushed_22 : decode cX11_flushed 22 = .ok (.aload_n 0, 1) := by decide +kernel
theorem dX11_flushed_23 : decode cX11_flushed 23 = .ok (.getfield 70, 3) := by decide +kernel
theorem dX11_flushed_26 : decode cX11_flushed 26 = .ok (.invokevirtual 322, 3) := by decide +kernel
theorem dX11_flushed_29 : decode cX11_flushed 29 = .ok (.iconst 1, 1) := by decide +kernel
theorem dX11_flushed_30 : decode cX11_flushed 30 = .ok (.istore_n 2, 1) := by decide +kernel
theorem dX11_flushed_31 : decode cX11_flushed 31 = .ok (.iconst 0, 1) := by decide +kernel
theorem dX11_flushed_32 : decode cX11_flushed 32 = .ok (.istore_n 3, 1) := by decide +kernel
theorem dX11_flushed_33 : decode cX11_flushed 33 = .ok (.iload_n 2, 1) := by decide +kernel
theorem dX11_flushed_34 : decode cX11_flushed 34 = .ok (.ifCond .eq 70, 3) := by decide +kernel
theorem dX11_flushed_37 : decode cX11_flushed 37 = .ok (.iload_n 3, 1) := by decide +kernel
theorem dX11_flushed_38 : decode cX11_flushed 38 = .ok (.sipush 600, 3) := by decide +kernel
theorem dX11_flushed_41 : decode cX11_flushed 41 = .ok (.if_icmp .gt 63, 3) := by decide +kernel
theorem dX11_flushed_44 : decode cX11_flushed 44 = .ok (.aload_n 0, 1) := by decide +kernel
theorem dX11_flushed_45 : decode cX11_flushed 45 = .ok (.getfield 59, 3) := by decide +kernel
theorem dX11_flushed_48 : decode cX11_flushed 48 = .ok (.bipush 60, 2) := by decide +kernel
theorem dX11_flushed_50 : decode cX11_flushed 50 = .ok (.aload_n 0, 1) := by decide +kernel
theorem dX11_flushed_51 : decode cX11_flushed 51 = .ok (.getfield 31, 3) := by decide +kernel
theorem dX11_flushed_54 : decode cX11_flushed 54 = .ok (.invokevirtual 197, 3) := by decide +kernel
theorem dX11_flushed_57 : decode cX11_flushed 57 = .ok (.istore 4, 2) := by decide +kernel
theorem dX11_flushed_59 : decode cX11_flushed 59 = .ok (.iload 4, 2) := by decide +kernel
theorem dX11_flushed_61 : decode cX11_flushed 61 = .ok (.ifCond .gt 16, 3) := by decide +kernel
theorem dX11_flushed_64 : decode cX11_flushed 64 = .ok (.aload_n 0, 1) := by decide +kernel
theorem dX11_flushed_65 : decode cX11_flushed 65 = .ok (.getfield 59, 3) := by decide +kernel
theorem dX11_flushed_68 : decode cX11_flushed 68 = .ok (.getfield 142, 3) := by decide +kernel
theorem dX11_flushed_71 : decode cX11_flushed 71 = .ok (.getfield 76, 3) := by decide +kernel
theorem dX11_flushed_74 : decode cX11_flushed 74 = .ok (.ifCond .le 7, 3) := by decide +kernel
theorem dX11_flushed_77 : decode cX11_flushed 77 = .ok (.iconst 1, 1) := by decide +kernel
theorem dX11_flushed_78 : decode cX11_flushed 78 = .ok (.goto 4, 3) := by decide +kernel
theorem dX11_flushed_81 : decode cX11_flushed 81 = .ok (.iconst 0, 1) := by decide +kernel
theorem dX11_flushed_82 : decode cX11_flushed 82 = .ok (.istore_n 2, 1) := by decide +kernel
theorem dX11_flushed_83 : decode cX11_flushed 83 = .ok (.aload_n 0, 1) := by decide +kernel
theorem dX11_flushed_84 : decode cX11_flushed 84 = .ok (.getfield 59, 3) := by decide +kernel
theorem dX11_flushed_87 : decode cX11_flushed 87 = .ok (.sipush 600, 3) := by decide +kernel
theorem dX11_flushed_90 : decode cX11_flushed 90 = .ok (.aload_n 0, 1) := by decide +kernel
theorem dX11_flushed_91 : decode cX11_flushed 91 = .ok (.getfield 31, 3) := by decide +kernel
theorem dX11_flushed_94 : decode cX11_flushed 94 = .ok (.invokevirtual 229, 3) := by decide +kernel
theorem dX11_flushed_97 : decode cX11_flushed 97 = .ok (.pop, 1) := by decide +kernel
theorem dX11_flushed_98 : decode cX11_flushed 98 = .ok (.iinc 3 1, 3) := by decide +kernel
theorem dX11_flushed_101 : decode cX11_flushed 101 = .ok (.goto (-68), 3) := by decide +kernel
theorem dX11_flushed_104 : decode cX11_flushed 104 = .ok (.iload_n 1, 1) := by decide +kernel
theorem dX11_flushed_105 : decode cX11_flushed 105 = .ok (.tableswitch 63 0 3 #[31, 39, 47, 55], 31) := by decide +kernel
theorem dX11_flushed_136 : decode cX11_flushed 136 = .ok (.aload_n 0, 1) := by decide +kernel
theorem dX11_flushed_137 : decode cX11_flushed 137 = .ok (.getfield 59, 3) := by decide +kernel
theorem dX11_flushed_140 : decode cX11_flushed 140 = .ok (.invokevirtual 324, 3) := by decide +kernel
theorem dX11_flushed_143 : decode cX11_flushed 143 = .ok (.ireturn, 1) := by decide +kernel
theorem dX11_flushed_144 : decode cX11_flushed 144 = .ok (.aload_n 0, 1) := by decide +kernel
theorem dX11_flushed_145 : decode cX11_flushed 145 = .ok (.getfield 59, 3) := by decide +kernel
theorem dX11_flushed_148 : decode cX11_flushed 148 = .ok (.invokevirtual 339, 3) := by decide +kernel
theorem dX11_flushed_151 : decode cX11_flushed 151 = .ok (.ireturn, 1) := by decide +kernel
theorem dX11_flushed_152 : decode cX11_flushed 152 = .ok (.aload_n 0, 1) := by decide +kernel
theorem dX11_flushed_153 : decode cX11_flushed 153 = .ok (.getfield 59, 3) := by decide +kernel
theorem dX11_flushed_156 : decode cX11_flushed 156 = .ok (.invokevirtual 342, 3) := by decide +kernel
theorem dX11_flushed_159 : decode cX11_flushed 159 = .ok (.ireturn, 1) := by decide +kernel
theorem dX11_flushed_160 : decode cX11_flushed 160 = .ok (.aload_n 0, 1) := by decide +kernel
theorem dX11_flushed_161 : decode cX11_flushed 161 = .ok (.getfield 59, 3) := by decide +kernel
theorem dX11_flushed_164 : decode cX11_flushed 164 = .ok (.invokevirtual 345, 3) := by decide +kernel
theorem dX11_flushed_167 : decode cX11_flushed 167 = .ok (.ireturn, 1) := by decide +kernel
theorem dX11_flushed_168 : decode cX11_flushed 168 = .ok (.aload_n 0, 1) := by decide +kernel
theorem dX11_flushed_169 : decode cX11_flushed 169 = .ok (.getfield 59, 3) := by decide +kernel
theorem dX11_flushed_172 : decode cX11_flushed 172 = .ok (.getfield 151, 3) := by decide +kernel
theorem dX11_flushed_175 : decode cX11_flushed 175 = .ok (.aload_n 0, 1) := by decide +kernel
theorem dX11_flushed_176 : decode cX11_flushed 176 = .ok (.getfield 70, 3) := by decide +kernel
theorem dX11_flushed_179 : decode cX11_flushed 179 = .ok (.getfield 151, 3) := by decide +kernel
theorem dX11_flushed_182 : decode cX11_flushed 182 = .ok (.isub, 1) := by decide +kernel
theorem dX11_flushed_183 : decode cX11_flushed 183 = .ok (.ireturn, 1) := by decide +kernel
theorem dX11_undo_0 : decode cX11_undo 0 = .ok (.aload_n 0, 1) := by decide +kernel
theorem dX11_undo_1 : decode cX11_undo 1 = .ok (.getfield 52, 3) := by decide +kernel
theorem dX11_undo_4 : decode cX11_undo 4 = .ok (.getfield 348, 3) := by decide +kernel
theorem dX11_undo_7 : decode cX11_undo 7 = .ok (.ifCond .ne 5, 3) := by decide +kernel
theorem dX11_undo_10 : decode cX11_undo 10 = .ok (.iconst (-1), 1) := by decide +kernel
theorem dX11_undo_11 : decode cX11_undo 11 = .ok (.ireturn, 1) := by decide +kernel
theorem dX11_undo_12 : decode cX11_undo 12 = .ok (.aload_n 0, 1) := by decide +kernel
theorem dX11_undo_13 : decode cX11_undo 13 = .ok (.aload_n 0, 1) := by decide +kernel
theorem dX11_undo_14 : decode cX11_undo 14 = .ok (.getfield 52, 3) := by decide +kernel
theorem dX11_undo_17 : decode cX11_undo 17 = .ok (.aload_n 0, 1) := by decide +kernel
theorem dX11_undo_18 : decode cX11_undo 18 = .ok (.getfield 70, 3) := by decide +kernel
theorem dX11_undo_21 : decode cX11_undo 21 = .ok (.invokevirtual 350, 3) := by decide +kernel
theorem dX11_undo_24 : decode cX11_undo 24 = .ok (.putfield 70, 3) := by decide +kernel
theorem dX11_undo_27 : decode cX11_undo 27 = .ok (.aload_n 0, 1) := by decide +kernel
theorem dX11_undo_28 : decode cX11_undo 28 = .ok (.getfield 52, 3) := by decide +kernel
theorem dX11_undo_31 : decode cX11_undo 31 = .ok (.getfield 348, 3) := by decide +kernel
theorem dX11_undo_34 : decode cX11_undo 34 = .ok (.ireturn, 1) := by decide +kernel
theorem dX11_image_0 : decode cX11_image 0 = .ok (.aload_n 0, 1) := by decide +kernel
theorem dX11_image_1 : decode cX11_image 1 = .ok (.getfield 112, 3) := by decide +kernel
theorem dX11_image_4 : decode cX11_image 4 = .ok (.ifCond .ne 5, 3) := by decide +kernel
theorem dX11_image_7 : decode cX11_image 7 = .ok (.iconst (-1), 1) := by decide +kernel
theorem dX11_image_8 : decode cX11_image 8 = .ok (.ireturn, 1) := by decide +kernel
theorem dX11_image_9 : decode cX11_image 9 = .ok (.aload_n 0, 1) := by decide +kernel
theorem dX11_image_10 : decode cX11_image 10 = .ok (.getfield 63, 3) := by decide +kernel
theorem dX11_image_13 : decode cX11_image 13 = .ok (.aload_n 0, 1) := by decide +kernel
theorem dX11_image_14 : decode cX11_image 14 = .ok (.getfield 70, 3) := by decide +kernel
theorem dX11_image_17 : decode cX11_image 17 = .ok (.invokevirtual 322, 3) := by decide +kernel
theorem dX11_image_20 : decode cX11_image 20 = .ok (.aload_n 0, 1) := by decide +kernel
theorem dX11_image_21 : decode cX11_image 21 = .ok (.iconst 1, 1) := by decide +kernel
theorem dX11_image_22 : decode cX11_image 22 = .ok (.putfield 116, 3) := by decide +kernel
theorem dX11_image_25 : decode cX11_image 25 = .ok (.aload_n 0, 1) := by decide +kernel
theorem dX11_image_26 : decode cX11_image 26 = .ok (.getfield 70, 3) := by decide +kernel
theorem dX11_image_29 : decode cX11_image 29 = .ok (.getfield 142, 3) := by decide +kernel
theorem dX11_image_32 : decode cX11_image 32 = .ok (.getfield 76, 3) := by decide +kernel
theorem dX11_image_35 : decode cX11_image 35 = .ok (.ireturn, 1) := by decide +kernel
theorem dX11_back_0 : decode cX11_back 0 = .ok (.aload_n 0, 1) := by decide +kernel
theorem dX11_back_1 : decode cX11_back 1 = .ok (.getfield 116, 3) := by decide +kernel
theorem dX11_back_4 : decode cX11_back 4 = .ok (.ifCond .ne 5, 3) := by decide +kernel
theorem dX11_back_7 : decode cX11_back 7 = .ok (.iconst (-1), 1) := by decide +kernel
theorem dX11_back_8 : decode cX11_back 8 = .ok (.ireturn, 1) := by decide +kernel
theorem dX11_back_9 : decode cX11_back 9 = .ok (.aload_n 0, 1) := by decide +kernel
theorem dX11_back_10 : decode cX11_back 10 = .ok (.getfield 70, 3) := by decide +kernel
theorem dX11_back_13 : decode cX11_back 13 = .ok (.aload_n 0, 1) := by decide +kernel
theorem dX11_back_14 : decode cX11_back 14 = .ok (.getfield 63, 3) := by decide +kernel
theorem dX11_back_17 : decode cX11_back 17 = .ok (.invokevirtual 322, 3) := by decide +kernel
theorem dX11_back_20 : decode cX11_back 20 = .ok (.aload_n 0, 1) := by decide +kernel
theorem dX11_back_21 : decode cX11_back 21 = .ok (.getfield 52, 3) := by decide +kernel
theorem dX11_back_24 : decode cX11_back 24 = .ok (.invokevirtual 106, 3) := by decide +kernel
theorem dX11_back_27 : decode cX11_back 27 = .ok (.aload_n 0, 1) := by decide +kernel
theorem dX11_back_28 : decode cX11_back 28 = .ok (.getfield 70, 3) := by decide +kernel
theorem dX11_back_31 : decode cX11_back 31 = .ok (.getfield 142, 3) := by decide +kernel
theorem dX11_back_34 : decode cX11_back 34 = .ok (.getfield 76, 3) := by decide +kernel
theorem dX11_back_37 : decode cX11_back 37 = .ok (.ireturn, 1) := by decide +kernel
theorem dX11_status_0 : decode cX11_status 0 = .ok (.iload_n 1, 1) := by decide +kernel
theorem dX11_status_1 : decode cX11_status 1 = .ok (.ifCond .lt 21, 3) := by decide +kernel
theorem dX11_status_4 : decode cX11_status 4 = .ok (.iload_n 1, 1) := by decide +kernel
theorem dX11_status_5 : decode cX11_status 5 = .ok (.aload_n 0, 1) := by decide +kernel
theorem dX11_status_6 : decode cX11_status 6 = .ok (.getfield 66, 3) := by decide +kernel
theorem dX11_status_9 : decode cX11_status 9 = .ok (.arraylength, 1) := by decide +kernel
theorem dX11_status_10 : decode cX11_status 10 = .ok (.if_icmp .ge 12, 3) := by decide +kernel
theorem dX11_status_13 : decode cX11_status 13 = .ok (.aload_n 0, 1) := by decide +kernel
theorem dX11_status_14 : decode cX11_status 14 = .ok (.getfield 66, 3) := by decide +kernel
theorem dX11_status_17 : decode cX11_status 17 = .ok (.iload_n 1, 1) := by decide +kernel
theorem dX11_status_18 : decode cX11_status 18 = .ok (.iaload, 1) := by decide +kernel
theorem dX11_status_19 : decode cX11_status 19 = .ok (.goto 4, 3) := by decide +kernel
theorem dX11_status_22 : decode cX11_status 22 = .ok (.iconst (-1), 1) := by decide +kernel
theorem dX11_status_23 : decode cX11_status 23 = .ok (.ireturn, 1) := by decide +kernel
theorem dX11_most_0 : decode cX11_most 0 = .ok (.aload_n 0, 1) := by decide +kernel
theorem dX11_most_1 : decode cX11_most 1 = .ok (.getfield 112, 3) := by decide +kernel
theorem dX11_most_4 : decode cX11_most 4 = .ok (.ifCond .ne 6, 3) := by decide +kernel
theorem dX11_most_7 : decode cX11_most 7 = .ok (.ldc 122, 2) := by decide +kernel
theorem dX11_most_9 : decode cX11_most 9 = .ok (.ireturn, 1) := by decide +kernel
theorem dX11_most_10 : decode cX11_most 10 = .ok (.iload_n 1, 1) := by decide +kernel
theorem dX11_most_11 : decode cX11_most 11 = .ok (.tableswitch 85 0 5 #[37, 45, 53, 61, 66, 74], 37) := by decide +kernel
theorem dX11_most_48 : decode cX11_most 48 = .ok (.aload_n 0, 1) := by decide +kernel
theorem dX11_most_49 : decode cX11_most 49 = .ok (.getfield 70, 3) := by decide +kernel
theorem dX11_most_52 : decode cX11_most 52 = .ok (.invokevirtual 354, 3) := by decide +kernel
theorem dX11_most_55 : decode cX11_most 55 = .ok (.ireturn, 1) := by decide +kernel
theorem dX11_most_56 : decode cX11_most 56 = .ok (.aload_n 0, 1) := by decide +kernel
theorem dX11_most_57 : decode cX11_most 57 = .ok (.getfield 70, 3) := by decide +kernel
theorem dX11_most_60 : decode cX11_most 60 = .ok (.invokevirtual 357, 3) := by decide +kernel
theorem dX11_most_63 : decode cX11_most 63 = .ok (.ireturn, 1) := by decide +kernel
theorem dX11_most_64 : decode cX11_most 64 = .ok (.aload_n 0, 1) := by decide +kernel
theorem dX11_most_65 : decode cX11_most 65 = .ok (.getfield 70, 3) := by decide +kernel
theorem dX11_most_68 : decode cX11_most 68 = .ok (.invokevirtual 360, 3) := by decide +kernel
theorem dX11_most_71 : decode cX11_most 71 = .ok (.ireturn, 1) := by decide +kernel
theorem dX11_most_72 : decode cX11_most 72 = .ok (.aload_n 0, 1) := by decide +kernel
theorem dX11_most_73 : decode cX11_most 73 = .ok (.invokevirtual 363, 3) := by decide +kernel
theorem dX11_most_76 : decode cX11_most 76 = .ok (.ireturn, 1) := by decide +kernel
theorem dX11_most_77 : decode cX11_most 77 = .ok (.aload_n 0, 1) := by decide +kernel
theorem dX11_most_78 : decode cX11_most 78 = .ok (.getfield 70, 3) := by decide +kernel
theorem dX11_most_81 : decode cX11_most 81 = .ok (.invokevirtual 366, 3) := by decide +kernel
theorem dX11_most_84 : decode cX11_most 84 = .ok (.ireturn, 1) := by decide +kernel
theorem dX11_most_85 : decode cX11_most 85 = .ok (.aload_n 0, 1) := by decide +kernel
theorem dX11_most_86 : decode cX11_most 86 = .ok (.getfield 70, 3) := by decide +kernel
theorem dX11_most_89 : decode cX11_most 89 = .ok (.getfield 142, 3) := by decide +kernel
theorem dX11_most_92 : decode cX11_most 92 = .ok (.invokevirtual 369, 3) := by decide +kernel
theorem dX11_most_95 : decode cX11_most 95 = .ok (.ireturn, 1) := by decide +kernel
theorem dX11_most_96 : decode cX11_most 96 = .ok (.ldc 122, 2) := by decide +kernel
theorem dX11_most_98 : decode cX11_most 98 = .ok (.ireturn, 1) := by decide +kernel
theorem dX11_longestFrame_0 : decode cX11_longestFrame 0 = .ok (.iconst 0, 1) := by decide +kernel
theorem dX11_longestFrame_1 : decode cX11_longestFrame 1 = .ok (.istore_n 1, 1) := by decide +kernel
theorem dX11_longestFrame_2 : decode cX11_longestFrame 2 = .ok (.aload_n 0, 1) := by decide +kernel
theorem dX11_longestFrame_3 : decode cX11_longestFrame 3 = .ok (.getfield 38, 3) := by decide +kernel
theorem dX11_longestFrame_6 : decode cX11_longestFrame 6 = .ok (.invokevirtual 161, 3) := by decide +kernel
theorem dX11_longestFrame_9 : decode cX11_longestFrame 9 = .ok (.iconst 0, 1) := by decide +kernel
theorem dX11_longestFrame_10 : decode cX11_longestFrame 10 = .ok (.istore_n 2, 1) := by decide +kernel
theorem dX11_longestFrame_11 : decode cX11_longestFrame 11 = .ok (.iload_n 2, 1) := by decide +kernel
theorem dX11_longestFrame_12 : decode cX11_longestFrame 12 = .ok (.sipush 600, 3) := by decide +kernel
theorem dX11_longestFrame_15 : decode cX11_longestFrame 15 = .ok (.if_icmp .ge 38, 3) := by decide +kernel
theorem dX11_longestFrame_18 : decode cX11_longestFrame 18 = .ok (.aload_n 0, 1) := by decide +kernel
theorem dX11_longestFrame_19 : decode cX11_longestFrame 19 = .ok (.getfield 38, 3) := by decide +kernel
theorem dX11_longestFrame_22 : decode cX11_longestFrame 22 = .ok (.aload_n 0, 1) := by decide +kernel
theorem dX11_longestFrame_23 : decode cX11_longestFrame 23 = .ok (.getfield 70, 3) := by decide +kernel
theorem dX11_longestFrame_26 : decode cX11_longestFrame 26 = .ok (.getfield 142, 3) := by decide +kernel
theorem dX11_longestFrame_29 : decode cX11_longestFrame 29 = .ok (.invokevirtual 164, 3) := by decide +kernel
theorem dX11_longestFrame_32 : decode cX11_longestFrame 32 = .ok (.ifCond .eq 21, 3) := by decide +kernel
theorem dX11_longestFrame_35 : decode cX11_longestFrame 35 = .ok (.iload_n 1, 1) := by decide +kernel
theorem dX11_longestFrame_36 : decode cX11_longestFrame 36 = .ok (.aload_n 0, 1) := by decide +kernel
theorem dX11_longestFrame_37 : decode cX11_longestFrame 37 = .ok (.getfield 38, 3) := by decide +kernel
theorem dX11_longestFrame_40 : decode cX11_longestFrame 40 = .ok (.getfield 312, 3) := by decide +kernel
theorem dX11_longestFrame_43 : decode cX11_longestFrame 43 = .ok (.invokestatic 372, 3) := by decide +kernel
theorem dX11_longestFrame_46 : decode cX11_longestFrame 46 = .ok (.istore_n 1, 1) := by decide +kernel
theorem dX11_longestFrame_47 : decode cX11_longestFrame 47 = .ok (.iinc 2 1, 3) := by decide +kernel
theorem dX11_longestFrame_50 : decode cX11_longestFrame 50 = .ok (.goto (-39), 3) := by decide +kernel
theorem dX11_longestFrame_53 : decode cX11_longestFrame 53 = .ok (.iload_n 1, 1) := by decide +kernel
theorem dX11_longestFrame_54 : decode cX11_longestFrame 54 = .ok (.ireturn, 1) := by decide +kernel
theorem dX11_count_0 : decode cX11_count 0 = .ok (.iload_n 1, 1) := by decide +kernel
theorem dX11_count_1 : decode cX11_count 1 = .ok (.tableswitch 66 0 3 #[31, 42, 50, 58], 31) := by decide +kernel
theorem dX11_count_32 : decode cX11_count 32 = .ok (.aload_n 0, 1) := by decide +kernel
theorem dX11_count_33 : decode cX11_count 33 = .ok (.getfield 12, 3) := by decide +kernel
theorem dX11_count_36 : decode cX11_count 36 = .ok (.getfield 73, 3) := by decide +kernel
theorem dX11_count_39 : decode cX11_count 39 = .ok (.getfield 76, 3) := by decide +kernel
theorem dX11_count_42 : decode cX11_count 42 = .ok (.ireturn, 1) := by decide +kernel
theorem dX11_count_43 : decode cX11_count 43 = .ok (.aload_n 0, 1) := by decide +kernel
theorem dX11_count_44 : decode cX11_count 44 = .ok (.getfield 52, 3) := by decide +kernel
theorem dX11_count_47 : decode cX11_count 47 = .ok (.getfield 348, 3) := by decide +kernel
theorem dX11_count_50 : decode cX11_count 50 = .ok (.ireturn, 1) := by decide +kernel
theorem dX11_count_51 : decode cX11_count 51 = .ok (.aload_n 0, 1) := by decide +kernel
theorem dX11_count_52 : decode cX11_count 52 = .ok (.getfield 21, 3) := by decide +kernel
theorem dX11_count_55 : decode cX11_count 55 = .ok (.getfield 76, 3) := by decide +kernel
theorem dX11_count_58 : decode cX11_count 58 = .ok (.ireturn, 1) := by decide +kernel
theorem dX11_count_59 : decode cX11_count 59 = .ok (.aload_n 0, 1) := by decide +kernel
theorem dX11_count_60 : decode cX11_count 60 = .ok (.getfield 25, 3) := by decide +kernel
theorem dX11_count_63 : decode cX11_count 63 = .ok (.getfield 76, 3) := by decide +kernel
theorem dX11_count_66 : decode cX11_count 66 = .ok (.ireturn, 1) := by decide +kernel
theorem dX11_count_67 : decode cX11_count 67 = .ok (.iconst (-1), 1) := by decide +kernel
theorem dX11_count_68 : decode cX11_count 68 = .ok (.ireturn, 1) := by decide +kernel
theorem dX12_in_0 : decode cX12_in 0 = .ok (.lload_n 0, 1) := by decide +kernel
theorem dX12_in_1 : decode cX12_in 1 = .ok (.lload_n 2, 1) := by decide +kernel
theorem dX12_in_2 : decode cX12_in 2 = .ok (.lcmp, 1) := by decide +kernel
theorem dX12_in_3 : decode cX12_in 3 = .ok (.ifCond .lt 14, 3) := by decide +kernel
theorem dX12_in_6 : decode cX12_in 6 = .ok (.lload_n 0, 1) := by decide +kernel
theorem dX12_in_7 : decode cX12_in 7 = .ok (.lload 4, 2) := by decide +kernel
theorem dX12_in_9 : decode cX12_in 9 = .ok (.lcmp, 1) := by decide +kernel
theorem dX12_in_10 : decode cX12_in 10 = .ok (.ifCond .gt 7, 3) := by decide +kernel
theorem dX12_in_13 : decode cX12_in 13 = .ok (.iconst 1, 1) := by decide +kernel
theorem dX12_in_14 : decode cX12_in 14 = .ok (.goto 4, 3) := by decide +kernel
theorem dX12_in_17 : decode cX12_in 17 = .ok (.iconst 0, 1) := by decide +kernel
theorem dX12_in_18 : decode cX12_in 18 = .ok (.ireturn, 1) := by decide +kernel
theorem dX12_init_0 : decode cX12_init 0 = .ok (.aload_n 0, 1) := by decide +kernel
theorem dX12_init_1 : decode cX12_init 1 = .ok (.invokespecial 3, 3) := by decide +kernel
theorem dX12_init_4 : decode cX12_init 4 = .ok (.aload_n 0, 1) := by decide +kernel
theorem dX12_init_5 : decode cX12_init 5 = .ok (.sipush 300, 3) := by decide +kernel
theorem dX12_init_8 : decode cX12_init 8 = .ok (.newarray .int, 2) := by decide +kernel
theorem dX12_init_10 : decode cX12_init 10 = .ok (.putfield 9, 3) := by decide +kernel
theorem dX12_init_13 : decode cX12_init 13 = .ok (.aload_n 0, 1) := by decide +kernel
theorem dX12_init_14 : decode cX12_init 14 = .ok (.iconst 4, 1) := by decide +kernel
theorem dX12_init_15 : decode cX12_init 15 = .ok (.newarray .int, 2) := by decide +kernel
theorem dX12_init_17 : decode cX12_init 17 = .ok (.putfield 13, 3) := by decide +kernel
theorem dX12_init_20 : decode cX12_init 20 = .ok (.aload_n 0, 1) := by decide +kernel
theorem dX12_init_21 : decode cX12_init 21 = .ok (.sipush 9309, 3) := by decide +kernel
theorem dX12_init_24 : decode cX12_init 24 = .ok (.newarray .int, 2) := by decide +kernel
theorem dX12_init_26 : decode cX12_init 26 = .ok (.putfield 16, 3) := by decide +kernel
theorem dX12_init_29 : decode cX12_init 29 = .ok (.aload_n 0, 1) := by decide +kernel
theorem dX12_init_30 : decode cX12_init 30 = .ok (.bipush 20, 2) := by decide +kernel
theorem dX12_init_32 : decode cX12_init 32 = .ok (.putfield 19, 3) := by decide +kernel
theorem dX12_init_35 : decode cX12_init 35 = .ok (.aload_n 0, 1) := by decide +kernel
theorem dX12_init_36 : decode cX12_init 36 = .ok (.bipush 10, 2) := by decide +kernel
theorem dX12_init_38 : decode cX12_init 38 = .ok (.putfield 23, 3) := by decide +kernel
theorem dX12_init_41 : decode cX12_init 41 = .ok (.aload_n 0, 1) := by decide +kernel
theorem dX12_init_42 : decode cX12_init 42 = .ok (.iconst 4, 1) := by decide +kernel
theorem dX12_init_43 : decode cX12_init 43 = .ok (.newarray .int, 2) := by decide +kernel
theorem dX12_init_45 : decode cX12_init 45 = .ok (.putfield 26, 3) := by decide +kernel
theorem dX12_init_48 : decode cX12_init 48 = .ok (.aload_n 0, 1) := by decide +kernel
theorem dX12_init_49 : decode cX12_init 49 = .ok (.sipush 1400, 3) := by decide +kernel
theorem dX12_init_52 : decode cX12_init 52 = .ok (.newarray .int, 2) := by decide +kernel
theorem dX12_init_54 : decode cX12_init 54 = .ok (.putfield 29, 3) := by decide +kernel
theorem dX12_init_57 : decode cX12_init 57 = .ok (.aload_n 0, 1) := by decide +kernel
theorem dX12_init_58 : decode cX12_init 58 = .ok (.sipush 1400, 3) := by decide +kernel
theorem dX12_init_61 : decode cX12_init 61 = .ok (.newarray .int, 2) := by decide +kernel
theorem dX12_init_63 : decode cX12_init 63 = .ok (.putfield 32, 3) := by decide +kernel
theorem dX12_init_66 : decode cX12_init 66 = .ok (.aload_n 0, 1) := by decide +kernel
theorem dX12_init_67 : decode cX12_init 67 = .ok (.sipush 1400, 3) := by decide +kernel
theorem dX12_init_70 : decode cX12_init 70 = .ok (.newarray .int, 2) := by decide +kernel
theorem dX12_init_72 : decode cX12_init 72 = .ok (.putfield 35, 3) := by decide +kernel
theorem dX12_init_75 : decode cX12_init 75 = .ok (.aload_n 0, 1) := by decide +kernel
theorem dX12_init_76 : decode cX12_init 76 = .ok (.ldc 38, 2) := by decide +kernel
theorem dX12_init_78 : decode cX12_init 78 = .ok (.newarray .int, 2) := by decide +kernel
theorem dX12_init_80 : decode cX12_init 80 = .ok (.putfield 39, 3) := by decide +kernel
theorem dX12_init_83 : decode cX12_init 83 = .ok (.aload_n 0, 1) := by decide +kernel
theorem dX12_init_84 : decode cX12_init 84 = .ok (.sipush 9309, 3) := by decide +kernel
theorem dX12_init_87 : decode cX12_init 87 = .ok (.newarray .int, 2) := by decide +kernel
theorem dX12_init_89 : decode cX12_init 89 = .ok (.putfield 42, 3) := by decide +kernel
theorem dX12_init_92 : decode cX12_init 92 = .ok (.aload_n 0, 1) := by decide +kernel
theorem dX12_init_93 : decode cX12_init 93 = .ok (.iconst 4, 1) := by decide +kernel
theorem dX12_init_94 : decode cX12_init 94 = .ok (.newarray .int, 2) := by decide +kernel
theorem dX12_init_96 : decode cX12_init 96 = .ok (.putfield 45, 3) := by decide +kernel
theorem dX12_init_99 : decode cX12_init 99 = .ok (.aload_n 0, 1) := by decide +kernel
theorem dX12_init_100 : decode cX12_init 100 = .ok (.bipush 120, 2) := by decide +kernel
theorem dX12_init_102 : decode cX12_init 102 = .ok (.newarray .int, 2) := by decide +kernel
theorem dX12_init_104 : decode cX12_init 104 = .ok (.putfield 48, 3) := by decide +kernel
theorem dX12_init_107 : decode cX12_init 107 = .ok (.aload_n 0, 1) := by decide +kernel
theorem dX12_init_108 : decode cX12_init 108 = .ok (.sipush 600, 3) := by decide +kernel
theorem dX12_init_111 : decode cX12_init 111 = .ok (.newarray .int, 2) := by decide +kernel
theorem dX12_init_113 : decode cX12_init 113 = .ok (.putfield 51, 3) := by decide +kernel
theorem dX12_init_116 : decode cX12_init 116 = .ok (.aload_n 0, 1) := by decide +kernel
theorem dX12_init_117 : decode cX12_init 117 = .ok (.sipush 600, 3) := by decide +kernel
theorem dX12_init_120 : decode cX12_init 120 = .ok (.newarray .int, 2) := by decide +kernel
theorem dX12_init_122 : decode cX12_init 122 = .ok (.putfield 54, 3) := by decide +kernel
theorem dX12_init_125 : decode cX12_init 125 = .ok (.aload_n 0, 1) := by decide +kernel
theorem dX12_init_126 : decode cX12_init 126 = .ok (.sipush 9309, 3) := by decide +kernel
theorem dX12_init_129 : decode cX12_init 129 = .ok (.newarray .int, 2) := by decide +kernel
theorem dX12_init_131 : decode cX12_init 131 = .ok (.putfield 57, 3) := by decide +kernel
theorem dX12_init_134 : decode cX12_init 134 = .ok (.return_, 1) := by decide +kernel
theorem dX12_thrown_0 : decode cX12_thrown 0 = .ok (.aload_n 0, 1) := by decide +kernel
theorem dX12_thrown_1 : decode cX12_thrown 1 = .ok (.getfield 60, 3) := by decide +kernel
theorem dX12_thrown_4 : decode cX12_thrown 4 = .ok (.ireturn, 1) := by decide +kernel
theorem dX12_four_0 : decode cX12_four 0 = .ok (.bipush 24, 2) := by decide +kernel
theorem dX12_four_2 : decode cX12_four 2 = .ok (.istore_n 2, 1) := by decide +kernel
theorem dX12_four_3 : decode cX12_four 3 = .ok (.iload_n 2, 1) := by decide +kernel
theorem dX12_four_4 : decode cX12_four 4 = .ok (.ifCond .lt 35, 3) := by decide +kernel
theorem dX12_four_7 : decode cX12_four 7 = .ok (.aload_n 0, 1) := by decide +kernel
theorem dX12_four_8 : decode cX12_four 8 = .ok (.getfield 9, 3) := by decide +kernel
theorem dX12_four_11 : decode cX12_four 11 = .ok (.aload_n 0, 1) := by decide +kernel
theorem dX12_four_12 : decode cX12_four 12 = .ok (.getfield 63, 3) := by decide +kernel
theorem dX12_four_15 : decode cX12_four 15 = .ok (.iload_n 1, 1) := by decide +kernel
theorem dX12_four_16 : decode cX12_four 16 = .ok (.iload_n 2, 1) := by decide +kernel
theorem dX12_four_17 : decode cX12_four 17 = .ok (.ishr, 1) := by decide +kernel
theorem dX12_four_18 : decode cX12_four 18 = .ok (.sipush 255, 3) := by decide +kernel
theorem dX12_four_21 : decode cX12_four 21 = .ok (.iand, 1) := by decide +kernel
theorem dX12_four_22 : decode cX12_four 22 = .ok (.iastore, 1) := by decide +kernel
theorem dX12_four_23 : decode cX12_four 23 = .ok (.aload_n 0, 1) := by decide +kernel
theorem dX12_four_24 : decode cX12_four 24 = .ok (.dup, 1) := by decide +kernel
theorem dX12_four_25 : decode cX12_four 25 = .ok (.getfield 63, 3) := by decide +kernel
theorem dX12_four_28 : decode cX12_four 28 = .ok (.iconst 1, 1) := by decide +kernel
theorem dX12_four_29 : decode cX12_four 29 = .ok (.iadd, 1) := by decide +kernel
theorem dX12_four_30 : decode cX12_four 30 = .ok (.putfield 63, 3) := by decide +kernel
theorem dX12_four_33 : decode cX12_four 33 = .ok (.iinc 2 (-8), 3) := by decide +kernel
theorem dX12_four_36 : decode cX12_four 36 = .ok (.goto (-33), 3) := by decide +kernel
theorem dX12_four_39 : decode cX12_four 39 = .ok (.return_, 1) := by decide +kernel
theorem dX12_feed_0 : decode cX12_feed 0 = .ok (.aload_n 0, 1) := by decide +kernel
theorem dX12_feed_1 : decode cX12_feed 1 = .ok (.iconst 0, 1) := by decide +kernel
theorem dX12_feed_2 : decode cX12_feed 2 = .ok (.putfield 60, 3) := by decide +kernel
theorem dX12_feed_5 : decode cX12_feed 5 = .ok (.aload_n 0, 1) := by decide +kernel
theorem dX12_feed_6 : decode cX12_feed 6 = .ok (.getfield 63, 3) := by decide +kernel
theorem dX12_feed_9 : decode cX12_feed 9 = .ok (.bipush 20, 2) := by decide +kernel
theorem dX12_feed_11 : decode cX12_feed 11 = .ok (.iadd, 1) := by decide +kernel
theorem dX12_feed_12 : decode cX12_feed 12 = .ok (.sipush 300, 3) := by decide +kernel
theorem dX12_feed_15 : decode cX12_feed 15 = .ok (.if_icmp .le 5, 3) := by decide +kernel
theorem dX12_feed_18 : decode cX12_feed 18 = .ok (.iconst (-1), 1) := by decide +kernel
theorem dX12_feed_19 : decode cX12_feed 19 = .ok (.ireturn, 1) := by decide +kernel
theorem dX12_feed_20 : decode cX12_feed 20 = .ok (.aload_n 0, 1) := by decide +kernel
theorem dX12_feed_21 : decode cX12_feed 21 = .ok (.iload_n 1, 1) := by decide +kernel
theorem dX12_feed_22 : decode cX12_feed 22 = .ok (.invokevirtual 66, 3) := by decide +kernel
theorem dX12_feed_25 : decode cX12_feed 25 = .ok (.aload_n 0, 1) := by decide +kernel
theorem dX12_feed_26 : decode cX12_feed 26 = .ok (.iload_n 2, 1) := by decide +kernel
theorem dX12_feed_27 : decode cX12_feed 27 = .ok (.invokevirtual 66, 3) := by decide +kernel
theorem dX12_feed_30 : decode cX12_feed 30 = .ok (.aload_n 0, 1) := by decide +kernel
theorem dX12_feed_31 : decode cX12_feed 31 = .ok (.iload_n 3, 1) := by decide +kernel
theorem dX12_feed_32 : decode cX12_feed 32 = .ok (.invokevirtual 66, 3) := by decide +kernel
theorem dX12_feed_35 : decode cX12_feed 35 = .ok (.aload_n 0, 1) := by decide +kernel
theorem dX12_feed_36 : decode cX12_feed 36 = .ok (.iload 4, 2) := by decide +kernel
theorem dX12_feed_38 : decode cX12_feed 38 = .ok (.invokevirtual 66, 3) := by decide +kernel
theorem dX12_feed_41 : decode cX12_feed 41 = .ok (.aload_n 0, 1) := by decide +kernel
theorem dX12_feed_42 : decode cX12_feed 42 = .ok (.iload 5, 2) := by decide +kernel
theorem dX12_feed_44 : decode cX12_feed 44 = .ok (.invokevirtual 66, 3) := by decide +kernel
theorem dX12_feed_47 : decode cX12_feed 47 = .ok (.aload_n 0, 1) := by decide +kernel
theorem dX12_feed_48 : decode cX12_feed 48 = .ok (.getfield 63, 3) := by decide +kernel
theorem dX12_feed_51 : decode cX12_feed 51 = .ok (.ireturn, 1) := by decide +kernel
theorem dX12_end_0 : decode cX12_end 0 = .ok (.aload_n 0, 1) := by decide +kernel
theorem dX12_end_1 : decode cX12_end 1 = .ok (.iconst 0, 1) := by decide +kernel
theorem dX12_end_2 : decode cX12_end 2 = .ok (.putfield 60, 3) := by decide +kernel
theorem dX12_end_5 : decode cX12_end 5 = .ok (.iload_n 1, 1) := by decide +kernel
theorem dX12_end_6 : decode cX12_end 6 = .ok (.i2l, 1) := by decide +kernel
theorem dX12_end_7 : decode cX12_end 7 = .ok (.lconst 0, 1) := by decide +kernel
theorem dX12_end_8 : decode cX12_end 8 = .ok (.aload_n 0, 1) := by decide +kernel
theorem dX12_end_9 : decode cX12_end 9 = .ok (.getfield 63, 3) := by decide +kernel
theorem dX12_end_12 : decode cX12_end 12 = .ok (.i2l, 1) := by decide +kernel
theorem dX12_end_13 : decode cX12_end 13 = .ok (.invokestatic 70, 3) := by decide +kernel
theorem dX12_end_16 : decode cX12_end 16 = .ok (.ifCond .ne 5, 3) := by decide +kernel
theorem dX12_end_19 : decode cX12_end 19 = .ok (.iconst 0, 1) := by decide +kernel
theorem dX12_end_20 : decode cX12_end 20 = .ok (.ireturn, 1) := by decide +kernel
theorem dX12_end_21 : decode cX12_end 21 = .ok (.aload_n 0, 1) := by decide +kernel
theorem dX12_end_22 : decode cX12_end 22 = .ok (.iload_n 1, 1) := by decide +kernel
theorem dX12_end_23 : decode cX12_end 23 = .ok (.putfield 63, 3) := by decide +kernel
theorem dX12_end_26 : decode cX12_end 26 = .ok (.iconst 1, 1) := by decide +kernel
theorem dX12_end_27 : decode cX12_end 27 = .ok (.ireturn, 1) := by decide +kernel
theorem dX12_here_0 : decode cX12_here 0 = .ok (.aload_n 0, 1) := by decide +kernel
theorem dX12_here_1 : decode cX12_here 1 = .ok (.getfield 74, 3) := by decide +kernel
theorem dX12_here_4 : decode cX12_here 4 = .ok (.aload_n 0, 1) := by decide +kernel
theorem dX12_here_5 : decode cX12_here 5 = .ok (.getfield 63, 3) := by decide +kernel
theorem dX12_here_8 : decode cX12_here 8 = .ok (.if_icmp .ge 15, 3) := by decide +kernel
theorem dX12_here_11 : decode cX12_here 11 = .ok (.aload_n 0, 1) := by decide +kernel
theorem dX12_here_12 : decode cX12_here 12 = .ok (.getfield 9, 3) := by decide +kernel
theorem dX12_here_15 : decode cX12_here 15 = .ok (.aload_n 0, 1) := by decide +kernel
theorem dX12_here_16 : decode cX12_here 16 = .ok (.getfield 74, 3) := by decide +kernel
theorem dX12_here_19 : decode cX12_here 19 = .ok (.iaload, 1) := by decide +kernel
theorem dX12_here_20 : decode cX12_here 20 = .ok (.goto 4, 3) := by decide +kernel
theorem dX12_here_23 : decode cX12_here 23 = .ok (.iconst (-1), 1) := by decide +kernel
theorem dX12_here_24 : decode cX12_here 24 = .ok (.ireturn, 1) := by decide +kernel
theorem dX12_isSmall_0 : decode cX12_isSmall 0 = .ok (.iload_n 0, 1) := by decide +kernel
theorem dX12_isSmall_1 : decode cX12_isSmall 1 = .ok (.bipush 97, 2) := by decide +kernel
theorem dX12_isSmall_3 : decode cX12_isSmall 3 = .ok (.if_icmp .lt 13, 3) := by decide +kernel
theorem dX12_isSmall_6 : decode cX12_isSmall 6 = .ok (.iload_n 0, 1) := by decide +kernel
theorem dX12_isSmall_7 : decode cX12_isSmall 7 = .ok (.bipush 122, 2) := by decide +kernel
theorem dX12_isSmall_9 : decode cX12_isSmall 9 = .ok (.if_icmp .gt 7, 3) := by decide +kernel
theorem dX12_isSmall_12 : decode cX12_isSmall 12 = .ok (.iconst 1, 1) := by decide +kernel
theorem dX12_isSmall_13 : decode cX12_isSmall 13 = .ok (.goto 4, 3) := by decide +kernel
theorem dX12_isSmall_16 : decode cX12_isSmall 16 = .ok (.iconst 0, 1) := by decide +kernel
theorem dX12_isSmall_17 : decode cX12_isSmall 17 = .ok (.ireturn, 1) := by decide +kernel
theorem dX12_isDigit_0 : decode cX12_isDigit 0 = .ok (.iload_n 0, 1) := by decide +kernel
theorem dX12_isDigit_1 : decode cX12_isDigit 1 = .ok (.bipush 48, 2) := by decide +kernel
theorem dX12_isDigit_3 : decode cX12_isDigit 3 = .ok (.if_icmp .lt 13, 3) := by decide +kernel
theorem dX12_isDigit_6 : decode cX12_isDigit 6 = .ok (.iload_n 0, 1) := by decide +kernel
theorem dX12_isDigit_7 : decode cX12_isDigit 7 = .ok (.bipush 57, 2) := by decide +kernel
theorem dX12_isDigit_9 : decode cX12_isDigit 9 = .ok (.if_icmp .gt 7, 3) := by decide +kernel
theorem dX12_isDigit_12 : decode cX12_isDigit 12 = .ok (.iconst 1, 1) := by decide +kernel
theorem dX12_isDigit_13 : decode cX12_isDigit 13 = .ok (.goto 4, 3) := by decide +kernel
theorem dX12_isDigit_16 : decode cX12_isDigit 16 = .ok (.iconst 0, 1) := by decide +kernel
theorem dX12_isDigit_17 : decode cX12_isDigit 17 = .ok (.ireturn, 1) := by decide +kernel
theorem dX12_next_0 : decode cX12_next 0 = .ok (.aload_n 0, 1) := by decide +kernel
theorem dX12_next_1 : decode cX12_next 1 = .ok (.invokevirtual 77, 3) := by decide +kernel
theorem dX12_next_4 : decode cX12_next 4 = .ok (.bipush 32, 2) := by decide +kernel
theorem dX12_next_6 : decode cX12_next 6 = .ok (.if_icmp .ne 16, 3) := by decide +kernel
theorem dX12_next_9 : decode cX12_next 9 = .ok (.aload_n 0, 1) := by decide +kernel
theorem dX12_next_10 : decode cX12_next 10 = .ok (.dup, 1) := by decide +kernel
theorem dX12_next_11 : decode cX12_next 11 = .ok (.getfield 74, 3) := by decide +kernel
theorem dX12_next_14 : decode cX12_next 14 = .ok (.iconst 1, 1) := by decide +kernel
theorem dX12_next_15 : decode cX12_next 15 = .ok (.iadd, 1) := by decide +kernel
theorem dX12_next_16 : decode cX12_next 16 = .ok (.putfield 74, 3) := by decide +kernel
theorem dX12_next_19 : decode cX12_next 19 = .ok (.goto (-19), 3) := by decide +kernel
theorem dX12_next_22 : decode cX12_next 22 = .ok (.aload_n 0, 1) := by decide +kernel
theorem dX12_next_23 : decode cX12_next 23 = .ok (.aload_n 0, 1) := by decide +kernel
theorem dX12_next_24 : decode cX12_next 24 = .ok (.getfield 74, 3) := by decide +kernel
theorem dX12_next_27 : decode cX12_next 27 = .ok (.putfield 81, 3) := by decide +kernel
theorem dX12_next_30 : decode cX12_next 30 = .ok (.aload_n 0, 1) := by decide +kernel
theorem dX12_next_31 : decode cX12_next 31 = .ok (.invokevirtual 77, 3) := by decide +kernel
theorem dX12_next_34 : decode cX12_next 34 = .ok (.iconst (-1), 1) := by decide +kernel
theorem dX12_next_35 : decode cX12_next 35 = .ok (.if_icmp .ne 11, 3) := by decide +kernel
theorem dX12_next_38 : decode cX12_next 38 = .ok (.aload_n 0, 1) := by decide +kernel
theorem dX12_next_39 : decode cX12_next 39 = .ok (.iconst 0, 1) := by decide +kernel
theorem dX12_next_40 : decode cX12_next 40 = .ok (.putfield 84, 3) := by decide +kernel
theorem dX12_next_43 : decode cX12_next 43 = .ok (.goto 154, 3) := by decide +kernel
theorem dX12_next_46 : decode cX12_next 46 = .ok (.aload_n 0, 1) := by decide +kernel
theorem dX12_next_47 : decode cX12_next 47 = .ok (.invokevirtual 77, 3) := by decide +kernel
theorem dX12_next_50 : decode cX12_next 50 = .ok (.invokestatic 87, 3) := by decide +kernel
theorem dX12_next_53 : decode cX12_next 53 = .ok (.ifCond .eq 31, 3) := by decide +kernel
theorem dX12_next_56 : decode cX12_next 56 = .ok (.aload_n 0, 1) := by decide +kernel
theorem dX12_next_57 : decode cX12_next 57 = .ok (.iconst 1, 1) := by decide +kernel
theorem dX12_next_58 : decode cX12_next 58 = .ok (.putfield 84, 3) := by decide +kernel
theorem dX12_next_61 : decode cX12_next 61 = .ok (.aload_n 0, 1) := by decide +kernel
theorem dX12_next_62 : decode cX12_next 62 = .ok (.invokevirtual 77, 3) := by decide +kernel
theorem dX12_next_65 : decode cX12_next 65 = .ok (.invokestatic 87, 3) := by decide +kernel
theorem dX12_next_68 : decode cX12_next 68 = .ok (.ifCond .eq 129, 3) := by decide +kernel
theorem dX12_next_71 : decode cX12_next 71 = .ok (.aload_n 0, 1) := by decide +kernel
theorem dX12_next_72 : decode cX12_next 72 = .ok (.dup, 1) := by decide +kernel
theorem dX12_next_73 : decode cX12_next 73 = .ok (.getfield 74, 3) := by decide +kernel
theorem dX12_next_76 : decode cX12_next 76 = .ok (.iconst 1, 1) := by decide +kernel
theorem dX12_next_77 : decode cX12_next 77 = .ok (.iadd, 1) := by decide +kernel
theorem dX12_next_78 : decode cX12_next 78 = .ok (.putfield 74, 3) := by decide +kernel
theorem dX12_next_81 : decode cX12_next 81 = .ok (.goto (-20), 3) := by decide +kernel
theorem dX12_next_84 : decode cX12_next 84 = .ok (.aload_n 0, 1) := by decide +kernel
theorem dX12_next_85 : decode cX12_next 85 = .ok (.invokevirtual 77, 3) := by decide +kernel
theorem dX12_next_88 : decode cX12_next 88 = .ok (.invokestatic 91, 3) := by decide +kernel
theorem dX12_next_91 : decode cX12_next 91 = .ok (.ifCond .eq 91, 3) := by decide +kernel
theorem dX12_next_94 : decode cX12_next 94 = .ok (.aload_n 0, 1) := by decide +kernel
theorem dX12_next_95 : decode cX12_next 95 = .ok (.iconst 2, 1) := by decide +kernel
theorem dX12_next_96 : decode cX12_next 96 = .ok (.putfield 84, 3) := by decide +kernel
theorem dX12_next_99 : decode cX12_next 99 = .ok (.aload_n 0, 1) := by decide +kernel
theorem dX12_next_100 : decode cX12_next 100 = .ok (.iconst 0, 1) := by decide +kernel
theorem dX12_next_101 : decode cX12_next 101 = .ok (.putfield 94, 3) := by decide +kernel
theorem dX12_next_104 : decode cX12_next 104 = .ok (.aload_n 0, 1) := by decide +kernel
theorem dX12_next_105 : decode cX12_next 105 = .ok (.invokevirtual 77, 3) := by decide +kernel
theorem dX12_next_108 : decode cX12_next 108 = .ok (.invokestatic 91, 3) := by decide +kernel
theorem dX12_next_111 : decode cX12_next 111 = .ok (.ifCond .eq 41, 3) := by decide +kernel
theorem dX12_next_114 : decode cX12_next 114 = .ok (.aload_n 0, 1) := by decide +kernel
theorem dX12_next_115 : decode cX12_next 115 = .ok (.sipush 1000, 3) := by decide +kernel
theorem dX12_next_118 : decode cX12_next 118 = .ok (.bipush 10, 2) := by decide +kernel
theorem dX12_next_120 : decode cX12_next 120 = .ok (.aload_n 0, 1) := by decide +kernel
theorem dX12_next_121 : decode cX12_next 121 = .ok (.getfield 94, 3) := by decide +kernel
theorem dX12_next_124 : decode cX12_next 124 = .ok (.imul, 1) := by decide +kernel
theorem dX12_next_125 : decode cX12_next 125 = .ok (.aload_n 0, 1) := by decide +kernel
theorem dX12_next_126 : decode cX12_next 126 = .ok (.invokevirtual 77, 3) := by decide +kernel
theorem dX12_next_129 : decode cX12_next 129 = .ok (.iadd, 1) := by decide +kernel
theorem dX12_next_130 : decode cX12_next 130 = .ok (.bipush 48, 2) := by decide +kernel
theorem dX12_next_132 : decode cX12_next 132 = .ok (.isub, 1) := by decide +kernel
theorem dX12_next_133 : decode cX12_next 133 = .ok (.invokestatic 97, 3) := by decide +kernel
theorem dX12_next_136 : decode cX12_next 136 = .ok (.putfield 94, 3) := by decide +kernel
theorem dX12_next_139 : decode cX12_next 139 = .ok (.aload_n 0, 1) := by decide +kernel
theorem dX12_next_140 : decode cX12_next 140 = .ok (.dup, 1) := by decide +kernel
theorem dX12_next_141 : decode cX12_next 141 = .ok (.getfield 74, 3) := by decide +kernel
theorem dX12_next_144 : decode cX12_next 144 = .ok (.iconst 1, 1) := by decide +kernel
theorem dX12_next_145 : decode cX12_next 145 = .ok (.iadd, 1) := by decide +kernel
theorem dX12_next_146 : decode cX12_next 146 = .ok (.putfield 74, 3) := by decide +kernel
theorem dX12_next_149 : decode cX12_next 149 = .ok (.goto (-45), 3) := by decide +kernel
theorem dX12_next_152 : decode cX12_next 152 = .ok (.aload_n 0, 1) := by decide +kernel
theorem dX12_next_153 : decode cX12_next 153 = .ok (.aload_n 0, 1) := by decide +kernel
theorem dX12_next_154 : decode cX12_next 154 = .ok (.getfield 74, 3) := by decide +kernel
theorem dX12_next_157 : decode cX12_next 157 = .ok (.aload_n 0, 1) := by decide +kernel
theorem dX12_next_158 : decode cX12_next 158 = .ok (.getfield 81, 3) := by decide +kernel
theorem dX12_next_161 : decode cX12_next 161 = .ok (.isub, 1) := by decide +kernel
theorem dX12_next_162 : decode cX12_next 162 = .ok (.iconst 2, 1) := by decide +kernel
theorem dX12_next_163 : decode cX12_next 163 = .ok (.if_icmp .le 9, 3) := by decide +kernel
theorem dX12_next_166 : decode cX12_next 166 = .ok (.sipush 1000, 3) := by decide +kernel
theorem dX12_next_169 : decode cX12_next 169 = .ok (.goto 7, 3) := by decide +kernel
theorem dX12_next_172 : decode cX12_next 172 = .ok (.aload_n 0, 1) := by decide +kernel
theorem dX12_next_173 : decode cX12_next 173 = .ok (.getfield 94, 3) := by decide +kernel
theorem dX12_next_176 : decode cX12_next 176 = .ok (.putfield 94, 3) := by decide +kernel
theorem dX12_next_179 : decode cX12_next 179 = .ok (.goto 18, 3) := by decide +kernel
theorem dX12_next_182 : decode cX12_next 182 = .ok (.aload_n 0, 1) := by decide +kernel
theorem dX12_next_183 : decode cX12_next 183 = .ok (.iconst 3, 1) := by decide +kernel
theorem dX12_next_184 : decode cX12_next 184 = .ok (.putfield 84, 3) := by decide +kernel
theorem dX12_next_187 : decode cX12_next 187 = .ok (.aload_n 0, 1) := by decide +kernel
theorem dX12_next_188 : decode cX12_next 188 = .ok (.dup, 1) := by decide +kernel
theorem dX12_next_189 : decode cX12_next 189 = .ok (.getfield 74, 3) := by decide +kernel
theorem dX12_next_192 : decode cX12_next 192 = .ok (.iconst 1, 1) := by decide +kernel
theorem dX12_next_193 : decode cX12_next 193 = .ok (.iadd, 1) := by decide +kernel
theorem dX12_next_194 : decode cX12_next 194 = .ok (.putfield 74, 3) := by decide +kernel
theorem dX12_next_197 : decode cX12_next 197 = .ok (.return_, 1) := by decide +kernel
theorem dX12_bad_0 : decode cX12_bad 0 = .ok (.aload_n 0, 1) := by decide +kernel
theorem dX12_bad_1 : decode cX12_bad 1 = .ok (.aload_n 0, 1) := by decide +kernel
theorem dX12_bad_2 : decode cX12_bad 2 = .ok (.getfield 103, 3) := by decide +kernel
theorem dX12_bad_5 : decode cX12_bad 5 = .ok (.iconst (-1), 1) := by decide +kernel
theorem dX12_bad_6 : decode cX12_bad 6 = .ok (.if_icmp .ne 10, 3) := by decide +kernel
theorem dX12_bad_9 : decode cX12_bad 9 = .ok (.aload_n 0, 1) := by decide +kernel
theorem dX12_bad_10 : decode cX12_bad 10 = .ok (.getfield 81, 3) := by decide +kernel
theorem dX12_bad_13 : decode cX12_bad 13 = .ok (.goto 7, 3) := by decide +kernel
theorem dX12_bad_16 : decode cX12_bad 16 = .ok (.aload_n 0, 1) := by decide +kernel
theorem dX12_bad_17 : decode cX12_bad 17 = .ok (.getfield 103, 3) := by decide +kernel
theorem dX12_bad_20 : decode cX12_bad 20 = .ok (.putfield 103, 3) := by decide +kernel
theorem dX12_bad_23 : decode cX12_bad 23 = .ok (.return_, 1) := by decide +kernel
theorem dX12_isWord_0 : decode cX12_isWord 0 = .ok (.aload_n 0, 1) := by decide +kernel
theorem dX12_isWord_1 : decode cX12_isWord 1 = .ok (.getfield 103, 3) := by decide +kernel
theorem dX12_isWord_4 : decode cX12_isWord 4 = .ok (.iconst (-1), 1) := by decide +kernel
theorem dX12_isWord_5 : decode cX12_isWord 5 = .ok (.if_icmp .ne 31, 3) := by decide +kernel
theorem dX12_isWord_8 : decode cX12_isWord 8 = .ok (.aload_n 0, 1) := by decide +kernel
theorem dX12_isWord_9 : decode cX12_isWord 9 = .ok (.getfield 84, 3) := by decide +kernel
theorem dX12_isWord_12 : decode cX12_isWord 12 = .ok (.iconst 1, 1) := by decide +kernel
theorem dX12_isWord_13 : decode cX12_isWord 13 = .ok (.if_icmp .ne 23, 3) := by decide +kernel
theorem dX12_isWord_16 : decode cX12_isWord 16 = .ok (.aload_n 0, 1) := by decide +kernel
theorem dX12_isWord_17 : decode cX12_isWord 17 = .ok (.getfield 74, 3) := by decide +kernel
theorem dX12_isWord_20 : decode cX12_isWord 20 = .ok (.aload_n 0, 1) := by decide +kernel
theorem dX12_isWord_21 : decode cX12_isWord 21 = .ok (.getfield 81, 3) := by decide +kernel
theorem dX12_isWord_24 : decode cX12_isWord 24 = .ok (.isub, 1) := by decide +kernel
theorem dX12_isWord_25 : decode cX12_isWord 25 = .ok (.aload_n 1, 1) := by decide +kernel
theorem dX12_isWord_26 : decode cX12_isWord 26 = .ok (.invokevirtual 106, 3) := by decide +kernel
theorem dX12_isWord_29 : decode cX12_isWord 29 = .ok (.if_icmp .ne 7, 3) := by decide +kernel
theorem dX12_isWord_32 : decode cX12_isWord 32 = .ok (.iconst 1, 1) := by decide +kernel
theorem dX12_isWord_33 : decode cX12_isWord 33 = .ok (.goto 4, 3) := by decide +kernel
theorem dX12_isWord_36 : decode cX12_isWord 36 = .ok (.iconst 0, 1) := by decide +kernel
theorem dX12_isWord_37 : decode cX12_isWord 37 = .ok (.istore_n 2, 1) := by decide +kernel
theorem dX12_isWord_38 : decode cX12_isWord 38 = .ok (.iconst 0, 1) := by decide +kernel
theorem dX12_isWord_39 : decode cX12_isWord 39 = .ok (.istore_n 3, 1) := by decide +kernel
theorem dX12_isWord_40 : decode cX12_isWord 40 = .ok (.iload_n 2, 1) := by decide +kernel
theorem dX12_isWord_41 : decode cX12_isWord 41 = .ok (.ifCond .eq 42, 3) := by decide +kernel
theorem dX12_isWord_44 : decode cX12_isWord 44 = .ok (.iload_n 3, 1) := by decide +kernel
theorem dX12_isWord_45 : decode cX12_isWord 45 = .ok (.aload_n 1, 1) := by decide +kernel
theorem dX12_isWord_46 : decode cX12_isWord 46 = .ok (.invokevirtual 106, 3) := by decide +kernel
theorem dX12_isWord_49 : decode cX12_isWord 49 = .ok (.if_icmp .ge 34, 3) := by decide +kernel
theorem dX12_isWord_52 : decode cX12_isWord 52 = .ok (.aload_n 0, 1) := by decide +kernel
theorem dX12_isWord_53 : decode cX12_isWord 53 = .ok (.getfield 9, 3) := by decide +kernel
theorem dX12_isWord_56 : decode cX12_isWord 56 = .ok (.aload_n 0, 1) := by decide +kernel
theorem dX12_isWord_57 : decode cX12_isWord 57 = .ok (.getfield 81, 3) := by decide +kernel
theorem dX12_isWord_60 : decode cX12_isWord 60 = .ok (.iload_n 3, 1) := by decide +kernel
theorem dX12_isWord_61 : decode cX12_isWord 61 = .ok (.iadd, 1) := by decide +kernel
theorem dX12_isWord_62 : decode cX12_isWord 62 = .ok (.iaload, 1) := by decide +kernel
theorem dX12_isWord_63 : decode cX12_isWord 63 = .ok (.aload_n 1, 1) := by decide +kernel
theorem dX12_isWord_64 : decode cX12_isWord 64 = .ok (.iload_n 3, 1) := by decide +kernel
theorem dX12_isWord_65 : decode cX12_isWord 65 = .ok (.invokevirtual 111, 3) := by decide +kernel
theorem dX12_isWord_68 : decode cX12_isWord 68 = .ok (.if_icmp .ne 7, 3) := by decide +kernel
theorem dX12_isWord_71 : decode cX12_isWord 71 = .ok (.iconst 1, 1) := by decide +kernel
theorem dX12_isWord_72 : decode cX12_isWord 72 = .ok (.goto 4, 3) := by decide +kernel
theorem dX12_isWord_75 : decode cX12_isWord 75 = .ok (.iconst 0, 1) := by decide +kernel
theorem dX12_isWord_76 : decode cX12_isWord 76 = .ok (.istore_n 2, 1) := by decide +kernel
theorem dX12_isWord_77 : decode cX12_isWord 77 = .ok (.iinc 3 1, 3) := by decide +kernel
theorem dX12_isWord_80 : decode cX12_isWord 80 = .ok (.goto (-40), 3) := by decide +kernel
theorem dX12_isWord_83 : decode cX12_isWord 83 = .ok (.iload_n 2, 1) := by decide +kernel
theorem dX12_isWord_84 : decode cX12_isWord 84 = .ok (.ireturn, 1) := by decide +kernel
theorem dX12_takesSemicolon_0 : decode cX12_takesSemicolon 0 = .ok (.aload_n 0, 1) := by decide +kernel
theorem dX12_takesSemicolon_1 : decode cX12_takesSemicolon 1 = .ok (.getfield 103, 3) := by decide +kernel
theorem dX12_takesSemicolon_4 : decode cX12_takesSemicolon 4 = .ok (.iconst (-1), 1) := by decide +kernel
theorem dX12_takesSemicolon_5 : decode cX12_takesSemicolon 5 = .ok (.if_icmp .ne 29, 3) := by decide +kernel
theorem dX12_takesSemicolon_8 : decode cX12_takesSemicolon 8 = .ok (.aload_n 0, 1) := by decide +kernel
theorem dX12_takesSemicolon_9 : decode cX12_takesSemicolon 9 = .ok (.getfield 84, 3) := by decide +kernel
theorem dX12_takesSemicolon_12 : decode cX12_takesSemicolon 12 = .ok (.iconst 3, 1) := by decide +kernel
theorem dX12_takesSemicolon_13 : decode cX12_takesSemicolon 13 = .ok (.if_icmp .ne 21, 3) := by decide +kernel
theorem dX12_takesSemicolon_16 : decode cX12_takesSemicolon 16 = .ok (.aload_n 0, 1) := by decide +kernel
theorem dX12_takesSemicolon_17 : decode cX12_takesSemicolon 17 = .ok (.getfield 9, 3) := by decide +kernel
theorem dX12_takesSemicolon_20 : decode cX12_takesSemicolon 20 = .ok (.aload_n 0, 1) := by decide +kernel
theorem dX12_takesSemicolon_21 : decode cX12_takesSemicolon 21 = .ok (.getfield 81, 3) := by decide +kernel
theorem dX12_takesSemicolon_24 : decode cX12_takesSemicolon 24 = .ok (.iaload, 1) := by decide +kernel
theorem dX12_takesSemicolon_25 : decode cX12_takesSemicolon 25 = .ok (.bipush 59, 2) := by decide +kernel
theorem dX12_takesSemicolon_27 : decode cX12_takesSemicolon 27 = .ok (.if_icmp .ne 7, 3) := by decide +kernel
theorem dX12_takesSemicolon_30 : decode cX12_takesSemicolon 30 = .ok (.iconst 1, 1) := by decide +kernel
theorem dX12_takesSemicolon_31 : decode cX12_takesSemicolon 31 = .ok (.goto 4, 3) := by decide +kernel
theorem dX12_takesSemicolon_34 : decode cX12_takesSemicolon 34 = .ok (.iconst 0, 1) := by decide +kernel
theorem dX12_takesSemicolon_35 : decode cX12_takesSemicolon 35 = .ok (.istore_n 1, 1) := by decide +kernel
theorem dX12_takesSemicolon_36 : decode cX12_takesSemicolon 36 = .ok (.iload_n 1, 1) := by decide +kernel
theorem dX12_takesSemicolon_37 : decode cX12_takesSemicolon 37 = .ok (.ifCond .eq 7, 3) := by decide +kernel
theorem dX12_takesSemicolon_40 : decode cX12_takesSemicolon 40 = .ok (.aload_n 0, 1) := by decide +kernel
theorem dX12_takesSemicolon_41 : decode cX12_takesSemicolon 41 = .ok (.invokevirtual 115, 3) := by decide +kernel
theorem dX12_takesSemicolon_44 : decode cX12_takesSemicolon 44 = .ok (.iload_n 1, 1) := by decide +kernel
theorem dX12_takesSemicolon_45 : decode cX12_takesSemicolon 45 = .ok (.ireturn, 1) := by decide +kernel
theorem dX12_takesNumber_0 : decode cX12_takesNumber 0 = .ok (.aload_n 0, 1) := by decide +kernel
theorem dX12_takesNumber_1 : decode cX12_takesNumber 1 = .ok (.getfield 103, 3) := by decide +kernel
theorem dX12_takesNumber_4 : decode cX12_takesNumber 4 = .ok (.iconst (-1), 1) := by decide +kernel
theorem dX12_takesNumber_5 : decode cX12_takesNumber 5 = .ok (.if_icmp .ne 26, 3) := by decide +kernel
theorem dX12_takesNumber_8 : decode cX12_takesNumber 8 = .ok (.aload_n 0, 1) := by decide +kernel
theorem dX12_takesNumber_9 : decode cX12_takesNumber 9 = .ok (.getfield 84, 3) := by decide +kernel
theorem dX12_takesNumber_12 : decode cX12_takesNumber 12 = .ok (.iconst 2, 1) := by decide +kernel
theorem dX12_takesNumber_13 : decode cX12_takesNumber 13 = .ok (.if_icmp .ne 18, 3) := by decide +kernel
theorem dX12_takesNumber_16 : decode cX12_takesNumber 16 = .ok (.aload_n 0, 1) := by decide +kernel
theorem dX12_takesNumber_17 : decode cX12_takesNumber 17 = .ok (.getfield 94, 3) := by decide +kernel
theorem dX12_takesNumber_20 : decode cX12_takesNumber 20 = .ok (.i2l, 1) := by decide +kernel
theorem dX12_takesNumber_21 : decode cX12_takesNumber 21 = .ok (.iload_n 1, 1) := by decide +kernel
theorem dX12_takesNumber_22 : decode cX12_takesNumber 22 = .ok (.i2l, 1) := by decide +kernel
theorem dX12_takesNumber_23 : decode cX12_takesNumber 23 = .ok (.iload_n 2, 1) := by decide +kernel
theorem dX12_takesNumber_24 : decode cX12_takesNumber 24 = .ok (.i2l, 1) := by decide +kernel
theorem dX12_takesNumber_25 : decode cX12_takesNumber 25 = .ok (.invokestatic 70, 3) := by decide +kernel
theorem dX12_takesNumber_28 : decode cX12_takesNumber 28 = .ok (.ifCond .ne 9, 3) := by decide +kernel
theorem dX12_takesNumber_31 : decode cX12_takesNumber 31 = .ok (.aload_n 0, 1) := by decide +kernel
theorem dX12_takesNumber_32 : decode cX12_takesNumber 32 = .ok (.invokevirtual 118, 3) := by decide +kernel
theorem dX12_takesNumber_35 : decode cX12_takesNumber 35 = .ok (.iload_n 1, 1) := by decide +kernel
theorem dX12_takesNumber_36 : decode cX12_takesNumber 36 = .ok (.ireturn, 1) := by decide +kernel
theorem dX12_takesNumber_37 : decode cX12_takesNumber 37 = .ok (.aload_n 0, 1) := by decide +kernel
theorem dX12_takesNumber_38 : decode cX12_takesNumber 38 = .ok (.getfield 94, 3) := by decide +kernel
theorem dX12_takesNumber_41 : decode cX12_takesNumber 41 = .ok (.istore_n 3, 1) := by decide +kernel
theorem dX12_takesNumber_42 : decode cX12_takesNumber 42 = .ok (.aload_n 0, 1) := by decide +kernel
theorem dX12_takesNumber_43 : decode cX12_takesNumber 43 = .ok (.invokevirtual 115, 3) := by decide +kernel
theorem dX12_takesNumber_46 : decode cX12_takesNumber 46 = .ok (.iload_n 3, 1) := by decide +kernel
theorem dX12_takesNumber_47 : decode cX12_takesNumber 47 = .ok (.ireturn, 1) := by decide +kernel
theorem dX12_isNew_0 : decode cX12_isNew 0 = .ok (.aload_n 0, 1) := by decide +kernel
theorem dX12_isNew_1 : decode cX12_isNew 1 = .ok (.getfield 121, 3) := by decide +kernel
theorem dX12_isNew_4 : decode cX12_isNew 4 = .ok (.iload_n 1, 1) := by decide +kernel
theorem dX12_isNew_5 : decode cX12_isNew 5 = .ok (.ishr, 1) := by decide +kernel
theorem dX12_isNew_6 : decode cX12_isNew 6 = .ok (.iconst 1, 1) := by decide +kernel
theorem dX12_isNew_7 : decode cX12_isNew 7 = .ok (.iand, 1) := by decide +kernel
theorem dX12_isNew_8 : decode cX12_isNew 8 = .ok (.ifCond .ne 7, 3) := by decide +kernel
theorem dX12_isNew_11 : decode cX12_isNew 11 = .ok (.iconst 1, 1) := by decide +kernel
theorem dX12_isNew_12 : decode cX12_isNew 12 = .ok (.goto 4, 3) := by decide +kernel
theorem dX12_isNew_15 : decode cX12_isNew 15 = .ok (.iconst 0, 1) := by decide +kernel
theorem dX12_isNew_16 : decode cX12_isNew 16 = .ok (.istore_n 2, 1) := by decide +kernel
theorem dX12_isNew_17 : decode cX12_isNew 17 = .ok (.aload_n 0, 1) := by decide +kernel
theorem dX12_isNew_18 : decode cX12_isNew 18 = .ok (.dup, 1) := by decide +kernel
theorem dX12_isNew_19 : decode cX12_isNew 19 = .ok (.getfield 121, 3) := by decide +kernel
theorem dX12_isNew_22 : decode cX12_isNew 22 = .ok (.iconst 1, 1) := by decide +kernel
theorem dX12_isNew_23 : decode cX12_isNew 23 = .ok (.iload_n 1, 1) := by decide +kernel
theorem dX12_isNew_24 : decode cX12_isNew 24 = .ok (.ishl, 1) := by decide +kernel
theorem dX12_isNew_25 : decode cX12_isNew 25 = .ok (.ior, 1) := by decide +kernel
theorem dX12_isNew_26 : decode cX12_isNew 26 = .ok (.putfield 121, 3) := by decide +kernel
theorem dX12_isNew_29 : decode cX12_isNew 29 = .ok (.iload_n 2, 1) := by decide +kernel
theorem dX12_isNew_30 : decode cX12_isNew 30 = .ok (.ireturn, 1) := by decide +kernel
theorem dX12_takesOne_0 : decode cX12_takesOne 0 = .ok (.aload_n 0, 1) := by decide +kernel
theorem dX12_takesOne_1 : decode cX12_takesOne 1 = .ok (.aload_n 1, 1) := by decide +kernel
theorem dX12_takesOne_2 : decode cX12_takesOne 2 = .ok (.invokevirtual 124, 3) := by decide +kernel
theorem dX12_takesOne_5 : decode cX12_takesOne 5 = .ok (.ifCond .eq 7, 3) := by decide +kernel
theorem dX12_takesOne_8 : decode cX12_takesOne 8 = .ok (.iconst 0, 1) := by decide +kernel
theorem dX12_takesOne_9 : decode cX12_takesOne 9 = .ok (.goto 28, 3) := by decide +kernel
theorem dX12_takesOne_12 : decode cX12_takesOne 12 = .ok (.aload_n 0, 1) := by decide +kernel
theorem dX12_takesOne_13 : decode cX12_takesOne 13 = .ok (.aload_n 2, 1) := by decide +kernel
theorem dX12_takesOne_14 : decode cX12_takesOne 14 = .ok (.invokevirtual 124, 3) := by decide +kernel
theorem dX12_takesOne_17 : decode cX12_takesOne 17 = .ok (.ifCond .eq 7, 3) := by decide +kernel
theorem dX12_takesOne_20 : decode cX12_takesOne 20 = .ok (.iconst 1, 1) := by decide +kernel
theorem dX12_takesOne_21 : decode cX12_takesOne 21 = .ok (.goto 16, 3) := by decide +kernel
theorem dX12_takesOne_24 : decode cX12_takesOne 24 = .ok (.aload_n 0, 1) := by decide +kernel
theorem dX12_takesOne_25 : decode cX12_takesOne 25 = .ok (.aload_n 3, 1) := by decide +kernel
theorem dX12_takesOne_26 : decode cX12_takesOne 26 = .ok (.invokevirtual 124, 3) := by decide +kernel
theorem dX12_takesOne_29 : decode cX12_takesOne 29 = .ok (.ifCond .eq 7, 3) := by decide +kernel
theorem dX12_takesOne_32 : decode cX12_takesOne 32 = .ok (.iconst 2, 1) := by decide +kernel
theorem dX12_takesOne_33 : decode cX12_takesOne 33 = .ok (.goto 4, 3) := by decide +kernel
theorem dX12_takesOne_36 : decode cX12_takesOne 36 = .ok (.iconst (-1), 1) := by decide +kernel
theorem dX12_takesOne_37 : decode cX12_takesOne 37 = .ok (.istore 4, 2) := by decide +kernel
theorem dX12_takesOne_39 : decode cX12_takesOne 39 = .ok (.iload 4, 2) := by decide +kernel
theorem dX12_takesOne_41 : decode cX12_takesOne 41 = .ok (.iconst (-1), 1) := by decide +kernel
theorem dX12_takesOne_42 : decode cX12_takesOne 42 = .ok (.if_icmp .ne 9, 3) := by decide +kernel
theorem dX12_takesOne_45 : decode cX12_takesOne 45 = .ok (.aload_n 0, 1) := by decide +kernel
theorem dX12_takesOne_46 : decode cX12_takesOne 46 = .ok (.invokevirtual 118, 3) := by decide +kernel
theorem dX12_takesOne_49 : decode cX12_takesOne 49 = .ok (.iconst 0, 1) := by decide +kernel
theorem dX12_takesOne_50 : decode cX12_takesOne 50 = .ok (.ireturn, 1) := by decide +kernel
theorem dX12_takesOne_51 : decode cX12_takesOne 51 = .ok (.aload_n 0, 1) := by decide +kernel
theorem dX12_takesOne_52 : decode cX12_takesOne 52 = .ok (.invokevirtual 115, 3) := by decide +kernel
theorem dX12_takesOne_55 : decode cX12_takesOne 55 = .ok (.iload 4, 2) := by decide +kernel
theorem dX12_takesOne_57 : decode cX12_takesOne 57 = .ok (.ireturn, 1) := by decide +kernel
theorem dX12_readsPiece_0 : decode cX12_readsPiece 0 = .ok (.aload_n 0, 1) := by decide +kernel
theorem dX12_readsPiece_1 : decode cX12_readsPiece 1 = .ok (.ldc 128, 2) := by decide +kernel
theorem dX12_readsPiece_3 : decode cX12_readsPiece 3 = .ok (.invokevirtual 124, 3) := by decide +kernel
theorem dX12_readsPiece_6 : decode cX12_readsPiece 6 = .ok (.ifCond .eq 32, 3) := by decide +kernel
theorem dX12_readsPiece_9 : decode cX12_readsPiece 9 = .ok (.aload_n 0, 1) := by decide +kernel
theorem dX12_readsPiece_10 : decode cX12_readsPiece 10 = .ok (.iconst 0, 1) := by decide +kernel
theorem dX12_readsPiece_11 : decode cX12_readsPiece 11 = .ok (.invokevirtual 130, 3) := by decide +kernel
theorem dX12_readsPiece_14 : decode cX12_readsPiece 14 = .ok (.ifCond .eq 24, 3) := by decide +kernel
theorem dX12_readsPiece_17 : decode cX12_readsPiece 17 = .ok (.aload_n 0, 1) := by decide +kernel
theorem dX12_readsPiece_18 : decode cX12_readsPiece 18 = .ok (.invokevirtual 115, 3) := by decide +kernel
theorem dX12_readsPiece_21 : decode cX12_readsPiece 21 = .ok (.aload_n 0, 1) := by decide +kernel
theorem dX12_readsPiece_22 : decode cX12_readsPiece 22 = .ok (.aload_n 0, 1) := by decide +kernel
theorem dX12_readsPiece_23 : decode cX12_readsPiece 23 = .ok (.ldc 133, 2) := by decide +kernel
theorem dX12_readsPiece_25 : decode cX12_readsPiece 25 = .ok (.ldc 134, 2) := by decide +kernel
theorem dX12_readsPiece_27 : decode cX12_readsPiece 27 = .ok (.ldc 135, 2) := by decide +kernel
theorem dX12_readsPiece_29 : decode cX12_readsPiece 29 = .ok (.invokevirtual 137, 3) := by decide +kernel
theorem dX12_readsPiece_32 : decode cX12_readsPiece 32 = .ok (.putfield 141, 3) := by decide +kernel
theorem dX12_readsPiece_35 : decode cX12_readsPiece 35 = .ok (.goto 200, 3) := by decide +kernel
theorem dX12_readsPiece_38 : decode cX12_readsPiece 38 = .ok (.aload_n 0, 1) := by decide +kernel
theorem dX12_readsPiece_39 : decode cX12_readsPiece 39 = .ok (.ldc 144, 2) := by decide +kernel
theorem dX12_readsPiece_41 : decode cX12_readsPiece 41 = .ok (.invokevirtual 124, 3) := by decide +kernel
theorem dX12_readsPiece_44 : decode cX12_readsPiece 44 = .ok (.ifCond .eq 29, 3) := by decide +kernel
theorem dX12_readsPiece_47 : decode cX12_readsPiece 47 = .ok (.aload_n 0, 1) := by decide +kernel
theorem dX12_readsPiece_48 : decode cX12_readsPiece 48 = .ok (.iconst 1, 1) := by decide +kernel
theorem dX12_readsPiece_49 : decode cX12_readsPiece 49 = .ok (.invokevirtual 130, 3) := by decide +kernel
theorem dX12_readsPiece_52 : decode cX12_readsPiece 52 = .ok (.ifCond .eq 21, 3) := by decide +kernel
theorem dX12_readsPiece_55 : decode cX12_readsPiece 55 = .ok (.aload_n 0, 1) := by decide +kernel
theorem dX12_readsPiece_56 : decode cX12_readsPiece 56 = .ok (.invokevirtual 115, 3) := by decide +kernel
theorem dX12_readsPiece_59 : decode cX12_readsPiece 59 = .ok (.aload_n 0, 1) := by decide +kernel
theorem dX12_readsPiece_60 : decode cX12_readsPiece 60 = .ok (.aload_n 0, 1) := by decide +kernel
theorem dX12_readsPiece_61 : decode cX12_readsPiece 61 = .ok (.iconst 2, 1) := by decide +kernel
theorem dX12_readsPiece_62 : decode cX12_readsPiece 62 = .ok (.bipush 60, 2) := by decide +kernel
theorem dX12_readsPiece_64 : decode cX12_readsPiece 64 = .ok (.invokevirtual 145, 3) := by decide +kernel
theorem dX12_readsPiece_67 : decode cX12_readsPiece 67 = .ok (.putfield 148, 3) := by decide +kernel
theorem dX12_readsPiece_70 : decode cX12_readsPiece 70 = .ok (.goto 165, 3) := by decide +kernel
theorem dX12_readsPiece_73 : decode cX12_readsPiece 73 = .ok (.aload_n 0, 1) := by decide +kernel
theorem dX12_readsPiece_74 : decode cX12_readsPiece 74 = .ok (.ldc 134, 2) := by decide +kernel
theorem dX12_readsPiece_76 : decode cX12_readsPiece 76 = .ok (.invokevirtual 124, 3) := by decide +kernel
theorem dX12_readsPiece_79 : decode cX12_readsPiece 79 = .ok (.ifCond .eq 29, 3) := by decide +kernel
theorem dX12_readsPiece_82 : decode cX12_readsPiece 82 = .ok (.aload_n 0, 1) := by decide +kernel
theorem dX12_readsPiece_83 : decode cX12_readsPiece 83 = .ok (.iconst 2, 1) := by decide +kernel
theorem dX12_readsPiece_84 : decode cX12_readsPiece 84 = .ok (.invokevirtual 130, 3) := by decide +kernel
theorem dX12_readsPiece_87 : decode cX12_readsPiece 87 = .ok (.ifCond .eq 21, 3) := by decide +kernel
theorem dX12_readsPiece_90 : decode cX12_readsPiece 90 = .ok (.aload_n 0, 1) := by decide +kernel
theorem dX12_readsPiece_91 : decode cX12_readsPiece 91 = .ok (.invokevirtual 115, 3) := by decide +kernel
theorem dX12_readsPiece_94 : decode cX12_readsPiece 94 = .ok (.aload_n 0, 1) := by decide +kernel
theorem dX12_readsPiece_95 : decode cX12_readsPiece 95 = .ok (.aload_n 0, 1) := by decide +kernel
theorem dX12_readsPiece_96 : decode cX12_readsPiece 96 = .ok (.iconst 1, 1) := by decide +kernel
theorem dX12_readsPiece_97 : decode cX12_readsPiece 97 = .ok (.bipush 30, 2) := by decide +kernel
theorem dX12_readsPiece_99 : decode cX12_readsPiece 99 = .ok (.invokevirtual 145, 3) := by decide +kernel
theorem dX12_readsPiece_102 : decode cX12_readsPiece 102 = .ok (.putfield 151, 3) := by decide +kernel
theorem dX12_readsPiece_105 : decode cX12_readsPiece 105 = .ok (.goto 130, 3) := by decide +kernel
theorem dX12_readsPiece_108 : decode cX12_readsPiece 108 = .ok (.aload_n 0, 1) := by decide +kernel
theorem dX12_readsPiece_109 : decode cX12_readsPiece 109 = .ok (.ldc 154, 2) := by decide +kernel
theorem dX12_readsPiece_111 : decode cX12_readsPiece 111 = .ok (.invokevirtual 124, 3) := by decide +kernel
theorem dX12_readsPiece_114 : decode cX12_readsPiece 114 = .ok (.ifCond .eq 32, 3) := by decide +kernel
theorem dX12_readsPiece_117 : decode cX12_readsPiece 117 = .ok (.aload_n 0, 1) := by decide +kernel
theorem dX12_readsPiece_118 : decode cX12_readsPiece 118 = .ok (.iconst 3, 1) := by decide +kernel
theorem dX12_readsPiece_119 : decode cX12_readsPiece 119 = .ok (.invokevirtual 130, 3) := by decide +kernel
theorem dX12_readsPiece_122 : decode cX12_readsPiece 122 = .ok (.ifCond .eq 24, 3) := by decide +kernel
theorem dX12_readsPiece_125 : decode cX12_readsPiece 125 = .ok (.aload_n 0, 1) := by decide +kernel
theorem dX12_readsPiece_126 : decode cX12_readsPiece 126 = .ok (.invokevirtual 115, 3) := by decide +kernel
theorem dX12_readsPiece_129 : decode cX12_readsPiece 129 = .ok (.aload_n 0, 1) := by decide +kernel
theorem dX12_readsPiece_130 : decode cX12_readsPiece 130 = .ok (.aload_n 0, 1) := by decide +kernel
theorem dX12_readsPiece_131 : decode cX12_readsPiece 131 = .ok (.ldc 156, 2) := by decide +kernel
theorem dX12_readsPiece_133 : decode cX12_readsPiece 133 = .ok (.ldc 158, 2) := by decide +kernel
theorem dX12_readsPiece_135 : decode cX12_readsPiece 135 = .ok (.ldc 160, 2) := by decide +kernel
theorem dX12_readsPiece_137 : decode cX12_readsPiece 137 = .ok (.invokevirtual 137, 3) := by decide +kernel
theorem dX12_readsPiece_140 : decode cX12_readsPiece 140 = .ok (.putfield 162, 3) := by decide +kernel
theorem dX12_readsPiece_143 : decode cX12_readsPiece 143 = .ok (.goto 92, 3) := by decide +kernel
theorem dX12_readsPiece_146 : decode cX12_readsPiece 146 = .ok (.aload_n 0, 1) := by decide +kernel
theorem dX12_readsPiece_147 : decode cX12_readsPiece 147 = .ok (.ldc 165, 2) := by decide +kernel
theorem dX12_readsPiece_149 : decode cX12_readsPiece 149 = .ok (.invokevirtual 124, 3) := by decide +kernel
theorem dX12_readsPiece_152 : decode cX12_readsPiece 152 = .ok (.ifCond .eq 29, 3) := by decide +kernel
theorem dX12_readsPiece_155 : decode cX12_readsPiece 155 = .ok (.aload_n 0, 1) := by decide +kernel
theorem dX12_readsPiece_156 : decode cX12_readsPiece 156 = .ok (.iconst 4, 1) := by decide +kernel
theorem dX12_readsPiece_157 : decode cX12_readsPiece 157 = .ok (.invokevirtual 130, 3) := by decide +kernel
theorem dX12_readsPiece_160 : decode cX12_readsPiece 160 = .ok (.ifCond .eq 21, 3) := by decide +kernel
theorem dX12_readsPiece_163 : decode cX12_readsPiece 163 = .ok (.aload_n 0, 1) := by decide +kernel
theorem dX12_readsPiece_164 : decode cX12_readsPiece 164 = .ok (.invokevirtual 115, 3) := by decide +kernel
theorem dX12_readsPiece_167 : decode cX12_readsPiece 167 = .ok (.aload_n 0, 1) := by decide +kernel
theorem dX12_readsPiece_168 : decode cX12_readsPiece 168 = .ok (.aload_n 0, 1) := by decide +kernel
theorem dX12_readsPiece_169 : decode cX12_readsPiece 169 = .ok (.iconst 1, 1) := by decide +kernel
theorem dX12_readsPiece_170 : decode cX12_readsPiece 170 = .ok (.bipush 60, 2) := by decide +kernel
theorem dX12_readsPiece_172 : decode cX12_readsPiece 172 = .ok (.invokevirtual 145, 3) := by decide +kernel
theorem dX12_readsPiece_175 : decode cX12_readsPiece 175 = .ok (.putfield 167, 3) := by decide +kernel
theorem dX12_readsPiece_178 : decode cX12_readsPiece 178 = .ok (.goto 57, 3) := by decide +kernel
theorem dX12_readsPiece_181 : decode cX12_readsPiece 181 = .ok (.aload_n 0, 1) := by decide +kernel
theorem dX12_readsPiece_182 : decode cX12_readsPiece 182 = .ok (.ldc 170, 2) := by decide +kernel
theorem dX12_readsPiece_184 : decode cX12_readsPiece 184 = .ok (.invokevirtual 124, 3) := by decide +kernel
theorem dX12_readsPiece_187 : decode cX12_readsPiece 187 = .ok (.ifCond .eq 44, 3) := by decide +kernel
theorem dX12_readsPiece_190 : decode cX12_readsPiece 190 = .ok (.aload_n 0, 1) := by decide +kernel
theorem dX12_readsPiece_191 : decode cX12_readsPiece 191 = .ok (.getfield 172, 3) := by decide +kernel
theorem dX12_readsPiece_194 : decode cX12_readsPiece 194 = .ok (.iconst 4, 1) := by decide +kernel
theorem dX12_readsPiece_195 : decode cX12_readsPiece 195 = .ok (.if_icmp .ge 36, 3) := by decide +kernel
theorem dX12_readsPiece_198 : decode cX12_readsPiece 198 = .ok (.aload_n 0, 1) := by decide +kernel
theorem dX12_readsPiece_199 : decode cX12_readsPiece 199 = .ok (.invokevirtual 115, 3) := by decide +kernel
theorem dX12_readsPiece_202 : decode cX12_readsPiece 202 = .ok (.aload_n 0, 1) := by decide +kernel
theorem dX12_readsPiece_203 : decode cX12_readsPiece 203 = .ok (.getfield 13, 3) := by decide +kernel
theorem dX12_readsPiece_206 : decode cX12_readsPiece 206 = .ok (.aload_n 0, 1) := by decide +kernel
theorem dX12_readsPiece_207 : decode cX12_readsPiece 207 = .ok (.getfield 172, 3) := by decide +kernel
theorem dX12_readsPiece_210 : decode cX12_readsPiece 210 = .ok (.aload_n 0, 1) := by decide +kernel
theorem dX12_readsPiece_211 : decode cX12_readsPiece 211 = .ok (.iconst 1, 1) := by decide +kernel
theorem dX12_readsPiece_212 : decode cX12_readsPiece 212 = .ok (.bipush 8, 2) := by decide +kernel
theorem dX12_readsPiece_214 : decode cX12_readsPiece 214 = .ok (.invokevirtual 145, 3) := by decide +kernel
theorem dX12_readsPiece_217 : decode cX12_readsPiece 217 = .ok (.iastore, 1) := by decide +kernel
theorem dX12_readsPiece_218 : decode cX12_readsPiece 218 = .ok (.aload_n 0, 1) := by decide +kernel
theorem dX12_readsPiece_219 : decode cX12_readsPiece 219 = .ok (.dup, 1) := by decide +kernel
theorem dX12_readsPiece_220 : decode cX12_readsPiece 220 = .ok (.getfield 172, 3) := by decide +kernel
theorem dX12_readsPiece_223 : decode cX12_readsPiece 223 = .ok (.iconst 1, 1) := by decide +kernel
theorem dX12_readsPiece_224 : decode cX12_readsPiece 224 = .ok (.iadd, 1) := by decide +kernel
theorem dX12_readsPiece_225 : decode cX12_readsPiece 225 = .ok (.putfield 172, 3) := by decide +kernel
theorem dX12_readsPiece_228 : decode cX12_readsPiece 228 = .ok (.goto 7, 3) := by decide +kernel
theorem dX12_readsPiece_231 : decode cX12_readsPiece 231 = .ok (.aload_n 0, 1) := by decide +kernel
theorem dX12_readsPiece_232 : decode cX12_readsPiece 232 = .ok (.invokevirtual 118, 3) := by decide +kernel
theorem dX12_readsPiece_235 : decode cX12_readsPiece 235 = .ok (.return_, 1) := by decide +kernel
theorem dX12_reads_0 : decode cX12_reads 0 = .ok (.aload_n 0, 1) := by decide +kernel
theorem dX12_reads_1 : decode cX12_reads 1 = .ok (.iconst 0, 1) := by decide +kernel
theorem dX12_reads_2 : decode cX12_reads 2 = .ok (.putfield 74, 3) := by decide +kernel
theorem dX12_reads_5 : decode cX12_reads 5 = .ok (.aload_n 0, 1) := by decide +kernel
theorem dX12_reads_6 : decode cX12_reads 6 = .ok (.iconst (-1), 1) := by decide +kernel
theorem dX12_reads_7 : decode cX12_reads 7 = .ok (.putfield 103, 3) := by decide +kernel
theorem dX12_reads_10 : decode cX12_reads 10 = .ok (.aload_n 0, 1) := by decide +kernel
theorem dX12_reads_11 : decode cX12_reads 11 = .ok (.iconst 0, 1) := by decide +kernel
theorem dX12_reads_12 : decode cX12_reads 12 = .ok (.putfield 141, 3) := by decide +kernel
theorem dX12_reads_15 : decode cX12_reads 15 = .ok (.aload_n 0, 1) := by decide +kernel
theorem dX12_reads_16 : decode cX12_reads 16 = .ok (.bipush 20, 2) := by decide +kernel
theorem dX12_reads_18 : decode cX12_reads 18 = .ok (.putfield 148, 3) := by decide +kernel
theorem dX12_reads_21 : decode cX12_reads 21 = .ok (.aload_n 0, 1) := by decide +kernel
theorem dX12_reads_22 : decode cX12_reads 22 = .ok (.bipush 10, 2) := by decide +kernel
theorem dX12_reads_24 : decode cX12_reads 24 = .ok (.putfield 151, 3) := by decide +kernel
theorem dX12_reads_27 : decode cX12_reads 27 = .ok (.aload_n 0, 1) := by decide +kernel
theorem dX12_reads_28 : decode cX12_reads 28 = .ok (.iconst 1, 1) := by decide +kernel
theorem dX12_reads_29 : decode cX12_reads 29 = .ok (.putfield 162, 3) := by decide +kernel
theorem dX12_reads_32 : decode cX12_reads 32 = .ok (.aload_n 0, 1) := by decide +kernel
theorem dX12_reads_33 : decode cX12_reads 33 = .ok (.bipush 16, 2) := by decide +kernel
theorem dX12_reads_35 : decode cX12_reads 35 = .ok (.putfield 167, 3) := by decide +kernel
theorem dX12_reads_38 : decode cX12_reads 38 = .ok (.aload_n 0, 1) := by decide +kernel
theorem dX12_reads_39 : decode cX12_reads 39 = .ok (.iconst 0, 1) := by decide +kernel
theorem dX12_reads_40 : decode cX12_reads 40 = .ok (.putfield 172, 3) := by decide +kernel
theorem dX12_reads_43 : decode cX12_reads 43 = .ok (.aload_n 0, 1) := by decide +kernel
theorem dX12_reads_44 : decode cX12_reads 44 = .ok (.iconst 0, 1) := by decide +kernel
theorem dX12_reads_45 : decode cX12_reads 45 = .ok (.putfield 121, 3) := by decide +kernel
theorem dX12_reads_48 : decode cX12_reads 48 = .ok (.aload_n 0, 1) := by decide +kernel
theorem dX12_reads_49 : decode cX12_reads 49 = .ok (.invokevirtual 115, 3) := by decide +kernel
theorem dX12_reads_52 : decode cX12_reads 52 = .ok (.aload_n 0, 1) := by decide +kernel
theorem dX12_reads_53 : decode cX12_reads 53 = .ok (.invokevirtual 175, 3) := by decide +kernel
theorem dX12_reads_56 : decode cX12_reads 56 = .ok (.aload_n 0, 1) := by decide +kernel
theorem dX12_reads_57 : decode cX12_reads 57 = .ok (.invokevirtual 178, 3) := by decide +kernel
theorem dX12_reads_60 : decode cX12_reads 60 = .ok (.ifCond .eq 10, 3) := by decide +kernel
theorem dX12_reads_63 : decode cX12_reads 63 = .ok (.aload_n 0, 1) := by decide +kernel
theorem dX12_reads_64 : decode cX12_reads 64 = .ok (.invokevirtual 175, 3) := by decide +kernel
theorem dX12_reads_67 : decode cX12_reads 67 = .ok (.goto (-11), 3) := by decide +kernel
theorem dX12_reads_70 : decode cX12_reads 70 = .ok (.aload_n 0, 1) := by decide +kernel
theorem dX12_reads_71 : decode cX12_reads 71 = .ok (.getfield 103, 3) := by decide +kernel
theorem dX12_reads_74 : decode cX12_reads 74 = .ok (.iconst (-1), 1) := by decide +kernel
theorem dX12_reads_75 : decode cX12_reads 75 = .ok (.if_icmp .ne 21, 3) := by decide +kernel
theorem dX12_reads_78 : decode cX12_reads 78 = .ok (.aload_n 0, 1) := by decide +kernel
theorem dX12_reads_79 : decode cX12_reads 79 = .ok (.getfield 84, 3) := by decide +kernel
theorem dX12_reads_82 : decode cX12_reads 82 = .ok (.ifCond .ne 10, 3) := by decide +kernel
theorem dX12_reads_85 : decode cX12_reads 85 = .ok (.aload_n 0, 1) := by decide +kernel
theorem dX12_reads_86 : decode cX12_reads 86 = .ok (.getfield 172, 3) := by decide +kernel
theorem dX12_reads_89 : decode cX12_reads 89 = .ok (.ifCond .ne 7, 3) := by decide +kernel
theorem dX12_reads_92 : decode cX12_reads 92 = .ok (.aload_n 0, 1) := by decide +kernel
theorem dX12_reads_93 : decode cX12_reads 93 = .ok (.invokevirtual 118, 3) := by decide +kernel
theorem dX12_reads_96 : decode cX12_reads 96 = .ok (.aload_n 0, 1) := by decide +kernel
theorem dX12_reads_97 : decode cX12_reads 97 = .ok (.getfield 103, 3) := by decide +kernel
theorem dX12_reads_100 : decode cX12_reads 100 = .ok (.ireturn, 1) := by decide +kernel
theorem dX12_fault_0 : decode cX12_fault 0 = .ok (.aload_n 0, 1) := by decide +kernel
theorem dX12_fault_1 : decode cX12_fault 1 = .ok (.iconst 0, 1) := by decide +kernel
theorem dX12_fault_2 : decode cX12_fault 2 = .ok (.putfield 60, 3) := by decide +kernel
theorem dX12_fault_5 : decode cX12_fault 5 = .ok (.aload_n 0, 1) := by decide +kernel
theorem dX12_fault_6 : decode cX12_fault 6 = .ok (.invokevirtual 182, 3) := by decide +kernel
theorem dX12_fault_9 : decode cX12_fault 9 = .ok (.ireturn, 1) := by decide +kernel
theorem dX12_ofChannel_0 : decode cX12_ofChannel 0 = .ok (.sipush 1005, 3) := by decide +kernel
theorem dX12_ofChannel_3 : decode cX12_ofChannel 3 = .ok (.sipush 2076, 3) := by decide +kernel
theorem dX12_ofChannel_6 : decode cX12_ofChannel 6 = .ok (.iload_n 0, 1) := by decide +kernel
theorem dX12_ofChannel_7 : decode cX12_ofChannel 7 = .ok (.imul, 1) := by decide +kernel
theorem dX12_ofChannel_8 : decode cX12_ofChannel 8 = .ok (.iadd, 1) := by decide +kernel
theorem dX12_ofChannel_9 : decode cX12_ofChannel 9 = .ok (.iload_n 1, 1) := by decide +kernel
theorem dX12_ofChannel_10 : decode cX12_ofChannel 10 = .ok (.iadd, 1) := by decide +kernel
theorem dX12_ofChannel_11 : decode cX12_ofChannel 11 = .ok (.ireturn, 1) := by decide +kernel
theorem dX12_its_0 : decode cX12_its 0 = .ok (.aload_n 0, 1) := by decide +kernel
theorem dX12_its_1 : decode cX12_its 1 = .ok (.getfield 16, 3) := by decide +kernel
theorem dX12_its_4 : decode cX12_its 4 = .ok (.iload_n 1, 1) := by decide +kernel
theorem dX12_its_5 : decode cX12_its 5 = .ok (.iload_n 2, 1) := by decide +kernel
theorem dX12_its_6 : decode cX12_its 6 = .ok (.invokestatic 185, 3) := by decide +kernel
theorem dX12_its_9 : decode cX12_its 9 = .ok (.iaload, 1) := by decide +kernel
theorem dX12_its_10 : decode cX12_its 10 = .ok (.ireturn, 1) := by decide +kernel
theorem dX12_lay_0 : decode cX12_lay 0 = .ok (.aload_n 0, 1) := by decide +kernel
theorem dX12_lay_1 : decode cX12_lay 1 = .ok (.getfield 16, 3) := by decide +kernel
theorem dX12_lay_4 : decode cX12_lay 4 = .ok (.iload_n 1, 1) := by decide +kernel
theorem dX12_lay_5 : decode cX12_lay 5 = .ok (.iload_n 2, 1) := by decide +kernel
theorem dX12_lay_6 : decode cX12_lay 6 = .ok (.invokestatic 185, 3) := by decide +kernel
theorem dX12_lay_9 : decode cX12_lay 9 = .ok (.iload_n 3, 1) := by decide +kernel
theorem dX12_lay_10 : decode cX12_lay 10 = .ok (.iastore, 1) := by decide +kernel
theorem dX12_lay_11 : decode cX12_lay 11 = .ok (.return_, 1) := by decide +kernel
theorem dX12_more_0 : decode cX12_more 0 = .ok (.aload_n 0, 1) := by decide +kernel
theorem dX12_more_1 : decode cX12_more 1 = .ok (.getfield 16, 3) := by decide +kernel
theorem dX12_more_4 : decode cX12_more 4 = .ok (.iload_n 1, 1) := by decide +kernel
theorem dX12_more_5 : decode cX12_more 5 = .ok (.iload_n 2, 1) := by decide +kernel
theorem dX12_more_6 : decode cX12_more 6 = .ok (.invokestatic 185, 3) := by decide +kernel
theorem dX12_more_9 : decode cX12_more 9 = .ok (.dup2, 1) := by decide +kernel
theorem dX12_more_10 : decode cX12_more 10 = .ok (.iaload, 1) := by decide +kernel
theorem dX12_more_11 : decode cX12_more 11 = .ok (.iload_n 3, 1) := by decide +kernel
theorem dX12_more_12 : decode cX12_more 12 = .ok (.iadd, 1) := by decide +kernel
theorem dX12_more_13 : decode cX12_more 13 = .ok (.iastore, 1) := by decide +kernel
theorem dX12_more_14 : decode cX12_more 14 = .ok (.return_, 1) := by decide +kernel
theorem dX12_line_0 : decode cX12_line 0 = .ok (.aload_n 0, 1) := by decide +kernel
theorem dX12_line_1 : decode cX12_line 1 = .ok (.iconst 0, 1) := by decide +kernel
theorem dX12_line_2 : decode cX12_line 2 = .ok (.putfield 60, 3) := by decide +kernel
theorem dX12_line_5 : decode cX12_line 5 = .ok (.aload_n 0, 1) := by decide +kernel
theorem dX12_line_6 : decode cX12_line 6 = .ok (.invokevirtual 182, 3) := by decide +kernel
theorem dX12_line_9 : decode cX12_line 9 = .ok (.iconst (-1), 1) := by decide +kernel
theorem dX12_line_10 : decode cX12_line 10 = .ok (.if_icmp .eq 5, 3) := by decide +kernel
theorem dX12_line_13 : decode cX12_line 13 = .ok (.iconst (-1), 1) := by decide +kernel
theorem dX12_line_14 : decode cX12_line 14 = .ok (.ireturn, 1) := by decide +kernel
theorem dX12_line_15 : decode cX12_line 15 = .ok (.aload_n 0, 1) := by decide +kernel
theorem dX12_line_16 : decode cX12_line 16 = .ok (.iconst 0, 1) := by decide +kernel
theorem dX12_line_17 : decode cX12_line 17 = .ok (.putfield 63, 3) := by decide +kernel
theorem dX12_line_20 : decode cX12_line 20 = .ok (.aload_n 0, 1) := by decide +kernel
theorem dX12_line_21 : decode cX12_line 21 = .ok (.iconst 1, 1) := by decide +kernel
theorem dX12_line_22 : decode cX12_line 22 = .ok (.putfield 188, 3) := by decide +kernel
theorem dX12_line_25 : decode cX12_line 25 = .ok (.aload_n 0, 1) := by decide +kernel
theorem dX12_line_26 : decode cX12_line 26 = .ok (.aload_n 0, 1) := by decide +kernel
theorem dX12_line_27 : decode cX12_line 27 = .ok (.getfield 141, 3) := by decide +kernel
theorem dX12_line_30 : decode cX12_line 30 = .ok (.putfield 192, 3) := by decide +kernel
theorem dX12_line_33 : decode cX12_line 33 = .ok (.aload_n 0, 1) := by decide +kernel
theorem dX12_line_34 : decode cX12_line 34 = .ok (.aload_n 0, 1) := by decide +kernel
theorem dX12_line_35 : decode cX12_line 35 = .ok (.getfield 148, 3) := by decide +kernel
theorem dX12_line_38 : decode cX12_line 38 = .ok (.putfield 19, 3) := by decide +kernel
theorem dX12_line_41 : decode cX12_line 41 = .ok (.aload_n 0, 1) := by decide +kernel
theorem dX12_line_42 : decode cX12_line 42 = .ok (.aload_n 0, 1) := by decide +kernel
theorem dX12_line_43 : decode cX12_line 43 = .ok (.getfield 151, 3) := by decide +kernel
theorem dX12_line_46 : decode cX12_line 46 = .ok (.putfield 23, 3) := by decide +kernel
theorem dX12_line_49 : decode cX12_line 49 = .ok (.aload_n 0, 1) := by decide +kernel
theorem dX12_line_50 : decode cX12_line 50 = .ok (.aload_n 0, 1) := by decide +kernel
theorem dX12_line_51 : decode cX12_line 51 = .ok (.getfield 162, 3) := by decide +kernel
theorem dX12_line_54 : decode cX12_line 54 = .ok (.putfield 194, 3) := by decide +kernel
theorem dX12_line_57 : decode cX12_line 57 = .ok (.aload_n 0, 1) := by decide +kernel
theorem dX12_line_58 : decode cX12_line 58 = .ok (.aload_n 0, 1) := by decide +kernel
theorem dX12_line_59 : decode cX12_line 59 = .ok (.getfield 167, 3) := by decide +kernel
theorem dX12_line_62 : decode cX12_line 62 = .ok (.putfield 196, 3) := by decide +kernel
theorem dX12_line_65 : decode cX12_line 65 = .ok (.aload_n 0, 1) := by decide +kernel
theorem dX12_line_66 : decode cX12_line 66 = .ok (.aload_n 0, 1) := by decide +kernel
theorem dX12_line_67 : decode cX12_line 67 = .ok (.getfield 172, 3) := by decide +kernel
theorem dX12_line_70 : decode cX12_line 70 = .ok (.putfield 198, 3) := by decide +kernel
theorem dX12_line_73 : decode cX12_line 73 = .ok (.iconst 0, 1) := by decide +kernel
theorem dX12_line_74 : decode cX12_line 74 = .ok (.istore_n 1, 1) := by decide +kernel
theorem dX12_line_75 : decode cX12_line 75 = .ok (.iload_n 1, 1) := by decide +kernel
theorem dX12_line_76 : decode cX12_line 76 = .ok (.sipush 9309, 3) := by decide +kernel
theorem dX12_line_79 : decode cX12_line 79 = .ok (.if_icmp .ge 16, 3) := by decide +kernel
theorem dX12_line_82 : decode cX12_line 82 = .ok (.aload_n 0, 1) := by decide +kernel
theorem dX12_line_83 : decode cX12_line 83 = .ok (.getfield 16, 3) := by decide +kernel
theorem dX12_line_86 : decode cX12_line 86 = .ok (.iload_n 1, 1) := by decide +kernel
theorem dX12_line_87 : decode cX12_line 87 = .ok (.iconst 0, 1) := by decide +kernel
theorem dX12_line_88 : decode cX12_line 88 = .ok (.iastore, 1) := by decide +kernel
theorem dX12_line_89 : decode cX12_line 89 = .ok (.iinc 1 1, 3) := by decide +kernel
theorem dX12_line_92 : decode cX12_line 92 = .ok (.goto (-17), 3) := by decide +kernel
theorem dX12_line_95 : decode cX12_line 95 = .ok (.aload_n 0, 1) := by decide +kernel
theorem dX12_line_96 : decode cX12_line 96 = .ok (.getfield 16, 3) := by decide +kernel
theorem dX12_line_99 : decode cX12_line 99 = .ok (.sipush 803, 3) := by decide +kernel
theorem dX12_line_102 : decode cX12_line 102 = .ok (.iconst (-1), 1) := by decide +kernel
theorem dX12_line_103 : decode cX12_line 103 = .ok (.iastore, 1) := by decide +kernel
theorem dX12_line_104 : decode cX12_line 104 = .ok (.iconst 0, 1) := by decide +kernel
theorem dX12_line_105 : decode cX12_line 105 = .ok (.istore_n 1, 1) := by decide +kernel
theorem dX12_line_106 : decode cX12_line 106 = .ok (.iload_n 1, 1) := by decide +kernel
theorem dX12_line_107 : decode cX12_line 107 = .ok (.aload_n 0, 1) := by decide +kernel
theorem dX12_line_108 : decode cX12_line 108 = .ok (.getfield 198, 3) := by decide +kernel
theorem dX12_line_111 : decode cX12_line 111 = .ok (.if_icmp .ge 33, 3) := by decide +kernel
theorem dX12_line_114 : decode cX12_line 114 = .ok (.aload_n 0, 1) := by decide +kernel
theorem dX12_line_115 : decode cX12_line 115 = .ok (.getfield 26, 3) := by decide +kernel
theorem dX12_line_118 : decode cX12_line 118 = .ok (.iload_n 1, 1) := by decide +kernel
theorem dX12_line_119 : decode cX12_line 119 = .ok (.aload_n 0, 1) := by decide +kernel
theorem dX12_line_120 : decode cX12_line 120 = .ok (.getfield 13, 3) := by decide +kernel
theorem dX12_line_123 : decode cX12_line 123 = .ok (.iload_n 1, 1) := by decide +kernel
theorem dX12_line_124 : decode cX12_line 124 = .ok (.iaload, 1) := by decide +kernel
theorem dX12_line_125 : decode cX12_line 125 = .ok (.iastore, 1) := by decide +kernel
theorem dX12_line_126 : decode cX12_line 126 = .ok (.aload_n 0, 1) := by decide +kernel
theorem dX12_line_127 : decode cX12_line 127 = .ok (.iload_n 1, 1) := by decide +kernel
theorem dX12_line_128 : decode cX12_line 128 = .ok (.iconst 0, 1) := by decide +kernel
theorem dX12_line_129 : decode cX12_line 129 = .ok (.aload_n 0, 1) := by decide +kernel
theorem dX12_line_130 : decode cX12_line 130 = .ok (.getfield 26, 3) := by decide +kernel
theorem dX12_line_133 : decode cX12_line 133 = .ok (.iload_n 1, 1) := by decide +kernel
theorem dX12_line_134 : decode cX12_line 134 = .ok (.iaload, 1) := by decide +kernel
theorem dX12_line_135 : decode cX12_line 135 = .ok (.invokevirtual 201, 3) := by decide +kernel
theorem dX12_line_138 : decode cX12_line 138 = .ok (.iinc 1 1, 3) := by decide +kernel
theorem dX12_line_141 : decode cX12_line 141 = .ok (.goto (-35), 3) := by decide +kernel
theorem dX12_line_144 : decode cX12_line 144 = .ok (.aload_n 0, 1) := by decide +kernel
theorem dX12_line_145 : decode cX12_line 145 = .ok (.iconst 0, 1) := by decide +kernel
theorem dX12_line_146 : decode cX12_line 146 = .ok (.putfield 205, 3) := by decide +kernel
theorem dX12_line_149 : decode cX12_line 149 = .ok (.aload_n 0, 1) := by decide +kernel
theorem dX12_line_150 : decode cX12_line 150 = .ok (.iconst 0, 1) := by decide +kernel
theorem dX12_line_151 : decode cX12_line 151 = .ok (.putfield 208, 3) := by decide +kernel
theorem dX12_line_154 : decode cX12_line 154 = .ok (.aload_n 0, 1) := by decide +kernel
theorem dX12_line_155 : decode cX12_line 155 = .ok (.iconst 0, 1) := by decide +kernel
theorem dX12_line_156 : decode cX12_line 156 = .ok (.putfield 211, 3) := by decide +kernel
theorem dX12_line_159 : decode cX12_line 159 = .ok (.aload_n 0, 1) := by decide +kernel
theorem dX12_line_160 : decode cX12_line 160 = .ok (.getfield 198, 3) := by decide +kernel
theorem dX12_line_163 : decode cX12_line 163 = .ok (.ireturn, 1) := by decide +kernel
theorem dX12_puts_0 : decode cX12_puts 0 = .ok (.aload_n 0, 1) := by decide +kernel
theorem dX12_puts_1 : decode cX12_puts 1 = .ok (.getfield 32, 3) := by decide +kernel
theorem dX12_puts_4 : decode cX12_puts 4 = .ok (.aload_n 0, 1) := by decide +kernel
theorem dX12_puts_5 : decode cX12_puts 5 = .ok (.getfield 214, 3) := by decide +kernel
theorem dX12_puts_8 : decode cX12_puts 8 = .ok (.iload_n 1, 1) := by decide +kernel
theorem dX12_puts_9 : decode cX12_puts 9 = .ok (.iastore, 1) := by decide +kernel
theorem dX12_puts_10 : decode cX12_puts 10 = .ok (.aload_n 0, 1) := by decide +kernel
theorem dX12_puts_11 : decode cX12_puts 11 = .ok (.dup, 1) := by decide +kernel
theorem dX12_puts_12 : decode cX12_puts 12 = .ok (.getfield 214, 3) := by decide +kernel
theorem dX12_puts_15 : decode cX12_puts 15 = .ok (.iconst 1, 1) := by decide +kernel
theorem dX12_puts_16 : decode cX12_puts 16 = .ok (.iadd, 1) := by decide +kernel
theorem dX12_puts_17 : decode cX12_puts 17 = .ok (.putfield 214, 3) := by decide +kernel
theorem dX12_puts_20 : decode cX12_puts 20 = .ok (.return_, 1) := by decide +kernel
theorem dX12_runFrom_0 : decode cX12_runFrom 0 = .ok (.iconst 0, 1) := by decide +kernel
theorem dX12_runFrom_1 : decode cX12_runFrom 1 = .ok (.istore_n 2, 1) := by decide +kernel
theorem dX12_runFrom_2 : decode cX12_runFrom 2 = .ok (.iload_n 1, 1) := by decide +kernel
theorem dX12_runFrom_3 : decode cX12_runFrom 3 = .ok (.iload_n 2, 1) := by decide +kernel
theorem dX12_runFrom_4 : decode cX12_runFrom 4 = .ok (.iadd, 1) := by decide +kernel
theorem dX12_runFrom_5 : decode cX12_runFrom 5 = .ok (.aload_n 0, 1) := by decide +kernel
theorem dX12_runFrom_6 : decode cX12_runFrom 6 = .ok (.getfield 217, 3) := by decide +kernel
theorem dX12_runFrom_9 : decode cX12_runFrom 9 = .ok (.if_icmp .ge 28, 3) := by decide +kernel
theorem dX12_runFrom_12 : decode cX12_runFrom 12 = .ok (.aload_n 0, 1) := by decide +kernel
theorem dX12_runFrom_13 : decode cX12_runFrom 13 = .ok (.getfield 29, 3) := by decide +kernel
theorem dX12_runFrom_16 : decode cX12_runFrom 16 = .ok (.iload_n 1, 1) := by decide +kernel
theorem dX12_runFrom_17 : decode cX12_runFrom 17 = .ok (.iload_n 2, 1) := by decide +kernel
theorem dX12_runFrom_18 : decode cX12_runFrom 18 = .ok (.iadd, 1) := by decide +kernel
theorem dX12_runFrom_19 : decode cX12_runFrom 19 = .ok (.iaload, 1) := by decide +kernel
theorem dX12_runFrom_20 : decode cX12_runFrom 20 = .ok (.ifCond .eq 17, 3) := by decide +kernel
theorem dX12_runFrom_23 : decode cX12_runFrom 23 = .ok (.iload_n 2, 1) := by decide +kernel
theorem dX12_runFrom_24 : decode cX12_runFrom 24 = .ok (.aload_n 0, 1) := by decide +kernel
theorem dX12_runFrom_25 : decode cX12_runFrom 25 = .ok (.getfield 19, 3) := by decide +kernel
theorem dX12_runFrom_28 : decode cX12_runFrom 28 = .ok (.if_icmp .ge 9, 3) := by decide +kernel
theorem dX12_runFrom_31 : decode cX12_runFrom 31 = .ok (.iinc 2 1, 3) := by decide +kernel
theorem dX12_runFrom_34 : decode cX12_runFrom 34 = .ok (.goto (-32), 3) := by decide +kernel
theorem dX12_runFrom_37 : decode cX12_runFrom 37 = .ok (.iload_n 2, 1) := by decide +kernel
theorem dX12_runFrom_38 : decode cX12_runFrom 38 = .ok (.ireturn, 1) := by decide +kernel
theorem dX12_block_0 : decode cX12_block 0 = .ok (.aload_n 0, 1) := by decide +kernel
theorem dX12_block_1 : decode cX12_block 1 = .ok (.aload_n 0, 1) := by decide +kernel
theorem dX12_block_2 : decode cX12_block 2 = .ok (.getfield 214, 3) := by decide +kernel
theorem dX12_block_5 : decode cX12_block 5 = .ok (.putfield 220, 3) := by decide +kernel
theorem dX12_block_8 : decode cX12_block 8 = .ok (.aload_n 0, 1) := by decide +kernel
theorem dX12_block_9 : decode cX12_block 9 = .ok (.iload_n 1, 1) := by decide +kernel
theorem dX12_block_10 : decode cX12_block 10 = .ok (.invokevirtual 223, 3) := by decide +kernel
theorem dX12_block_13 : decode cX12_block 13 = .ok (.iconst 0, 1) := by decide +kernel
theorem dX12_block_14 : decode cX12_block 14 = .ok (.istore 4, 2) := by decide +kernel
theorem dX12_block_16 : decode cX12_block 16 = .ok (.iload 4, 2) := by decide +kernel
theorem dX12_block_18 : decode cX12_block 18 = .ok (.iload_n 3, 1) := by decide +kernel
theorem dX12_block_19 : decode cX12_block 19 = .ok (.if_icmp .ge 22, 3) := by decide +kernel
theorem dX12_block_22 : decode cX12_block 22 = .ok (.aload_n 0, 1) := by decide +kernel
theorem dX12_block_23 : decode cX12_block 23 = .ok (.aload_n 0, 1) := by decide +kernel
theorem dX12_block_24 : decode cX12_block 24 = .ok (.getfield 29, 3) := by decide +kernel
theorem dX12_block_27 : decode cX12_block 27 = .ok (.iload_n 2, 1) := by decide +kernel
theorem dX12_block_28 : decode cX12_block 28 = .ok (.iload 4, 2) := by decide +kernel
theorem dX12_block_30 : decode cX12_block 30 = .ok (.iadd, 1) := by decide +kernel
theorem dX12_block_31 : decode cX12_block 31 = .ok (.iaload, 1) := by decide +kernel
theorem dX12_block_32 : decode cX12_block 32 = .ok (.invokevirtual 223, 3) := by decide +kernel
theorem dX12_block_35 : decode cX12_block 35 = .ok (.iinc 4 1, 3) := by decide +kernel
theorem dX12_block_38 : decode cX12_block 38 = .ok (.goto (-22), 3) := by decide +kernel
theorem dX12_block_41 : decode cX12_block 41 = .ok (.return_, 1) := by decide +kernel
theorem dX12_isPair_0 : decode cX12_isPair 0 = .ok (.iload_n 1, 1) := by decide +kernel
theorem dX12_isPair_1 : decode cX12_isPair 1 = .ok (.iconst 1, 1) := by decide +kernel
theorem dX12_isPair_2 : decode cX12_isPair 2 = .ok (.iadd, 1) := by decide +kernel
theorem dX12_isPair_3 : decode cX12_isPair 3 = .ok (.aload_n 0, 1) := by decide +kernel
theorem dX12_isPair_4 : decode cX12_isPair 4 = .ok (.getfield 217, 3) := by decide +kernel
theorem dX12_isPair_7 : decode cX12_isPair 7 = .ok (.if_icmp .ge 27, 3) := by decide +kernel
theorem dX12_isPair_10 : decode cX12_isPair 10 = .ok (.aload_n 0, 1) := by decide +kernel
theorem dX12_isPair_11 : decode cX12_isPair 11 = .ok (.getfield 29, 3) := by decide +kernel
theorem dX12_isPair_14 : decode cX12_isPair 14 = .ok (.iload_n 1, 1) := by decide +kernel
theorem dX12_isPair_15 : decode cX12_isPair 15 = .ok (.iaload, 1) := by decide +kernel
theorem dX12_isPair_16 : decode cX12_isPair 16 = .ok (.ifCond .ne 18, 3) := by decide +kernel
theorem dX12_isPair_19 : decode cX12_isPair 19 = .ok (.aload_n 0, 1) := by decide +kernel
theorem dX12_isPair_20 : decode cX12_isPair 20 = .ok (.getfield 29, 3) := by decide +kernel
theorem dX12_isPair_23 : decode cX12_isPair 23 = .ok (.iload_n 1, 1) := by decide +kernel
theorem dX12_isPair_24 : decode cX12_isPair 24 = .ok (.iconst 1, 1) := by decide +kernel
theorem dX12_isPair_25 : decode cX12_isPair 25 = .ok (.iadd, 1) := by decide +kernel
theorem dX12_isPair_26 : decode cX12_isPair 26 = .ok (.iaload, 1) := by decide +kernel
theorem dX12_isPair_27 : decode cX12_isPair 27 = .ok (.ifCond .ne 7, 3) := by decide +kernel
theorem dX12_isPair_30 : decode cX12_isPair 30 = .ok (.iconst 1, 1) := by decide +kernel
theorem dX12_isPair_31 : decode cX12_isPair 31 = .ok (.goto 4, 3) := by decide +kernel
theorem dX12_isPair_34 : decode cX12_isPair 34 = .ok (.iconst 0, 1) := by decide +kernel
theorem dX12_isPair_35 : decode cX12_isPair 35 = .ok (.ireturn, 1) := by decide +kernel
theorem dX12_stuffs_0 : decode cX12_stuffs 0 = .ok (.aload_n 0, 1) := by decide +kernel
theorem dX12_stuffs_1 : decode cX12_stuffs 1 = .ok (.iconst 0, 1) := by decide +kernel
theorem dX12_stuffs_2 : decode cX12_stuffs 2 = .ok (.putfield 214, 3) := by decide +kernel
theorem dX12_stuffs_5 : decode cX12_stuffs 5 = .ok (.iconst 0, 1) := by decide +kernel
theorem dX12_stuffs_6 : decode cX12_stuffs 6 = .ok (.istore_n 2, 1) := by decide +kernel
theorem dX12_stuffs_7 : decode cX12_stuffs 7 = .ok (.iconst 1, 1) := by decide +kernel
theorem dX12_stuffs_8 : decode cX12_stuffs 8 = .ok (.istore_n 3, 1) := by decide +kernel
theorem dX12_stuffs_9 : decode cX12_stuffs 9 = .ok (.iload_n 3, 1) := by decide +kernel
theorem dX12_stuffs_10 : decode cX12_stuffs 10 = .ok (.ifCond .eq 155, 3) := by decide +kernel
theorem dX12_stuffs_13 : decode cX12_stuffs 13 = .ok (.aload_n 0, 1) := by decide +kernel
theorem dX12_stuffs_14 : decode cX12_stuffs 14 = .ok (.iload_n 2, 1) := by decide +kernel
theorem dX12_stuffs_15 : decode cX12_stuffs 15 = .ok (.invokevirtual 226, 3) := by decide +kernel
theorem dX12_stuffs_18 : decode cX12_stuffs 18 = .ok (.istore 4, 2) := by decide +kernel
theorem dX12_stuffs_20 : decode cX12_stuffs 20 = .ok (.iload 4, 2) := by decide +kernel
theorem dX12_stuffs_22 : decode cX12_stuffs 22 = .ok (.aload_n 0, 1) := by decide +kernel
theorem dX12_stuffs_23 : decode cX12_stuffs 23 = .ok (.getfield 19, 3) := by decide +kernel
theorem dX12_stuffs_26 : decode cX12_stuffs 26 = .ok (.if_icmp .ne 38, 3) := by decide +kernel
theorem dX12_stuffs_29 : decode cX12_stuffs 29 = .ok (.aload_n 0, 1) := by decide +kernel
theorem dX12_stuffs_30 : decode cX12_stuffs 30 = .ok (.aload_n 0, 1) := by decide +kernel
theorem dX12_stuffs_31 : decode cX12_stuffs 31 = .ok (.getfield 19, 3) := by decide +kernel
theorem dX12_stuffs_34 : decode cX12_stuffs 34 = .ok (.iconst 1, 1) := by decide +kernel
theorem dX12_stuffs_35 : decode cX12_stuffs 35 = .ok (.iadd, 1) := by decide +kernel
theorem dX12_stuffs_36 : decode cX12_stuffs 36 = .ok (.iload_n 2, 1) := by decide +kernel
theorem dX12_stuffs_37 : decode cX12_stuffs 37 = .ok (.iload 4, 2) := by decide +kernel
theorem dX12_stuffs_39 : decode cX12_stuffs 39 = .ok (.invokevirtual 230, 3) := by decide +kernel
theorem dX12_stuffs_42 : decode cX12_stuffs 42 = .ok (.iload_n 2, 1) := by decide +kernel
theorem dX12_stuffs_43 : decode cX12_stuffs 43 = .ok (.iload 4, 2) := by decide +kernel
theorem dX12_stuffs_45 : decode cX12_stuffs 45 = .ok (.iadd, 1) := by decide +kernel
theorem dX12_stuffs_46 : decode cX12_stuffs 46 = .ok (.istore_n 2, 1) := by decide +kernel
theorem dX12_stuffs_47 : decode cX12_stuffs 47 = .ok (.iload_n 2, 1) := by decide +kernel
theorem dX12_stuffs_48 : decode cX12_stuffs 48 = .ok (.aload_n 0, 1) := by decide +kernel
theorem dX12_stuffs_49 : decode cX12_stuffs 49 = .ok (.getfield 217, 3) := by decide +kernel
theorem dX12_stuffs_52 : decode cX12_stuffs 52 = .ok (.if_icmp .ge 7, 3) := by decide +kernel
theorem dX12_stuffs_55 : decode cX12_stuffs 55 = .ok (.iconst 1, 1) := by decide +kernel
theorem dX12_stuffs_56 : decode cX12_stuffs 56 = .ok (.goto 4, 3) := by decide +kernel
theorem dX12_stuffs_59 : decode cX12_stuffs 59 = .ok (.iconst 0, 1) := by decide +kernel
theorem dX12_stuffs_60 : decode cX12_stuffs 60 = .ok (.istore_n 3, 1) := by decide +kernel
theorem dX12_stuffs_61 : decode cX12_stuffs 61 = .ok (.goto 101, 3) := by decide +kernel
theorem dX12_stuffs_64 : decode cX12_stuffs 64 = .ok (.iload_n 1, 1) := by decide +kernel
theorem dX12_stuffs_65 : decode cX12_stuffs 65 = .ok (.iconst 1, 1) := by decide +kernel
theorem dX12_stuffs_66 : decode cX12_stuffs 66 = .ok (.if_icmp .ne 63, 3) := by decide +kernel
theorem dX12_stuffs_69 : decode cX12_stuffs 69 = .ok (.iload 4, 2) := by decide +kernel
theorem dX12_stuffs_71 : decode cX12_stuffs 71 = .ok (.aload_n 0, 1) := by decide +kernel
theorem dX12_stuffs_72 : decode cX12_stuffs 72 = .ok (.getfield 23, 3) := by decide +kernel
theorem dX12_stuffs_75 : decode cX12_stuffs 75 = .ok (.if_icmp .ge 54, 3) := by decide +kernel
theorem dX12_stuffs_78 : decode cX12_stuffs 78 = .ok (.aload_n 0, 1) := by decide +kernel
theorem dX12_stuffs_79 : decode cX12_stuffs 79 = .ok (.iload_n 2, 1) := by decide +kernel
theorem dX12_stuffs_80 : decode cX12_stuffs 80 = .ok (.iload 4, 2) := by decide +kernel
theorem dX12_stuffs_82 : decode cX12_stuffs 82 = .ok (.iadd, 1) := by decide +kernel
theorem dX12_stuffs_83 : decode cX12_stuffs 83 = .ok (.invokevirtual 233, 3) := by decide +kernel
theorem dX12_stuffs_86 : decode cX12_stuffs 86 = .ok (.ifCond .eq 43, 3) := by decide +kernel
theorem dX12_stuffs_89 : decode cX12_stuffs 89 = .ok (.aload_n 0, 1) := by decide +kernel
theorem dX12_stuffs_90 : decode cX12_stuffs 90 = .ok (.aload_n 0, 1) := by decide +kernel
theorem dX12_stuffs_91 : decode cX12_stuffs 91 = .ok (.getfield 19, 3) := by decide +kernel
theorem dX12_stuffs_94 : decode cX12_stuffs 94 = .ok (.iconst 2, 1) := by decide +kernel
theorem dX12_stuffs_95 : decode cX12_stuffs 95 = .ok (.iadd, 1) := by decide +kernel
theorem dX12_stuffs_96 : decode cX12_stuffs 96 = .ok (.iload 4, 2) := by decide +kernel
theorem dX12_stuffs_98 : decode cX12_stuffs 98 = .ok (.iadd, 1) := by decide +kernel
theorem dX12_stuffs_99 : decode cX12_stuffs 99 = .ok (.iload_n 2, 1) := by decide +kernel
theorem dX12_stuffs_100 : decode cX12_stuffs 100 = .ok (.iload 4, 2) := by decide +kernel
theorem dX12_stuffs_102 : decode cX12_stuffs 102 = .ok (.invokevirtual 230, 3) := by decide +kernel
theorem dX12_stuffs_105 : decode cX12_stuffs 105 = .ok (.iload_n 2, 1) := by decide +kernel
theorem dX12_stuffs_106 : decode cX12_stuffs 106 = .ok (.iload 4, 2) := by decide +kernel
theorem dX12_stuffs_108 : decode cX12_stuffs 108 = .ok (.iconst 2, 1) := by decide +kernel
theorem dX12_stuffs_109 : decode cX12_stuffs 109 = .ok (.iadd, 1) := by decide +kernel
theorem dX12_stuffs_110 : decode cX12_stuffs 110 = .ok (.iadd, 1) := by decide +kernel
theorem dX12_stuffs_111 : decode cX12_stuffs 111 = .ok (.istore_n 2, 1) := by decide +kernel
theorem dX12_stuffs_112 : decode cX12_stuffs 112 = .ok (.iload_n 2, 1) := by decide +kernel
theorem dX12_stuffs_113 : decode cX12_stuffs 113 = .ok (.aload_n 0, 1) := by decide +kernel
theorem dX12_stuffs_114 : decode cX12_stuffs 114 = .ok (.getfield 217, 3) := by decide +kernel
theorem dX12_stuffs_117 : decode cX12_stuffs 117 = .ok (.if_icmp .ge 7, 3) := by decide +kernel
theorem dX12_stuffs_120 : decode cX12_stuffs 120 = .ok (.iconst 1, 1) := by decide +kernel
theorem dX12_stuffs_121 : decode cX12_stuffs 121 = .ok (.goto 4, 3) := by decide +kernel
theorem dX12_stuffs_124 : decode cX12_stuffs 124 = .ok (.iconst 0, 1) := by decide +kernel
theorem dX12_stuffs_125 : decode cX12_stuffs 125 = .ok (.istore_n 3, 1) := by decide +kernel
theorem dX12_stuffs_126 : decode cX12_stuffs 126 = .ok (.goto 36, 3) := by decide +kernel
theorem dX12_stuffs_129 : decode cX12_stuffs 129 = .ok (.aload_n 0, 1) := by decide +kernel
theorem dX12_stuffs_130 : decode cX12_stuffs 130 = .ok (.iload 4, 2) := by decide +kernel
theorem dX12_stuffs_132 : decode cX12_stuffs 132 = .ok (.iconst 1, 1) := by decide +kernel
theorem dX12_stuffs_133 : decode cX12_stuffs 133 = .ok (.iadd, 1) := by decide +kernel
theorem dX12_stuffs_134 : decode cX12_stuffs 134 = .ok (.iload_n 2, 1) := by decide +kernel
theorem dX12_stuffs_135 : decode cX12_stuffs 135 = .ok (.iload 4, 2) := by decide +kernel
theorem dX12_stuffs_137 : decode cX12_stuffs 137 = .ok (.invokevirtual 230, 3) := by decide +kernel
theorem dX12_stuffs_140 : decode cX12_stuffs 140 = .ok (.iload_n 2, 1) := by decide +kernel
theorem dX12_stuffs_141 : decode cX12_stuffs 141 = .ok (.iload 4, 2) := by decide +kernel
theorem dX12_stuffs_143 : decode cX12_stuffs 143 = .ok (.iadd, 1) := by decide +kernel
theorem dX12_stuffs_144 : decode cX12_stuffs 144 = .ok (.istore_n 2, 1) := by decide +kernel
theorem dX12_stuffs_145 : decode cX12_stuffs 145 = .ok (.iload_n 2, 1) := by decide +kernel
theorem dX12_stuffs_146 : decode cX12_stuffs 146 = .ok (.aload_n 0, 1) := by decide +kernel
theorem dX12_stuffs_147 : decode cX12_stuffs 147 = .ok (.getfield 217, 3) := by decide +kernel
theorem dX12_stuffs_150 : decode cX12_stuffs 150 = .ok (.if_icmp .ge 7, 3) := by decide +kernel
theorem dX12_stuffs_153 : decode cX12_stuffs 153 = .ok (.iconst 1, 1) := by decide +kernel
theorem dX12_stuffs_154 : decode cX12_stuffs 154 = .ok (.goto 4, 3) := by decide +kernel
theorem dX12_stuffs_157 : decode cX12_stuffs 157 = .ok (.iconst 0, 1) := by decide +kernel
theorem dX12_stuffs_158 : decode cX12_stuffs 158 = .ok (.istore_n 3, 1) := by decide +kernel
theorem dX12_stuffs_159 : decode cX12_stuffs 159 = .ok (.iinc 2 1, 3) := by decide +kernel
theorem dX12_stuffs_162 : decode cX12_stuffs 162 = .ok (.goto (-153), 3) := by decide +kernel
theorem dX12_stuffs_165 : decode cX12_stuffs 165 = .ok (.iload_n 1, 1) := by decide +kernel
theorem dX12_stuffs_166 : decode cX12_stuffs 166 = .ok (.iconst 2, 1) := by decide +kernel
theorem dX12_stuffs_167 : decode cX12_stuffs 167 = .ok (.if_icmp .ne 69, 3) := by decide +kernel
theorem dX12_stuffs_170 : decode cX12_stuffs 170 = .ok (.aload_n 0, 1) := by decide +kernel
theorem dX12_stuffs_171 : decode cX12_stuffs 171 = .ok (.getfield 214, 3) := by decide +kernel
theorem dX12_stuffs_174 : decode cX12_stuffs 174 = .ok (.iconst 1, 1) := by decide +kernel
theorem dX12_stuffs_175 : decode cX12_stuffs 175 = .ok (.isub, 1) := by decide +kernel
theorem dX12_stuffs_176 : decode cX12_stuffs 176 = .ok (.aload_n 0, 1) := by decide +kernel
theorem dX12_stuffs_177 : decode cX12_stuffs 177 = .ok (.getfield 220, 3) := by decide +kernel
theorem dX12_stuffs_180 : decode cX12_stuffs 180 = .ok (.if_icmp .le 56, 3) := by decide +kernel
theorem dX12_stuffs_183 : decode cX12_stuffs 183 = .ok (.aload_n 0, 1) := by decide +kernel
theorem dX12_stuffs_184 : decode cX12_stuffs 184 = .ok (.getfield 32, 3) := by decide +kernel
theorem dX12_stuffs_187 : decode cX12_stuffs 187 = .ok (.aload_n 0, 1) := by decide +kernel
theorem dX12_stuffs_188 : decode cX12_stuffs 188 = .ok (.getfield 214, 3) := by decide +kernel
theorem dX12_stuffs_191 : decode cX12_stuffs 191 = .ok (.iconst 1, 1) := by decide +kernel
theorem dX12_stuffs_192 : decode cX12_stuffs 192 = .ok (.isub, 1) := by decide +kernel
theorem dX12_stuffs_193 : decode cX12_stuffs 193 = .ok (.iaload, 1) := by decide +kernel
theorem dX12_stuffs_194 : decode cX12_stuffs 194 = .ok (.aload_n 0, 1) := by decide +kernel
theorem dX12_stuffs_195 : decode cX12_stuffs 195 = .ok (.getfield 32, 3) := by decide +kernel
theorem dX12_stuffs_198 : decode cX12_stuffs 198 = .ok (.aload_n 0, 1) := by decide +kernel
theorem dX12_stuffs_199 : decode cX12_stuffs 199 = .ok (.getfield 220, 3) := by decide +kernel
theorem dX12_stuffs_202 : decode cX12_stuffs 202 = .ok (.iaload, 1) := by decide +kernel
theorem dX12_stuffs_203 : decode cX12_stuffs 203 = .ok (.if_icmp .lt 33, 3) := by decide +kernel
theorem dX12_stuffs_206 : decode cX12_stuffs 206 = .ok (.aload_n 0, 1) := by decide +kernel
theorem dX12_stuffs_207 : decode cX12_stuffs 207 = .ok (.getfield 32, 3) := by decide +kernel
theorem dX12_stuffs_210 : decode cX12_stuffs 210 = .ok (.aload_n 0, 1) := by decide +kernel
theorem dX12_stuffs_211 : decode cX12_stuffs 211 = .ok (.getfield 220, 3) := by decide +kernel
theorem dX12_stuffs_214 : decode cX12_stuffs 214 = .ok (.aload_n 0, 1) := by decide +kernel
theorem dX12_stuffs_215 : decode cX12_stuffs 215 = .ok (.getfield 32, 3) := by decide +kernel
theorem dX12_stuffs_218 : decode cX12_stuffs 218 = .ok (.aload_n 0, 1) := by decide +kernel
theorem dX12_stuffs_219 : decode cX12_stuffs 219 = .ok (.getfield 214, 3) := by decide +kernel
theorem dX12_stuffs_222 : decode cX12_stuffs 222 = .ok (.iconst 1, 1) := by decide +kernel
theorem dX12_stuffs_223 : decode cX12_stuffs 223 = .ok (.isub, 1) := by decide +kernel
theorem dX12_stuffs_224 : decode cX12_stuffs 224 = .ok (.iaload, 1) := by decide +kernel
theorem dX12_stuffs_225 : decode cX12_stuffs 225 = .ok (.iastore, 1) := by decide +kernel
theorem dX12_stuffs_226 : decode cX12_stuffs 226 = .ok (.aload_n 0, 1) := by decide +kernel
theorem dX12_stuffs_227 : decode cX12_stuffs 227 = .ok (.dup, 1) := by decide +kernel
theorem dX12_stuffs_228 : decode cX12_stuffs 228 = .ok (.getfield 214, 3) := by decide +kernel
theorem dX12_stuffs_231 : decode cX12_stuffs 231 = .ok (.iconst 1, 1) := by decide +kernel
theorem dX12_stuffs_232 : decode cX12_stuffs 232 = .ok (.isub, 1) := by decide +kernel
theorem dX12_stuffs_233 : decode cX12_stuffs 233 = .ok (.putfield 214, 3) := by decide +kernel
theorem dX12_stuffs_236 : decode cX12_stuffs 236 = .ok (.return_, 1) := by decide +kernel
theorem dX12_plainly_0 : decode cX12_plainly 0 = .ok (.aload_n 0, 1) := by decide +kernel
theorem dX12_plainly_1 : decode cX12_plainly 1 = .ok (.getfield 29, 3) := by decide +kernel
theorem dX12_plainly_4 : decode cX12_plainly 4 = .ok (.aload_n 0, 1) := by decide +kernel
theorem dX12_plainly_5 : decode cX12_plainly 5 = .ok (.getfield 217, 3) := by decide +kernel
theorem dX12_plainly_8 : decode cX12_plainly 8 = .ok (.iload_n 1, 1) := by decide +kernel
theorem dX12_plainly_9 : decode cX12_plainly 9 = .ok (.iastore, 1) := by decide +kernel
theorem dX12_plainly_10 : decode cX12_plainly 10 = .ok (.aload_n 0, 1) := by decide +kernel
theorem dX12_plainly_11 : decode cX12_plainly 11 = .ok (.dup, 1) := by decide +kernel
theorem dX12_plainly_12 : decode cX12_plainly 12 = .ok (.getfield 217, 3) := by decide +kernel
theorem dX12_plainly_15 : decode cX12_plainly 15 = .ok (.iconst 1, 1) := by decide +kernel
theorem dX12_plainly_16 : decode cX12_plainly 16 = .ok (.iadd, 1) := by decide +kernel
theorem dX12_plainly_17 : decode cX12_plainly 17 = .ok (.putfield 217, 3) := by decide +kernel
theorem dX12_plainly_20 : decode cX12_plainly 20 = .ok (.return_, 1) := by decide +kernel
theorem dX12_copies_0 : decode cX12_copies 0 = .ok (.iconst 0, 1) := by decide +kernel
theorem dX12_copies_1 : decode cX12_copies 1 = .ok (.istore_n 3, 1) := by decide +kernel
theorem dX12_copies_2 : decode cX12_copies 2 = .ok (.iload_n 3, 1) := by decide +kernel
theorem dX12_copies_3 : decode cX12_copies 3 = .ok (.iload_n 2, 1) := by decide +kernel
theorem dX12_copies_4 : decode cX12_copies 4 = .ok (.if_icmp .ge 36, 3) := by decide +kernel
theorem dX12_copies_7 : decode cX12_copies 7 = .ok (.aload_n 0, 1) := by decide +kernel
theorem dX12_copies_8 : decode cX12_copies 8 = .ok (.getfield 32, 3) := by decide +kernel
theorem dX12_copies_11 : decode cX12_copies 11 = .ok (.iload_n 1, 1) := by decide +kernel
theorem dX12_copies_12 : decode cX12_copies 12 = .ok (.iload_n 3, 1) := by decide +kernel
theorem dX12_copies_13 : decode cX12_copies 13 = .ok (.iadd, 1) := by decide +kernel
theorem dX12_copies_14 : decode cX12_copies 14 = .ok (.iaload, 1) := by decide +kernel
theorem dX12_copies_15 : decode cX12_copies 15 = .ok (.ifCond .ne 7, 3) := by decide +kernel
theorem dX12_copies_18 : decode cX12_copies 18 = .ok (.iload_n 1, 1) := by decide +kernel
theorem dX12_copies_19 : decode cX12_copies 19 = .ok (.iload_n 3, 1) := by decide +kernel
theorem dX12_copies_20 : decode cX12_copies 20 = .ok (.iadd, 1) := by decide +kernel
theorem dX12_copies_21 : decode cX12_copies 21 = .ok (.ireturn, 1) := by decide +kernel
theorem dX12_copies_22 : decode cX12_copies 22 = .ok (.aload_n 0, 1) := by decide +kernel
theorem dX12_copies_23 : decode cX12_copies 23 = .ok (.aload_n 0, 1) := by decide +kernel
theorem dX12_copies_24 : decode cX12_copies 24 = .ok (.getfield 32, 3) := by decide +kernel
theorem dX12_copies_27 : decode cX12_copies 27 = .ok (.iload_n 1, 1) := by decide +kernel
theorem dX12_copies_28 : decode cX12_copies 28 = .ok (.iload_n 3, 1) := by decide +kernel
theorem dX12_copies_29 : decode cX12_copies 29 = .ok (.iadd, 1) := by decide +kernel
theorem dX12_copies_30 : decode cX12_copies 30 = .ok (.iaload, 1) := by decide +kernel
theorem dX12_copies_31 : decode cX12_copies 31 = .ok (.invokevirtual 236, 3) := by decide +kernel
theorem dX12_copies_34 : decode cX12_copies 34 = .ok (.iinc 3 1, 3) := by decide +kernel
theorem dX12_copies_37 : decode cX12_copies 37 = .ok (.goto (-35), 3) := by decide +kernel
theorem dX12_copies_40 : decode cX12_copies 40 = .ok (.iconst (-1), 1) := by decide +kernel
theorem dX12_copies_41 : decode cX12_copies 41 = .ok (.ireturn, 1) := by decide +kernel
theorem dX12_isCode_0 : decode cX12_isCode 0 = .ok (.iload_n 1, 1) := by decide +kernel
theorem dX12_isCode_1 : decode cX12_isCode 1 = .ok (.ifCond .le 13, 3) := by decide +kernel
theorem dX12_isCode_4 : decode cX12_isCode 4 = .ok (.iload_n 1, 1) := by decide +kernel
theorem dX12_isCode_5 : decode cX12_isCode 5 = .ok (.aload_n 0, 1) := by decide +kernel
theorem dX12_isCode_6 : decode cX12_isCode 6 = .ok (.getfield 19, 3) := by decide +kernel
theorem dX12_isCode_9 : decode cX12_isCode 9 = .ok (.iconst 1, 1) := by decide +kernel
theorem dX12_isCode_10 : decode cX12_isCode 10 = .ok (.iadd, 1) := by decide +kernel
theorem dX12_isCode_11 : decode cX12_isCode 11 = .ok (.if_icmp .le 27, 3) := by decide +kernel
theorem dX12_isCode_14 : decode cX12_isCode 14 = .ok (.iload_n 2, 1) := by decide +kernel
theorem dX12_isCode_15 : decode cX12_isCode 15 = .ok (.iconst 1, 1) := by decide +kernel
theorem dX12_isCode_16 : decode cX12_isCode 16 = .ok (.if_icmp .ne 26, 3) := by decide +kernel
theorem dX12_isCode_19 : decode cX12_isCode 19 = .ok (.iload_n 1, 1) := by decide +kernel
theorem dX12_isCode_20 : decode cX12_isCode 20 = .ok (.ifCond .le 22, 3) := by decide +kernel
theorem dX12_isCode_23 : decode cX12_isCode 23 = .ok (.iload_n 1, 1) := by decide +kernel
theorem dX12_isCode_24 : decode cX12_isCode 24 = .ok (.aload_n 0, 1) := by decide +kernel
theorem dX12_isCode_25 : decode cX12_isCode 25 = .ok (.getfield 19, 3) := by decide +kernel
theorem dX12_isCode_28 : decode cX12_isCode 28 = .ok (.iconst 1, 1) := by decide +kernel
theorem dX12_isCode_29 : decode cX12_isCode 29 = .ok (.iadd, 1) := by decide +kernel
theorem dX12_isCode_30 : decode cX12_isCode 30 = .ok (.aload_n 0, 1) := by decide +kernel
theorem dX12_isCode_31 : decode cX12_isCode 31 = .ok (.getfield 23, 3) := by decide +kernel
theorem dX12_isCode_34 : decode cX12_isCode 34 = .ok (.iadd, 1) := by decide +kernel
theorem dX12_isCode_35 : decode cX12_isCode 35 = .ok (.if_icmp .gt 7, 3) := by decide +kernel
theorem dX12_isCode_38 : decode cX12_isCode 38 = .ok (.iconst 1, 1) := by decide +kernel
theorem dX12_isCode_39 : decode cX12_isCode 39 = .ok (.goto 4, 3) := by decide +kernel
theorem dX12_isCode_42 : decode cX12_isCode 42 = .ok (.iconst 0, 1) := by decide +kernel
theorem dX12_isCode_43 : decode cX12_isCode 43 = .ok (.ireturn, 1) := by decide +kernel
theorem dX12_unstuffs_0 : decode cX12_unstuffs 0 = .ok (.aload_n 0, 1) := by decide +kernel
theorem dX12_unstuffs_1 : decode cX12_unstuffs 1 = .ok (.iconst 0, 1) := by decide +kernel
theorem dX12_unstuffs_2 : decode cX12_unstuffs 2 = .ok (.putfield 217, 3) := by decide +kernel
theorem dX12_unstuffs_5 : decode cX12_unstuffs 5 = .ok (.aload_n 0, 1) := by decide +kernel
theorem dX12_unstuffs_6 : decode cX12_unstuffs 6 = .ok (.getfield 214, 3) := by decide +kernel
theorem dX12_unstuffs_9 : decode cX12_unstuffs 9 = .ok (.ifCond .ne 5, 3) := by decide +kernel
theorem dX12_unstuffs_12 : decode cX12_unstuffs 12 = .ok (.iconst 0, 1) := by decide +kernel
theorem dX12_unstuffs_13 : decode cX12_unstuffs 13 = .ok (.ireturn, 1) := by decide +kernel
theorem dX12_unstuffs_14 : decode cX12_unstuffs 14 = .ok (.iconst 0, 1) := by decide +kernel
theorem dX12_unstuffs_15 : decode cX12_unstuffs 15 = .ok (.istore_n 2, 1) := by decide +kernel
theorem dX12_unstuffs_16 : decode cX12_unstuffs 16 = .ok (.iload_n 2, 1) := by decide +kernel
theorem dX12_unstuffs_17 : decode cX12_unstuffs 17 = .ok (.aload_n 0, 1) := by decide +kernel
theorem dX12_unstuffs_18 : decode cX12_unstuffs 18 = .ok (.getfield 214, 3) := by decide +kernel
theorem dX12_unstuffs_21 : decode cX12_unstuffs 21 = .ok (.if_icmp .ge 174, 3) := by decide +kernel
theorem dX12_unstuffs_24 : decode cX12_unstuffs 24 = .ok (.aload_n 0, 1) := by decide +kernel
theorem dX12_unstuffs_25 : decode cX12_unstuffs 25 = .ok (.getfield 32, 3) := by decide +kernel
theorem dX12_unstuffs_28 : decode cX12_unstuffs 28 = .ok (.iload_n 2, 1) := by decide +kernel
theorem dX12_unstuffs_29 : decode cX12_unstuffs 29 = .ok (.iaload, 1) := by decide +kernel
theorem dX12_unstuffs_30 : decode cX12_unstuffs 30 = .ok (.istore_n 3, 1) := by decide +kernel
theorem dX12_unstuffs_31 : decode cX12_unstuffs 31 = .ok (.aload_n 0, 1) := by decide +kernel
theorem dX12_unstuffs_32 : decode cX12_unstuffs 32 = .ok (.getfield 214, 3) := by decide +kernel
theorem dX12_unstuffs_35 : decode cX12_unstuffs 35 = .ok (.iload_n 2, 1) := by decide +kernel
theorem dX12_unstuffs_36 : decode cX12_unstuffs 36 = .ok (.isub, 1) := by decide +kernel
theorem dX12_unstuffs_37 : decode cX12_unstuffs 37 = .ok (.iconst 1, 1) := by decide +kernel
theorem dX12_unstuffs_38 : decode cX12_unstuffs 38 = .ok (.isub, 1) := by decide +kernel
theorem dX12_unstuffs_39 : decode cX12_unstuffs 39 = .ok (.istore 4, 2) := by decide +kernel
theorem dX12_unstuffs_41 : decode cX12_unstuffs 41 = .ok (.iload_n 1, 1) := by decide +kernel
theorem dX12_unstuffs_42 : decode cX12_unstuffs 42 = .ok (.iconst 2, 1) := by decide +kernel
theorem dX12_unstuffs_43 : decode cX12_unstuffs 43 = .ok (.if_icmp .ne 34, 3) := by decide +kernel
theorem dX12_unstuffs_46 : decode cX12_unstuffs 46 = .ok (.iload_n 3, 1) := by decide +kernel
theorem dX12_unstuffs_47 : decode cX12_unstuffs 47 = .ok (.ifCond .le 30, 3) := by decide +kernel
theorem dX12_unstuffs_50 : decode cX12_unstuffs 50 = .ok (.iload 4, 2) := by decide +kernel
theorem dX12_unstuffs_52 : decode cX12_unstuffs 52 = .ok (.iload_n 3, 1) := by decide +kernel
theorem dX12_unstuffs_53 : decode cX12_unstuffs 53 = .ok (.iconst 1, 1) := by decide +kernel
theorem dX12_unstuffs_54 : decode cX12_unstuffs 54 = .ok (.isub, 1) := by decide +kernel
theorem dX12_unstuffs_55 : decode cX12_unstuffs 55 = .ok (.if_icmp .ge 22, 3) := by decide +kernel
theorem dX12_unstuffs_58 : decode cX12_unstuffs 58 = .ok (.aload_n 0, 1) := by decide +kernel
theorem dX12_unstuffs_59 : decode cX12_unstuffs 59 = .ok (.iload_n 2, 1) := by decide +kernel
theorem dX12_unstuffs_60 : decode cX12_unstuffs 60 = .ok (.iconst 1, 1) := by decide +kernel
theorem dX12_unstuffs_61 : decode cX12_unstuffs 61 = .ok (.iadd, 1) := by decide +kernel
theorem dX12_unstuffs_62 : decode cX12_unstuffs 62 = .ok (.iload 4, 2) := by decide +kernel
theorem dX12_unstuffs_64 : decode cX12_unstuffs 64 = .ok (.invokevirtual 239, 3) := by decide +kernel
theorem dX12_unstuffs_67 : decode cX12_unstuffs 67 = .ok (.istore 5, 2) := by decide +kernel
theorem dX12_unstuffs_69 : decode cX12_unstuffs 69 = .ok (.aload_n 0, 1) := by decide +kernel
theorem dX12_unstuffs_70 : decode cX12_unstuffs 70 = .ok (.iload_n 3, 1) := by decide +kernel
theorem dX12_unstuffs_71 : decode cX12_unstuffs 71 = .ok (.invokevirtual 236, 3) := by decide +kernel
theorem dX12_unstuffs_74 : decode cX12_unstuffs 74 = .ok (.iload 5, 2) := by decide +kernel
theorem dX12_unstuffs_76 : decode cX12_unstuffs 76 = .ok (.ireturn, 1) := by decide +kernel
theorem dX12_unstuffs_77 : decode cX12_unstuffs 77 = .ok (.iload_n 3, 1) := by decide +kernel
theorem dX12_unstuffs_78 : decode cX12_unstuffs 78 = .ok (.aload_n 0, 1) := by decide +kernel
theorem dX12_unstuffs_79 : decode cX12_unstuffs 79 = .ok (.getfield 19, 3) := by decide +kernel
theorem dX12_unstuffs_82 : decode cX12_unstuffs 82 = .ok (.iconst 1, 1) := by decide +kernel
theorem dX12_unstuffs_83 : decode cX12_unstuffs 83 = .ok (.iadd, 1) := by decide +kernel
theorem dX12_unstuffs_84 : decode cX12_unstuffs 84 = .ok (.if_icmp .gt 9, 3) := by decide +kernel
theorem dX12_unstuffs_87 : decode cX12_unstuffs 87 = .ok (.iload_n 3, 1) := by decide +kernel
theorem dX12_unstuffs_88 : decode cX12_unstuffs 88 = .ok (.iconst 1, 1) := by decide +kernel
theorem dX12_unstuffs_89 : decode cX12_unstuffs 89 = .ok (.isub, 1) := by decide +kernel
theorem dX12_unstuffs_90 : decode cX12_unstuffs 90 = .ok (.goto 11, 3) := by decide +kernel
theorem dX12_unstuffs_93 : decode cX12_unstuffs 93 = .ok (.iload_n 3, 1) := by decide +kernel
theorem dX12_unstuffs_94 : decode cX12_unstuffs 94 = .ok (.aload_n 0, 1) := by decide +kernel
theorem dX12_unstuffs_95 : decode cX12_unstuffs 95 = .ok (.getfield 19, 3) := by decide +kernel
theorem dX12_unstuffs_98 : decode cX12_unstuffs 98 = .ok (.isub, 1) := by decide +kernel
theorem dX12_unstuffs_99 : decode cX12_unstuffs 99 = .ok (.iconst 2, 1) := by decide +kernel
theorem dX12_unstuffs_100 : decode cX12_unstuffs 100 = .ok (.isub, 1) := by decide +kernel
theorem dX12_unstuffs_101 : decode cX12_unstuffs 101 = .ok (.istore 5, 2) := by decide +kernel
theorem dX12_unstuffs_103 : decode cX12_unstuffs 103 = .ok (.aload_n 0, 1) := by decide +kernel
theorem dX12_unstuffs_104 : decode cX12_unstuffs 104 = .ok (.iload_n 3, 1) := by decide +kernel
theorem dX12_unstuffs_105 : decode cX12_unstuffs 105 = .ok (.iload_n 1, 1) := by decide +kernel
theorem dX12_unstuffs_106 : decode cX12_unstuffs 106 = .ok (.invokevirtual 242, 3) := by decide +kernel
theorem dX12_unstuffs_109 : decode cX12_unstuffs 109 = .ok (.ifCond .eq 10, 3) := by decide +kernel
theorem dX12_unstuffs_112 : decode cX12_unstuffs 112 = .ok (.iload 4, 2) := by decide +kernel
theorem dX12_unstuffs_114 : decode cX12_unstuffs 114 = .ok (.iload 5, 2) := by decide +kernel
theorem dX12_unstuffs_116 : decode cX12_unstuffs 116 = .ok (.if_icmp .ge 5, 3) := by decide +kernel
theorem dX12_unstuffs_119 : decode cX12_unstuffs 119 = .ok (.iload_n 2, 1) := by decide +kernel
theorem dX12_unstuffs_120 : decode cX12_unstuffs 120 = .ok (.ireturn, 1) := by decide +kernel
theorem dX12_unstuffs_121 : decode cX12_unstuffs 121 = .ok (.aload_n 0, 1) := by decide +kernel
theorem dX12_unstuffs_122 : decode cX12_unstuffs 122 = .ok (.iload_n 2, 1) := by decide +kernel
theorem dX12_unstuffs_123 : decode cX12_unstuffs 123 = .ok (.iconst 1, 1) := by decide +kernel
theorem dX12_unstuffs_124 : decode cX12_unstuffs 124 = .ok (.iadd, 1) := by decide +kernel
theorem dX12_unstuffs_125 : decode cX12_unstuffs 125 = .ok (.iload 5, 2) := by decide +kernel
theorem dX12_unstuffs_127 : decode cX12_unstuffs 127 = .ok (.invokevirtual 239, 3) := by decide +kernel
theorem dX12_unstuffs_130 : decode cX12_unstuffs 130 = .ok (.istore 6, 2) := by decide +kernel
theorem dX12_unstuffs_132 : decode cX12_unstuffs 132 = .ok (.iload 6, 2) := by decide +kernel
theorem dX12_unstuffs_134 : decode cX12_unstuffs 134 = .ok (.iconst (-1), 1) := by decide +kernel
theorem dX12_unstuffs_135 : decode cX12_unstuffs 135 = .ok (.if_icmp .eq 6, 3) := by decide +kernel
theorem dX12_unstuffs_138 : decode cX12_unstuffs 138 = .ok (.iload 6, 2) := by decide +kernel
theorem dX12_unstuffs_140 : decode cX12_unstuffs 140 = .ok (.ireturn, 1) := by decide +kernel
theorem dX12_unstuffs_141 : decode cX12_unstuffs 141 = .ok (.iload_n 2, 1) := by decide +kernel
theorem dX12_unstuffs_142 : decode cX12_unstuffs 142 = .ok (.iconst 1, 1) := by decide +kernel
theorem dX12_unstuffs_143 : decode cX12_unstuffs 143 = .ok (.iload 5, 2) := by decide +kernel
theorem dX12_unstuffs_145 : decode cX12_unstuffs 145 = .ok (.iadd, 1) := by decide +kernel
theorem dX12_unstuffs_146 : decode cX12_unstuffs 146 = .ok (.iadd, 1) := by decide +kernel
theorem dX12_unstuffs_147 : decode cX12_unstuffs 147 = .ok (.istore_n 2, 1) := by decide +kernel
theorem dX12_unstuffs_148 : decode cX12_unstuffs 148 = .ok (.iload_n 3, 1) := by decide +kernel
theorem dX12_unstuffs_149 : decode cX12_unstuffs 149 = .ok (.aload_n 0, 1) := by decide +kernel
theorem dX12_unstuffs_150 : decode cX12_unstuffs 150 = .ok (.getfield 19, 3) := by decide +kernel
theorem dX12_unstuffs_153 : decode cX12_unstuffs 153 = .ok (.if_icmp .gt 19, 3) := by decide +kernel
theorem dX12_unstuffs_156 : decode cX12_unstuffs 156 = .ok (.iload_n 2, 1) := by decide +kernel
theorem dX12_unstuffs_157 : decode cX12_unstuffs 157 = .ok (.aload_n 0, 1) := by decide +kernel
theorem dX12_unstuffs_158 : decode cX12_unstuffs 158 = .ok (.getfield 214, 3) := by decide +kernel
theorem dX12_unstuffs_161 : decode cX12_unstuffs 161 = .ok (.if_icmp .ge 11, 3) := by decide +kernel
theorem dX12_unstuffs_164 : decode cX12_unstuffs 164 = .ok (.aload_n 0, 1) := by decide +kernel
theorem dX12_unstuffs_165 : decode cX12_unstuffs 165 = .ok (.iconst 0, 1) := by decide +kernel
theorem dX12_unstuffs_166 : decode cX12_unstuffs 166 = .ok (.invokevirtual 236, 3) := by decide +kernel
theorem dX12_unstuffs_169 : decode cX12_unstuffs 169 = .ok (.goto 23, 3) := by decide +kernel
theorem dX12_unstuffs_172 : decode cX12_unstuffs 172 = .ok (.iload_n 3, 1) := by decide +kernel
theorem dX12_unstuffs_173 : decode cX12_unstuffs 173 = .ok (.aload_n 0, 1) := by decide +kernel
theorem dX12_unstuffs_174 : decode cX12_unstuffs 174 = .ok (.getfield 19, 3) := by decide +kernel
theorem dX12_unstuffs_177 : decode cX12_unstuffs 177 = .ok (.iconst 1, 1) := by decide +kernel
theorem dX12_unstuffs_178 : decode cX12_unstuffs 178 = .ok (.iadd, 1) := by decide +kernel
theorem dX12_unstuffs_179 : decode cX12_unstuffs 179 = .ok (.if_icmp .le 13, 3) := by decide +kernel
theorem dX12_unstuffs_182 : decode cX12_unstuffs 182 = .ok (.aload_n 0, 1) := by decide +kernel
theorem dX12_unstuffs_183 : decode cX12_unstuffs 183 = .ok (.iconst 0, 1) := by decide +kernel
theorem dX12_unstuffs_184 : decode cX12_unstuffs 184 = .ok (.invokevirtual 236, 3) := by decide +kernel
theorem dX12_unstuffs_187 : decode cX12_unstuffs 187 = .ok (.aload_n 0, 1) := by decide +kernel
theorem dX12_unstuffs_188 : decode cX12_unstuffs 188 = .ok (.iconst 0, 1) := by decide +kernel
theorem dX12_unstuffs_189 : decode cX12_unstuffs 189 = .ok (.invokevirtual 236, 3) := by decide +kernel
theorem dX12_unstuffs_192 : decode cX12_unstuffs 192 = .ok (.goto (-176), 3) := by decide +kernel
theorem dX12_unstuffs_195 : decode cX12_unstuffs 195 = .ok (.iconst (-1), 1) := by decide +kernel
theorem dX12_unstuffs_196 : decode cX12_unstuffs 196 = .ok (.ireturn, 1) := by decide +kernel
theorem dX12_lettersPlain_0 : decode cX12_lettersPlain 0 = .ok (.iconst 0, 1) := by decide +kernel
theorem dX12_lettersPlain_1 : decode cX12_lettersPlain 1 = .ok (.istore_n 1, 1) := by decide +kernel
theorem dX12_lettersPlain_2 : decode cX12_lettersPlain 2 = .ok (.iload_n 1, 1) := by decide +kernel
theorem dX12_lettersPlain_3 : decode cX12_lettersPlain 3 = .ok (.aload_n 0, 1) := by decide +kernel
theorem dX12_lettersPlain_4 : decode cX12_lettersPlain 4 = .ok (.getfield 63, 3) := by decide +kernel
theorem dX12_lettersPlain_7 : decode cX12_lettersPlain 7 = .ok (.if_icmp .ge 21, 3) := by decide +kernel
theorem dX12_lettersPlain_10 : decode cX12_lettersPlain 10 = .ok (.aload_n 0, 1) := by decide +kernel
theorem dX12_lettersPlain_11 : decode cX12_lettersPlain 11 = .ok (.getfield 29, 3) := by decide +kernel
theorem dX12_lettersPlain_14 : decode cX12_lettersPlain 14 = .ok (.iload_n 1, 1) := by decide +kernel
theorem dX12_lettersPlain_15 : decode cX12_lettersPlain 15 = .ok (.aload_n 0, 1) := by decide +kernel
theorem dX12_lettersPlain_16 : decode cX12_lettersPlain 16 = .ok (.getfield 9, 3) := by decide +kernel
theorem dX12_lettersPlain_19 : decode cX12_lettersPlain 19 = .ok (.iload_n 1, 1) := by decide +kernel
theorem dX12_lettersPlain_20 : decode cX12_lettersPlain 20 = .ok (.iaload, 1) := by decide +kernel
theorem dX12_lettersPlain_21 : decode cX12_lettersPlain 21 = .ok (.iastore, 1) := by decide +kernel
theorem dX12_lettersPlain_22 : decode cX12_lettersPlain 22 = .ok (.iinc 1 1, 3) := by decide +kernel
theorem dX12_lettersPlain_25 : decode cX12_lettersPlain 25 = .ok (.goto (-23), 3) := by decide +kernel
theorem dX12_lettersPlain_28 : decode cX12_lettersPlain 28 = .ok (.aload_n 0, 1) := by decide +kernel
theorem dX12_lettersPlain_29 : decode cX12_lettersPlain 29 = .ok (.aload_n 0, 1) := by decide +kernel
theorem dX12_lettersPlain_30 : decode cX12_lettersPlain 30 = .ok (.getfield 63, 3) := by decide +kernel
theorem dX12_lettersPlain_33 : decode cX12_lettersPlain 33 = .ok (.putfield 217, 3) := by decide +kernel
theorem dX12_lettersPlain_36 : decode cX12_lettersPlain 36 = .ok (.return_, 1) := by decide +kernel
theorem dX12_stuff_0 : decode cX12_stuff 0 = .ok (.aload_n 0, 1) := by decide +kernel
theorem dX12_stuff_1 : decode cX12_stuff 1 = .ok (.iconst 0, 1) := by decide +kernel
theorem dX12_stuff_2 : decode cX12_stuff 2 = .ok (.putfield 60, 3) := by decide +kernel
theorem dX12_stuff_5 : decode cX12_stuff 5 = .ok (.iload_n 1, 1) := by decide +kernel
theorem dX12_stuff_6 : decode cX12_stuff 6 = .ok (.i2l, 1) := by decide +kernel
theorem dX12_stuff_7 : decode cX12_stuff 7 = .ok (.lconst 0, 1) := by decide +kernel
theorem dX12_stuff_8 : decode cX12_stuff 8 = .ok (.ldc2_w 246, 3) := by decide +kernel
theorem dX12_stuff_11 : decode cX12_stuff 11 = .ok (.invokestatic 70, 3) := by decide +kernel
theorem dX12_stuff_14 : decode cX12_stuff 14 = .ok (.ifCond .ne 5, 3) := by decide +kernel
theorem dX12_stuff_17 : decode cX12_stuff 17 = .ok (.iconst (-1), 1) := by decide +kernel
theorem dX12_stuff_18 : decode cX12_stuff 18 = .ok (.ireturn, 1) := by decide +kernel
theorem dX12_stuff_19 : decode cX12_stuff 19 = .ok (.aload_n 0, 1) := by decide +kernel
theorem dX12_stuff_20 : decode cX12_stuff 20 = .ok (.invokevirtual 248, 3) := by decide +kernel
theorem dX12_stuff_23 : decode cX12_stuff 23 = .ok (.aload_n 0, 1) := by decide +kernel
theorem dX12_stuff_24 : decode cX12_stuff 24 = .ok (.iload_n 1, 1) := by decide +kernel
theorem dX12_stuff_25 : decode cX12_stuff 25 = .ok (.invokevirtual 251, 3) := by decide +kernel
theorem dX12_stuff_28 : decode cX12_stuff 28 = .ok (.iconst 0, 1) := by decide +kernel
theorem dX12_stuff_29 : decode cX12_stuff 29 = .ok (.istore_n 2, 1) := by decide +kernel
theorem dX12_stuff_30 : decode cX12_stuff 30 = .ok (.iload_n 2, 1) := by decide +kernel
theorem dX12_stuff_31 : decode cX12_stuff 31 = .ok (.aload_n 0, 1) := by decide +kernel
theorem dX12_stuff_32 : decode cX12_stuff 32 = .ok (.getfield 214, 3) := by decide +kernel
theorem dX12_stuff_35 : decode cX12_stuff 35 = .ok (.if_icmp .ge 21, 3) := by decide +kernel
theorem dX12_stuff_38 : decode cX12_stuff 38 = .ok (.aload_n 0, 1) := by decide +kernel
theorem dX12_stuff_39 : decode cX12_stuff 39 = .ok (.getfield 35, 3) := by decide +kernel
theorem dX12_stuff_42 : decode cX12_stuff 42 = .ok (.iload_n 2, 1) := by decide +kernel
theorem dX12_stuff_43 : decode cX12_stuff 43 = .ok (.aload_n 0, 1) := by decide +kernel
theorem dX12_stuff_44 : decode cX12_stuff 44 = .ok (.getfield 32, 3) := by decide +kernel
theorem dX12_stuff_47 : decode cX12_stuff 47 = .ok (.iload_n 2, 1) := by decide +kernel
theorem dX12_stuff_48 : decode cX12_stuff 48 = .ok (.iaload, 1) := by decide +kernel
theorem dX12_stuff_49 : decode cX12_stuff 49 = .ok (.iastore, 1) := by decide +kernel
theorem dX12_stuff_50 : decode cX12_stuff 50 = .ok (.iinc 2 1, 3) := by decide +kernel
theorem dX12_stuff_53 : decode cX12_stuff 53 = .ok (.goto (-23), 3) := by decide +kernel
theorem dX12_stuff_56 : decode cX12_stuff 56 = .ok (.aload_n 0, 1) := by decide +kernel
theorem dX12_stuff_57 : decode cX12_stuff 57 = .ok (.aload_n 0, 1) := by decide +kernel
theorem dX12_stuff_58 : decode cX12_stuff 58 = .ok (.getfield 214, 3) := by decide +kernel
theorem dX12_stuff_61 : decode cX12_stuff 61 = .ok (.putfield 254, 3) := by decide +kernel
theorem dX12_stuff_64 : decode cX12_stuff 64 = .ok (.aload_n 0, 1) := by decide +kernel
theorem dX12_stuff_65 : decode cX12_stuff 65 = .ok (.iconst 0, 1) := by decide +kernel
theorem dX12_stuff_66 : decode cX12_stuff 66 = .ok (.putfield 63, 3) := by decide +kernel
theorem dX12_stuff_69 : decode cX12_stuff 69 = .ok (.aload_n 0, 1) := by decide +kernel
theorem dX12_stuff_70 : decode cX12_stuff 70 = .ok (.getfield 254, 3) := by decide +kernel
theorem dX12_stuff_73 : decode cX12_stuff 73 = .ok (.ireturn, 1) := by decide +kernel
theorem dX12_unstuff_0 : decode cX12_unstuff 0 = .ok (.aload_n 0, 1) := by decide +kernel
theorem dX12_unstuff_1 : decode cX12_unstuff 1 = .ok (.iconst 0, 1) := by decide +kernel
theorem dX12_unstuff_2 : decode cX12_unstuff 2 = .ok (.putfield 60, 3) := by decide +kernel
theorem dX12_unstuff_5 : decode cX12_unstuff 5 = .ok (.iload_n 1, 1) := by decide +kernel
theorem dX12_unstuff_6 : decode cX12_unstuff 6 = .ok (.i2l, 1) := by decide +kernel
theorem dX12_unstuff_7 : decode cX12_unstuff 7 = .ok (.lconst 0, 1) := by decide +kernel
theorem dX12_unstuff_8 : decode cX12_unstuff 8 = .ok (.ldc2_w 246, 3) := by decide +kernel
theorem dX12_unstuff_11 : decode cX12_unstuff 11 = .ok (.invokestatic 70, 3) := by decide +kernel
theorem dX12_unstuff_14 : decode cX12_unstuff 14 = .ok (.ifCond .ne 5, 3) := by decide +kernel
theorem dX12_unstuff_17 : decode cX12_unstuff 17 = .ok (.iconst (-1), 1) := by decide +kernel
theorem dX12_unstuff_18 : decode cX12_unstuff 18 = .ok (.ireturn, 1) := by decide +kernel
theorem dX12_unstuff_19 : decode cX12_unstuff 19 = .ok (.iconst 0, 1) := by decide +kernel
theorem dX12_unstuff_20 : decode cX12_unstuff 20 = .ok (.istore_n 2, 1) := by decide +kernel
theorem dX12_unstuff_21 : decode cX12_unstuff 21 = .ok (.iload_n 2, 1) := by decide +kernel
theorem dX12_unstuff_22 : decode cX12_unstuff 22 = .ok (.aload_n 0, 1) := by decide +kernel
theorem dX12_unstuff_23 : decode cX12_unstuff 23 = .ok (.getfield 63, 3) := by decide +kernel
theorem dX12_unstuff_26 : decode cX12_unstuff 26 = .ok (.if_icmp .ge 21, 3) := by decide +kernel
theorem dX12_unstuff_29 : decode cX12_unstuff 29 = .ok (.aload_n 0, 1) := by decide +kernel
theorem dX12_unstuff_30 : decode cX12_unstuff 30 = .ok (.getfield 32, 3) := by decide +kernel
theorem dX12_unstuff_33 : decode cX12_unstuff 33 = .ok (.iload_n 2, 1) := by decide +kernel
theorem dX12_unstuff_34 : decode cX12_unstuff 34 = .ok (.aload_n 0, 1) := by decide +kernel
theorem dX12_unstuff_35 : decode cX12_unstuff 35 = .ok (.getfield 9, 3) := by decide +kernel
theorem dX12_unstuff_38 : decode cX12_unstuff 38 = .ok (.iload_n 2, 1) := by decide +kernel
theorem dX12_unstuff_39 : decode cX12_unstuff 39 = .ok (.iaload, 1) := by decide +kernel
theorem dX12_unstuff_40 : decode cX12_unstuff 40 = .ok (.iastore, 1) := by decide +kernel
theorem dX12_unstuff_41 : decode cX12_unstuff 41 = .ok (.iinc 2 1, 3) := by decide +kernel
theorem dX12_unstuff_44 : decode cX12_unstuff 44 = .ok (.goto (-23), 3) := by decide +kernel
theorem dX12_unstuff_47 : decode cX12_unstuff 47 = .ok (.aload_n 0, 1) := by decide +kernel
theorem dX12_unstuff_48 : decode cX12_unstuff 48 = .ok (.aload_n 0, 1) := by decide +kernel
theorem dX12_unstuff_49 : decode cX12_unstuff 49 = .ok (.getfield 63, 3) := by decide +kernel
theorem dX12_unstuff_52 : decode cX12_unstuff 52 = .ok (.putfield 214, 3) := by decide +kernel
theorem dX12_unstuff_55 : decode cX12_unstuff 55 = .ok (.aload_n 0, 1) := by decide +kernel
theorem dX12_unstuff_56 : decode cX12_unstuff 56 = .ok (.iload_n 1, 1) := by decide +kernel
theorem dX12_unstuff_57 : decode cX12_unstuff 57 = .ok (.invokevirtual 257, 3) := by decide +kernel
theorem dX12_unstuff_60 : decode cX12_unstuff 60 = .ok (.istore_n 2, 1) := by decide +kernel
theorem dX12_unstuff_61 : decode cX12_unstuff 61 = .ok (.iload_n 2, 1) := by decide +kernel
theorem dX12_unstuff_62 : decode cX12_unstuff 62 = .ok (.iconst (-1), 1) := by decide +kernel
theorem dX12_unstuff_63 : decode cX12_unstuff 63 = .ok (.if_icmp .eq 8, 3) := by decide +kernel
theorem dX12_unstuff_66 : decode cX12_unstuff 66 = .ok (.bipush (-2), 2) := by decide +kernel
theorem dX12_unstuff_68 : decode cX12_unstuff 68 = .ok (.iload_n 2, 1) := by decide +kernel
theorem dX12_unstuff_69 : decode cX12_unstuff 69 = .ok (.isub, 1) := by decide +kernel
theorem dX12_unstuff_70 : decode cX12_unstuff 70 = .ok (.ireturn, 1) := by decide +kernel
theorem dX12_unstuff_71 : decode cX12_unstuff 71 = .ok (.iconst 0, 1) := by decide +kernel
theorem dX12_unstuff_72 : decode cX12_unstuff 72 = .ok (.istore_n 3, 1) := by decide +kernel
theorem dX12_unstuff_73 : decode cX12_unstuff 73 = .ok (.iload_n 3, 1) := by decide +kernel
theorem dX12_unstuff_74 : decode cX12_unstuff 74 = .ok (.aload_n 0, 1) := by decide +kernel
theorem dX12_unstuff_75 : decode cX12_unstuff 75 = .ok (.getfield 217, 3) := by decide +kernel
theorem dX12_unstuff_78 : decode cX12_unstuff 78 = .ok (.if_icmp .ge 21, 3) := by decide +kernel
theorem dX12_unstuff_81 : decode cX12_unstuff 81 = .ok (.aload_n 0, 1) := by decide +kernel
theorem dX12_unstuff_82 : decode cX12_unstuff 82 = .ok (.getfield 35, 3) := by decide +kernel
theorem dX12_unstuff_85 : decode cX12_unstuff 85 = .ok (.iload_n 3, 1) := by decide +kernel
theorem dX12_unstuff_86 : decode cX12_unstuff 86 = .ok (.aload_n 0, 1) := by decide +kernel
theorem dX12_unstuff_87 : decode cX12_unstuff 87 = .ok (.getfield 29, 3) := by decide +kernel
theorem dX12_unstuff_90 : decode cX12_unstuff 90 = .ok (.iload_n 3, 1) := by decide +kernel
theorem dX12_unstuff_91 : decode cX12_unstuff 91 = .ok (.iaload, 1) := by decide +kernel
theorem dX12_unstuff_92 : decode cX12_unstuff 92 = .ok (.iastore, 1) := by decide +kernel
theorem dX12_unstuff_93 : decode cX12_unstuff 93 = .ok (.iinc 3 1, 3) := by decide +kernel
theorem dX12_unstuff_96 : decode cX12_unstuff 96 = .ok (.goto (-23), 3) := by decide +kernel
theorem dX12_unstuff_99 : decode cX12_unstuff 99 = .ok (.aload_n 0, 1) := by decide +kernel
theorem dX12_unstuff_100 : decode cX12_unstuff 100 = .ok (.aload_n 0, 1) := by decide +kernel
theorem dX12_unstuff_101 : decode cX12_unstuff 101 = .ok (.getfield 217, 3) := by decide +kernel
theorem dX12_unstuff_104 : decode cX12_unstuff 104 = .ok (.putfield 254, 3) := by decide +kernel
theorem dX12_unstuff_107 : decode cX12_unstuff 107 = .ok (.aload_n 0, 1) := by decide +kernel
theorem dX12_unstuff_108 : decode cX12_unstuff 108 = .ok (.iconst 0, 1) := by decide +kernel
theorem dX12_unstuff_109 : decode cX12_unstuff 109 = .ok (.putfield 63, 3) := by decide +kernel
theorem dX12_unstuff_112 : decode cX12_unstuff 112 = .ok (.aload_n 0, 1) := by decide +kernel
theorem dX12_unstuff_113 : decode cX12_unstuff 113 = .ok (.getfield 254, 3) := by decide +kernel
theorem dX12_unstuff_116 : decode cX12_unstuff 116 = .ok (.ireturn, 1) := by decide +kernel
theorem dX12_box_0 : decode cX12_box 0 = .ok (.aload_n 0, 1) := by decide +kernel
theorem dX12_box_1 : decode cX12_box 1 = .ok (.iconst 0, 1) := by decide +kernel
theorem dX12_box_2 : decode cX12_box 2 = .ok (.putfield 60, 3) := by decide +kernel
theorem dX12_box_5 : decode cX12_box 5 = .ok (.iload_n 1, 1) := by decide +kernel
theorem dX12_box_6 : decode cX12_box 6 = .ok (.i2l, 1) := by decide +kernel
theorem dX12_box_7 : decode cX12_box 7 = .ok (.lconst 0, 1) := by decide +kernel
theorem dX12_box_8 : decode cX12_box 8 = .ok (.aload_n 0, 1) := by decide +kernel
theorem dX12_box_9 : decode cX12_box 9 = .ok (.getfield 254, 3) := by decide +kernel
theorem dX12_box_12 : decode cX12_box 12 = .ok (.iconst 1, 1) := by decide +kernel
theorem dX12_box_13 : decode cX12_box 13 = .ok (.isub, 1) := by decide +kernel
theorem dX12_box_14 : decode cX12_box 14 = .ok (.i2l, 1) := by decide +kernel
theorem dX12_box_15 : decode cX12_box 15 = .ok (.invokestatic 70, 3) := by decide +kernel
theorem dX12_box_18 : decode cX12_box 18 = .ok (.ifCond .eq 12, 3) := by decide +kernel
theorem dX12_box_21 : decode cX12_box 21 = .ok (.aload_n 0, 1) := by decide +kernel
theorem dX12_box_22 : decode cX12_box 22 = .ok (.getfield 35, 3) := by decide +kernel
theorem dX12_box_25 : decode cX12_box 25 = .ok (.iload_n 1, 1) := by decide +kernel
theorem dX12_box_26 : decode cX12_box 26 = .ok (.iaload, 1) := by decide +kernel
theorem dX12_box_27 : decode cX12_box 27 = .ok (.goto 4, 3) := by decide +kernel
theorem dX12_box_30 : decode cX12_box 30 = .ok (.iconst (-1), 1) := by decide +kernel
theorem dX12_box_31 : decode cX12_box 31 = .ok (.ireturn, 1) := by decide +kernel
theorem dX12_shortest_0 : decode cX12_shortest 0 = .ok (.aload_n 0, 1) := by decide +kernel
theorem dX12_shortest_1 : decode cX12_shortest 1 = .ok (.iconst 0, 1) := by decide +kernel
theorem dX12_shortest_2 : decode cX12_shortest 2 = .ok (.putfield 60, 3) := by decide +kernel
theorem dX12_shortest_5 : decode cX12_shortest 5 = .ok (.iconst (-1), 1) := by decide +kernel
theorem dX12_shortest_6 : decode cX12_shortest 6 = .ok (.istore_n 1, 1) := by decide +kernel
theorem dX12_shortest_7 : decode cX12_shortest 7 = .ok (.sipush 1400, 3) := by decide +kernel
theorem dX12_shortest_10 : decode cX12_shortest 10 = .ok (.istore_n 2, 1) := by decide +kernel
theorem dX12_shortest_11 : decode cX12_shortest 11 = .ok (.iconst 0, 1) := by decide +kernel
theorem dX12_shortest_12 : decode cX12_shortest 12 = .ok (.istore_n 3, 1) := by decide +kernel
theorem dX12_shortest_13 : decode cX12_shortest 13 = .ok (.iload_n 3, 1) := by decide +kernel
theorem dX12_shortest_14 : decode cX12_shortest 14 = .ok (.iconst 2, 1) := by decide +kernel
theorem dX12_shortest_15 : decode cX12_shortest 15 = .ok (.if_icmp .gt 41, 3) := by decide +kernel
theorem dX12_shortest_18 : decode cX12_shortest 18 = .ok (.aload_n 0, 1) := by decide +kernel
theorem dX12_shortest_19 : decode cX12_shortest 19 = .ok (.invokevirtual 248, 3) := by decide +kernel
theorem dX12_shortest_22 : decode cX12_shortest 22 = .ok (.aload_n 0, 1) := by decide +kernel
theorem dX12_shortest_23 : decode cX12_shortest 23 = .ok (.iload_n 3, 1) := by decide +kernel
theorem dX12_shortest_24 : decode cX12_shortest 24 = .ok (.invokevirtual 251, 3) := by decide +kernel
theorem dX12_shortest_27 : decode cX12_shortest 27 = .ok (.aload_n 0, 1) := by decide +kernel
theorem dX12_shortest_28 : decode cX12_shortest 28 = .ok (.getfield 214, 3) := by decide +kernel
theorem dX12_shortest_31 : decode cX12_shortest 31 = .ok (.iload_n 2, 1) := by decide +kernel
theorem dX12_shortest_32 : decode cX12_shortest 32 = .ok (.if_icmp .ge 7, 3) := by decide +kernel
theorem dX12_shortest_35 : decode cX12_shortest 35 = .ok (.iload_n 3, 1) := by decide +kernel
theorem dX12_shortest_36 : decode cX12_shortest 36 = .ok (.goto 4, 3) := by decide +kernel
theorem dX12_shortest_39 : decode cX12_shortest 39 = .ok (.iload_n 1, 1) := by decide +kernel
theorem dX12_shortest_40 : decode cX12_shortest 40 = .ok (.istore_n 1, 1) := by decide +kernel
theorem dX12_shortest_41 : decode cX12_shortest 41 = .ok (.iload_n 2, 1) := by decide +kernel
theorem dX12_shortest_42 : decode cX12_shortest 42 = .ok (.aload_n 0, 1) := by decide +kernel
theorem dX12_shortest_43 : decode cX12_shortest 43 = .ok (.getfield 214, 3) := by decide +kernel
theorem dX12_shortest_46 : decode cX12_shortest 46 = .ok (.invokestatic 97, 3) := by decide +kernel
theorem dX12_shortest_49 : decode cX12_shortest 49 = .ok (.istore_n 2, 1) := by decide +kernel
theorem dX12_shortest_50 : decode cX12_shortest 50 = .ok (.iinc 3 1, 3) := by decide +kernel
theorem dX12_shortest_53 : decode cX12_shortest 53 = .ok (.goto (-40), 3) := by decide +kernel
theorem dX12_shortest_56 : decode cX12_shortest 56 = .ok (.iload_n 1, 1) := by decide +kernel
theorem dX12_shortest_57 : decode cX12_shortest 57 = .ok (.ireturn, 1) := by decide +kernel
theorem dX12_mostOf_0 : decode cX12_mostOf 0 = .ok (.iload_n 1, 1) := by decide +kernel
theorem dX12_mostOf_1 : decode cX12_mostOf 1 = .ok (.iconst 1, 1) := by decide +kernel
theorem dX12_mostOf_2 : decode cX12_mostOf 2 = .ok (.iload_n 1, 1) := by decide +kernel
theorem dX12_mostOf_3 : decode cX12_mostOf 3 = .ok (.aload_n 0, 1) := by decide +kernel
theorem dX12_mostOf_4 : decode cX12_mostOf 4 = .ok (.getfield 19, 3) := by decide +kernel
theorem dX12_mostOf_7 : decode cX12_mostOf 7 = .ok (.iadd, 1) := by decide +kernel
theorem dX12_mostOf_8 : decode cX12_mostOf 8 = .ok (.iconst 1, 1) := by decide +kernel
theorem dX12_mostOf_9 : decode cX12_mostOf 9 = .ok (.isub, 1) := by decide +kernel
theorem dX12_mostOf_10 : decode cX12_mostOf 10 = .ok (.aload_n 0, 1) := by decide +kernel
theorem dX12_mostOf_11 : decode cX12_mostOf 11 = .ok (.getfield 19, 3) := by decide +kernel
theorem dX12_mostOf_14 : decode cX12_mostOf 14 = .ok (.idiv, 1) := by decide +kernel
theorem dX12_mostOf_15 : decode cX12_mostOf 15 = .ok (.invokestatic 260, 3) := by decide +kernel
theorem dX12_mostOf_18 : decode cX12_mostOf 18 = .ok (.iadd, 1) := by decide +kernel
theorem dX12_mostOf_19 : decode cX12_mostOf 19 = .ok (.ireturn, 1) := by decide +kernel
theorem dX12_bound_0 : decode cX12_bound 0 = .ok (.aload_n 0, 1) := by decide +kernel
theorem dX12_bound_1 : decode cX12_bound 1 = .ok (.iconst 0, 1) := by decide +kernel
theorem dX12_bound_2 : decode cX12_bound 2 = .ok (.putfield 60, 3) := by decide +kernel
theorem dX12_bound_5 : decode cX12_bound 5 = .ok (.iload_n 1, 1) := by decide +kernel
theorem dX12_bound_6 : decode cX12_bound 6 = .ok (.i2l, 1) := by decide +kernel
theorem dX12_bound_7 : decode cX12_bound 7 = .ok (.lconst 0, 1) := by decide +kernel
theorem dX12_bound_8 : decode cX12_bound 8 = .ok (.ldc2_w 263, 3) := by decide +kernel
theorem dX12_bound_11 : decode cX12_bound 11 = .ok (.invokestatic 70, 3) := by decide +kernel
theorem dX12_bound_14 : decode cX12_bound 14 = .ok (.ifCond .eq 11, 3) := by decide +kernel
theorem dX12_bound_17 : decode cX12_bound 17 = .ok (.aload_n 0, 1) := by decide +kernel
theorem dX12_bound_18 : decode cX12_bound 18 = .ok (.iload_n 1, 1) := by decide +kernel
theorem dX12_bound_19 : decode cX12_bound 19 = .ok (.invokevirtual 265, 3) := by decide +kernel
theorem dX12_bound_22 : decode cX12_bound 22 = .ok (.goto 4, 3) := by decide +kernel
theorem dX12_bound_25 : decode cX12_bound 25 = .ok (.iconst (-1), 1) := by decide +kernel
theorem dX12_bound_26 : decode cX12_bound 26 = .ok (.ireturn, 1) := by decide +kernel
theorem dX12_checkLong_0 : decode cX12_checkLong 0 = .ok (.aload_n 0, 1) := by decide +kernel
theorem dX12_checkLong_1 : decode cX12_checkLong 1 = .ok (.getfield 194, 3) := by decide +kernel
theorem dX12_checkLong_4 : decode cX12_checkLong 4 = .ok (.ifCond .ne 7, 3) := by decide +kernel
theorem dX12_checkLong_7 : decode cX12_checkLong 7 = .ok (.iconst 0, 1) := by decide +kernel
theorem dX12_checkLong_8 : decode cX12_checkLong 8 = .ok (.goto 4, 3) := by decide +kernel
theorem dX12_checkLong_11 : decode cX12_checkLong 11 = .ok (.iconst 1, 1) := by decide +kernel
theorem dX12_checkLong_12 : decode cX12_checkLong 12 = .ok (.ireturn, 1) := by decide +kernel
theorem dX12_checkOf_0 : decode cX12_checkOf 0 = .ok (.iconst 0, 1) := by decide +kernel
theorem dX12_checkOf_1 : decode cX12_checkOf 1 = .ok (.istore_n 2, 1) := by decide +kernel
theorem dX12_checkOf_2 : decode cX12_checkOf 2 = .ok (.iconst 0, 1) := by decide +kernel
theorem dX12_checkOf_3 : decode cX12_checkOf 3 = .ok (.istore_n 3, 1) := by decide +kernel
theorem dX12_checkOf_4 : decode cX12_checkOf 4 = .ok (.iload_n 3, 1) := by decide +kernel
theorem dX12_checkOf_5 : decode cX12_checkOf 5 = .ok (.iload_n 1, 1) := by decide +kernel
theorem dX12_checkOf_6 : decode cX12_checkOf 6 = .ok (.if_icmp .ge 82, 3) := by decide +kernel
theorem dX12_checkOf_9 : decode cX12_checkOf 9 = .ok (.aload_n 0, 1) := by decide +kernel
theorem dX12_checkOf_10 : decode cX12_checkOf 10 = .ok (.getfield 194, 3) := by decide +kernel
theorem dX12_checkOf_13 : decode cX12_checkOf 13 = .ok (.iconst 1, 1) := by decide +kernel
theorem dX12_checkOf_14 : decode cX12_checkOf 14 = .ok (.if_icmp .ne 19, 3) := by decide +kernel
theorem dX12_checkOf_17 : decode cX12_checkOf 17 = .ok (.iload_n 2, 1) := by decide +kernel
theorem dX12_checkOf_18 : decode cX12_checkOf 18 = .ok (.aload_n 0, 1) := by decide +kernel
theorem dX12_checkOf_19 : decode cX12_checkOf 19 = .ok (.getfield 29, 3) := by decide +kernel
theorem dX12_checkOf_22 : decode cX12_checkOf 22 = .ok (.iload_n 3, 1) := by decide +kernel
theorem dX12_checkOf_23 : decode cX12_checkOf 23 = .ok (.iaload, 1) := by decide +kernel
theorem dX12_checkOf_24 : decode cX12_checkOf 24 = .ok (.iadd, 1) := by decide +kernel
theorem dX12_checkOf_25 : decode cX12_checkOf 25 = .ok (.sipush 255, 3) := by decide +kernel
theorem dX12_checkOf_28 : decode cX12_checkOf 28 = .ok (.iand, 1) := by decide +kernel
theorem dX12_checkOf_29 : decode cX12_checkOf 29 = .ok (.istore_n 2, 1) := by decide +kernel
theorem dX12_checkOf_30 : decode cX12_checkOf 30 = .ok (.goto 52, 3) := by decide +kernel
theorem dX12_checkOf_33 : decode cX12_checkOf 33 = .ok (.iload_n 2, 1) := by decide +kernel
theorem dX12_checkOf_34 : decode cX12_checkOf 34 = .ok (.aload_n 0, 1) := by decide +kernel
theorem dX12_checkOf_35 : decode cX12_checkOf 35 = .ok (.getfield 29, 3) := by decide +kernel
theorem dX12_checkOf_38 : decode cX12_checkOf 38 = .ok (.iload_n 3, 1) := by decide +kernel
theorem dX12_checkOf_39 : decode cX12_checkOf 39 = .ok (.iaload, 1) := by decide +kernel
theorem dX12_checkOf_40 : decode cX12_checkOf 40 = .ok (.ixor, 1) := by decide +kernel
theorem dX12_checkOf_41 : decode cX12_checkOf 41 = .ok (.istore_n 2, 1) := by decide +kernel
theorem dX12_checkOf_42 : decode cX12_checkOf 42 = .ok (.iconst 0, 1) := by decide +kernel
theorem dX12_checkOf_43 : decode cX12_checkOf 43 = .ok (.istore 4, 2) := by decide +kernel
theorem dX12_checkOf_45 : decode cX12_checkOf 45 = .ok (.iload 4, 2) := by decide +kernel
theorem dX12_checkOf_47 : decode cX12_checkOf 47 = .ok (.bipush 8, 2) := by decide +kernel
theorem dX12_checkOf_49 : decode cX12_checkOf 49 = .ok (.if_icmp .ge 33, 3) := by decide +kernel
theorem dX12_checkOf_52 : decode cX12_checkOf 52 = .ok (.iload_n 2, 1) := by decide +kernel
theorem dX12_checkOf_53 : decode cX12_checkOf 53 = .ok (.sipush 128, 3) := by decide +kernel
theorem dX12_checkOf_56 : decode cX12_checkOf 56 = .ok (.if_icmp .lt 16, 3) := by decide +kernel
theorem dX12_checkOf_59 : decode cX12_checkOf 59 = .ok (.iload_n 2, 1) := by decide +kernel
theorem dX12_checkOf_60 : decode cX12_checkOf 60 = .ok (.iconst 1, 1) := by decide +kernel
theorem dX12_checkOf_61 : decode cX12_checkOf 61 = .ok (.ishl, 1) := by decide +kernel
theorem dX12_checkOf_62 : decode cX12_checkOf 62 = .ok (.sipush 255, 3) := by decide +kernel
theorem dX12_checkOf_65 : decode cX12_checkOf 65 = .ok (.iand, 1) := by decide +kernel
theorem dX12_checkOf_66 : decode cX12_checkOf 66 = .ok (.bipush 7, 2) := by decide +kernel
theorem dX12_checkOf_68 : decode cX12_checkOf 68 = .ok (.ixor, 1) := by decide +kernel
theorem dX12_checkOf_69 : decode cX12_checkOf 69 = .ok (.goto 6, 3) := by decide +kernel
theorem dX12_checkOf_72 : decode cX12_checkOf 72 = .ok (.iload_n 2, 1) := by decide +kernel
theorem dX12_checkOf_73 : decode cX12_checkOf 73 = .ok (.iconst 1, 1) := by decide +kernel
theorem dX12_checkOf_74 : decode cX12_checkOf 74 = .ok (.ishl, 1) := by decide +kernel
theorem dX12_checkOf_75 : decode cX12_checkOf 75 = .ok (.istore_n 2, 1) := by decide +kernel
theorem dX12_checkOf_76 : decode cX12_checkOf 76 = .ok (.iinc 4 1, 3) := by decide +kernel
theorem dX12_checkOf_79 : decode cX12_checkOf 79 = .ok (.goto (-34), 3) := by decide +kernel
theorem dX12_checkOf_82 : decode cX12_checkOf 82 = .ok (.iinc 3 1, 3) := by decide +kernel
theorem dX12_checkOf_85 : decode cX12_checkOf 85 = .ok (.goto (-81), 3) := by decide +kernel
theorem dX12_checkOf_88 : decode cX12_checkOf 88 = .ok (.iload_n 2, 1) := by decide +kernel
theorem dX12_checkOf_89 : decode cX12_checkOf 89 = .ok (.ireturn, 1) := by decide +kernel
theorem dX12_frameIs_0 : decode cX12_frameIs 0 = .ok (.iload_n 1, 1) := by decide +kernel
theorem dX12_frameIs_1 : decode cX12_frameIs 1 = .ok (.ifCond .ne 15, 3) := by decide +kernel
theorem dX12_frameIs_4 : decode cX12_frameIs 4 = .ok (.aload_n 0, 1) := by decide +kernel
theorem dX12_frameIs_5 : decode cX12_frameIs 5 = .ok (.aload_n 0, 1) := by decide +kernel
theorem dX12_frameIs_6 : decode cX12_frameIs 6 = .ok (.getfield 192, 3) := by decide +kernel
theorem dX12_frameIs_9 : decode cX12_frameIs 9 = .ok (.invokevirtual 257, 3) := by decide +kernel
theorem dX12_frameIs_12 : decode cX12_frameIs 12 = .ok (.iconst (-1), 1) := by decide +kernel
theorem dX12_frameIs_13 : decode cX12_frameIs 13 = .ok (.if_icmp .eq 5, 3) := by decide +kernel
theorem dX12_frameIs_16 : decode cX12_frameIs 16 = .ok (.iconst 2, 1) := by decide +kernel
theorem dX12_frameIs_17 : decode cX12_frameIs 17 = .ok (.ireturn, 1) := by decide +kernel
theorem dX12_frameIs_18 : decode cX12_frameIs 18 = .ok (.aload_n 0, 1) := by decide +kernel
theorem dX12_frameIs_19 : decode cX12_frameIs 19 = .ok (.getfield 217, 3) := by decide +kernel
theorem dX12_frameIs_22 : decode cX12_frameIs 22 = .ok (.aload_n 0, 1) := by decide +kernel
theorem dX12_frameIs_23 : decode cX12_frameIs 23 = .ok (.invokevirtual 268, 3) := by decide +kernel
theorem dX12_frameIs_26 : decode cX12_frameIs 26 = .ok (.isub, 1) := by decide +kernel
theorem dX12_frameIs_27 : decode cX12_frameIs 27 = .ok (.istore_n 2, 1) := by decide +kernel
theorem dX12_frameIs_28 : decode cX12_frameIs 28 = .ok (.iload_n 2, 1) := by decide +kernel
theorem dX12_frameIs_29 : decode cX12_frameIs 29 = .ok (.iconst 1, 1) := by decide +kernel
theorem dX12_frameIs_30 : decode cX12_frameIs 30 = .ok (.if_icmp .lt 24, 3) := by decide +kernel
theorem dX12_frameIs_33 : decode cX12_frameIs 33 = .ok (.aload_n 0, 1) := by decide +kernel
theorem dX12_frameIs_34 : decode cX12_frameIs 34 = .ok (.getfield 194, 3) := by decide +kernel
theorem dX12_frameIs_37 : decode cX12_frameIs 37 = .ok (.ifCond .eq 19, 3) := by decide +kernel
theorem dX12_frameIs_40 : decode cX12_frameIs 40 = .ok (.aload_n 0, 1) := by decide +kernel
theorem dX12_frameIs_41 : decode cX12_frameIs 41 = .ok (.iload_n 2, 1) := by decide +kernel
theorem dX12_frameIs_42 : decode cX12_frameIs 42 = .ok (.invokevirtual 271, 3) := by decide +kernel
theorem dX12_frameIs_45 : decode cX12_frameIs 45 = .ok (.aload_n 0, 1) := by decide +kernel
theorem dX12_frameIs_46 : decode cX12_frameIs 46 = .ok (.getfield 29, 3) := by decide +kernel
theorem dX12_frameIs_49 : decode cX12_frameIs 49 = .ok (.iload_n 2, 1) := by decide +kernel
theorem dX12_frameIs_50 : decode cX12_frameIs 50 = .ok (.iaload, 1) := by decide +kernel
theorem dX12_frameIs_51 : decode cX12_frameIs 51 = .ok (.if_icmp .eq 5, 3) := by decide +kernel
theorem dX12_frameIs_54 : decode cX12_frameIs 54 = .ok (.iconst 3, 1) := by decide +kernel
theorem dX12_frameIs_55 : decode cX12_frameIs 55 = .ok (.ireturn, 1) := by decide +kernel
theorem dX12_frameIs_56 : decode cX12_frameIs 56 = .ok (.aload_n 0, 1) := by decide +kernel
theorem dX12_frameIs_57 : decode cX12_frameIs 57 = .ok (.getfield 29, 3) := by decide +kernel
theorem dX12_frameIs_60 : decode cX12_frameIs 60 = .ok (.iconst 0, 1) := by decide +kernel
theorem dX12_frameIs_61 : decode cX12_frameIs 61 = .ok (.iaload, 1) := by decide +kernel
theorem dX12_frameIs_62 : decode cX12_frameIs 62 = .ok (.bipush 64, 2) := by decide +kernel
theorem dX12_frameIs_64 : decode cX12_frameIs 64 = .ok (.idiv, 1) := by decide +kernel
theorem dX12_frameIs_65 : decode cX12_frameIs 65 = .ok (.aload_n 0, 1) := by decide +kernel
theorem dX12_frameIs_66 : decode cX12_frameIs 66 = .ok (.getfield 198, 3) := by decide +kernel
theorem dX12_frameIs_69 : decode cX12_frameIs 69 = .ok (.if_icmp .ge 13, 3) := by decide +kernel
theorem dX12_frameIs_72 : decode cX12_frameIs 72 = .ok (.iload_n 2, 1) := by decide +kernel
theorem dX12_frameIs_73 : decode cX12_frameIs 73 = .ok (.iconst 1, 1) := by decide +kernel
theorem dX12_frameIs_74 : decode cX12_frameIs 74 = .ok (.isub, 1) := by decide +kernel
theorem dX12_frameIs_75 : decode cX12_frameIs 75 = .ok (.aload_n 0, 1) := by decide +kernel
theorem dX12_frameIs_76 : decode cX12_frameIs 76 = .ok (.getfield 196, 3) := by decide +kernel
theorem dX12_frameIs_79 : decode cX12_frameIs 79 = .ok (.if_icmp .le 7, 3) := by decide +kernel
theorem dX12_frameIs_82 : decode cX12_frameIs 82 = .ok (.iconst 4, 1) := by decide +kernel
theorem dX12_frameIs_83 : decode cX12_frameIs 83 = .ok (.goto 4, 3) := by decide +kernel
theorem dX12_frameIs_86 : decode cX12_frameIs 86 = .ok (.iconst 0, 1) := by decide +kernel
theorem dX12_frameIs_87 : decode cX12_frameIs 87 = .ok (.ireturn, 1) := by decide +kernel
theorem dX12_partLong_0 : decode cX12_partLong 0 = .ok (.aload_n 0, 1) := by decide +kernel
theorem dX12_partLong_1 : decode cX12_partLong 1 = .ok (.getfield 217, 3) := by decide +kernel
theorem dX12_partLong_4 : decode cX12_partLong 4 = .ok (.iconst 1, 1) := by decide +kernel
theorem dX12_partLong_5 : decode cX12_partLong 5 = .ok (.isub, 1) := by decide +kernel
theorem dX12_partLong_6 : decode cX12_partLong 6 = .ok (.aload_n 0, 1) := by decide +kernel
theorem dX12_partLong_7 : decode cX12_partLong 7 = .ok (.invokevirtual 268, 3) := by decide +kernel
theorem dX12_partLong_10 : decode cX12_partLong 10 = .ok (.isub, 1) := by decide +kernel
theorem dX12_partLong_11 : decode cX12_partLong 11 = .ok (.ireturn, 1) := by decide +kernel
theorem dX12_keepsRow_0 : decode cX12_keepsRow 0 = .ok (.aload_n 0, 1) := by decide +kernel
theorem dX12_keepsRow_1 : decode cX12_keepsRow 1 = .ok (.getfield 205, 3) := by decide +kernel
theorem dX12_keepsRow_4 : decode cX12_keepsRow 4 = .ok (.bipush 12, 2) := by decide +kernel
theorem dX12_keepsRow_6 : decode cX12_keepsRow 6 = .ok (.if_icmp .ne 45, 3) := by decide +kernel
theorem dX12_keepsRow_9 : decode cX12_keepsRow 9 = .ok (.sipush 9309, 3) := by decide +kernel
theorem dX12_keepsRow_12 : decode cX12_keepsRow 12 = .ok (.istore_n 2, 1) := by decide +kernel
theorem dX12_keepsRow_13 : decode cX12_keepsRow 13 = .ok (.iload_n 2, 1) := by decide +kernel
theorem dX12_keepsRow_14 : decode cX12_keepsRow 14 = .ok (.ldc 38, 2) := by decide +kernel
theorem dX12_keepsRow_16 : decode cX12_keepsRow 16 = .ok (.if_icmp .ge 25, 3) := by decide +kernel
theorem dX12_keepsRow_19 : decode cX12_keepsRow 19 = .ok (.aload_n 0, 1) := by decide +kernel
theorem dX12_keepsRow_20 : decode cX12_keepsRow 20 = .ok (.getfield 39, 3) := by decide +kernel
theorem dX12_keepsRow_23 : decode cX12_keepsRow 23 = .ok (.iload_n 2, 1) := by decide +kernel
theorem dX12_keepsRow_24 : decode cX12_keepsRow 24 = .ok (.sipush 9309, 3) := by decide +kernel
theorem dX12_keepsRow_27 : decode cX12_keepsRow 27 = .ok (.isub, 1) := by decide +kernel
theorem dX12_keepsRow_28 : decode cX12_keepsRow 28 = .ok (.aload_n 0, 1) := by decide +kernel
theorem dX12_keepsRow_29 : decode cX12_keepsRow 29 = .ok (.getfield 39, 3) := by decide +kernel
theorem dX12_keepsRow_32 : decode cX12_keepsRow 32 = .ok (.iload_n 2, 1) := by decide +kernel
theorem dX12_keepsRow_33 : decode cX12_keepsRow 33 = .ok (.iaload, 1) := by decide +kernel
theorem dX12_keepsRow_34 : decode cX12_keepsRow 34 = .ok (.iastore, 1) := by decide +kernel
theorem dX12_keepsRow_35 : decode cX12_keepsRow 35 = .ok (.iinc 2 1, 3) := by decide +kernel
theorem dX12_keepsRow_38 : decode cX12_keepsRow 38 = .ok (.goto (-25), 3) := by decide +kernel
theorem dX12_keepsRow_41 : decode cX12_keepsRow 41 = .ok (.aload_n 0, 1) := by decide +kernel
theorem dX12_keepsRow_42 : decode cX12_keepsRow 42 = .ok (.dup, 1) := by decide +kernel
theorem dX12_keepsRow_43 : decode cX12_keepsRow 43 = .ok (.getfield 205, 3) := by decide +kernel
theorem dX12_keepsRow_46 : decode cX12_keepsRow 46 = .ok (.iconst 1, 1) := by decide +kernel
theorem dX12_keepsRow_47 : decode cX12_keepsRow 47 = .ok (.isub, 1) := by decide +kernel
theorem dX12_keepsRow_48 : decode cX12_keepsRow 48 = .ok (.putfield 205, 3) := by decide +kernel
theorem dX12_keepsRow_51 : decode cX12_keepsRow 51 = .ok (.iconst 0, 1) := by decide +kernel
theorem dX12_keepsRow_52 : decode cX12_keepsRow 52 = .ok (.istore_n 2, 1) := by decide +kernel
theorem dX12_keepsRow_53 : decode cX12_keepsRow 53 = .ok (.iload_n 2, 1) := by decide +kernel
theorem dX12_keepsRow_54 : decode cX12_keepsRow 54 = .ok (.sipush 9309, 3) := by decide +kernel
theorem dX12_keepsRow_57 : decode cX12_keepsRow 57 = .ok (.if_icmp .ge 27, 3) := by decide +kernel
theorem dX12_keepsRow_60 : decode cX12_keepsRow 60 = .ok (.aload_n 0, 1) := by decide +kernel
theorem dX12_keepsRow_61 : decode cX12_keepsRow 61 = .ok (.getfield 39, 3) := by decide +kernel
theorem dX12_keepsRow_64 : decode cX12_keepsRow 64 = .ok (.sipush 9309, 3) := by decide +kernel
theorem dX12_keepsRow_67 : decode cX12_keepsRow 67 = .ok (.aload_n 0, 1) := by decide +kernel
theorem dX12_keepsRow_68 : decode cX12_keepsRow 68 = .ok (.getfield 205, 3) := by decide +kernel
theorem dX12_keepsRow_71 : decode cX12_keepsRow 71 = .ok (.imul, 1) := by decide +kernel
theorem dX12_keepsRow_72 : decode cX12_keepsRow 72 = .ok (.iload_n 2, 1) := by decide +kernel
theorem dX12_keepsRow_73 : decode cX12_keepsRow 73 = .ok (.iadd, 1) := by decide +kernel
theorem dX12_keepsRow_74 : decode cX12_keepsRow 74 = .ok (.aload_n 1, 1) := by decide +kernel
theorem dX12_keepsRow_75 : decode cX12_keepsRow 75 = .ok (.iload_n 2, 1) := by decide +kernel
theorem dX12_keepsRow_76 : decode cX12_keepsRow 76 = .ok (.iaload, 1) := by decide +kernel
theorem dX12_keepsRow_77 : decode cX12_keepsRow 77 = .ok (.iastore, 1) := by decide +kernel
theorem dX12_keepsRow_78 : decode cX12_keepsRow 78 = .ok (.iinc 2 1, 3) := by decide +kernel
theorem dX12_keepsRow_81 : decode cX12_keepsRow 81 = .ok (.goto (-28), 3) := by decide +kernel
theorem dX12_keepsRow_84 : decode cX12_keepsRow 84 = .ok (.aload_n 0, 1) := by decide +kernel
theorem dX12_keepsRow_85 : decode cX12_keepsRow 85 = .ok (.dup, 1) := by decide +kernel
theorem dX12_keepsRow_86 : decode cX12_keepsRow 86 = .ok (.getfield 205, 3) := by decide +kernel
theorem dX12_keepsRow_89 : decode cX12_keepsRow 89 = .ok (.iconst 1, 1) := by decide +kernel
theorem dX12_keepsRow_90 : decode cX12_keepsRow 90 = .ok (.iadd, 1) := by decide +kernel
theorem dX12_keepsRow_91 : decode cX12_keepsRow 91 = .ok (.putfield 205, 3) := by decide +kernel
theorem dX12_keepsRow_94 : decode cX12_keepsRow 94 = .ok (.return_, 1) := by decide +kernel
theorem dX12_keeps_0 : decode cX12_keeps 0 = .ok (.aload_n 0, 1) := by decide +kernel
theorem dX12_keeps_1 : decode cX12_keeps 1 = .ok (.aload_n 0, 1) := by decide +kernel
theorem dX12_keeps_2 : decode cX12_keeps 2 = .ok (.getfield 16, 3) := by decide +kernel
theorem dX12_keeps_5 : decode cX12_keeps 5 = .ok (.invokevirtual 274, 3) := by decide +kernel
theorem dX12_keeps_8 : decode cX12_keeps 8 = .ok (.return_, 1) := by decide +kernel
theorem dX12_putAside_0 : decode cX12_putAside 0 = .ok (.iconst 0, 1) := by decide +kernel
theorem dX12_putAside_1 : decode cX12_putAside 1 = .ok (.istore_n 1, 1) := by decide +kernel
theorem dX12_putAside_2 : decode cX12_putAside 2 = .ok (.iload_n 1, 1) := by decide +kernel
theorem dX12_putAside_3 : decode cX12_putAside 3 = .ok (.sipush 9309, 3) := by decide +kernel
theorem dX12_putAside_6 : decode cX12_putAside 6 = .ok (.if_icmp .ge 21, 3) := by decide +kernel
theorem dX12_putAside_9 : decode cX12_putAside 9 = .ok (.aload_n 0, 1) := by decide +kernel
theorem dX12_putAside_10 : decode cX12_putAside 10 = .ok (.getfield 42, 3) := by decide +kernel
theorem dX12_putAside_13 : decode cX12_putAside 13 = .ok (.iload_n 1, 1) := by decide +kernel
theorem dX12_putAside_14 : decode cX12_putAside 14 = .ok (.aload_n 0, 1) := by decide +kernel
theorem dX12_putAside_15 : decode cX12_putAside 15 = .ok (.getfield 16, 3) := by decide +kernel
theorem dX12_putAside_18 : decode cX12_putAside 18 = .ok (.iload_n 1, 1) := by decide +kernel
theorem dX12_putAside_19 : decode cX12_putAside 19 = .ok (.iaload, 1) := by decide +kernel
theorem dX12_putAside_20 : decode cX12_putAside 20 = .ok (.iastore, 1) := by decide +kernel
theorem dX12_putAside_21 : decode cX12_putAside 21 = .ok (.iinc 1 1, 3) := by decide +kernel
theorem dX12_putAside_24 : decode cX12_putAside 24 = .ok (.goto (-22), 3) := by decide +kernel
theorem dX12_putAside_27 : decode cX12_putAside 27 = .ok (.return_, 1) := by decide +kernel
theorem dX12_takeBack_0 : decode cX12_takeBack 0 = .ok (.iconst 0, 1) := by decide +kernel
theorem dX12_takeBack_1 : decode cX12_takeBack 1 = .ok (.istore_n 1, 1) := by decide +kernel
theorem dX12_takeBack_2 : decode cX12_takeBack 2 = .ok (.iload_n 1, 1) := by decide +kernel
theorem dX12_takeBack_3 : decode cX12_takeBack 3 = .ok (.sipush 9309, 3) := by decide +kernel
theorem dX12_takeBack_6 : decode cX12_takeBack 6 = .ok (.if_icmp .ge 21, 3) := by decide +kernel
theorem dX12_takeBack_9 : decode cX12_takeBack 9 = .ok (.aload_n 0, 1) := by decide +kernel
theorem dX12_takeBack_10 : decode cX12_takeBack 10 = .ok (.getfield 16, 3) := by decide +kernel
theorem dX12_takeBack_13 : decode cX12_takeBack 13 = .ok (.iload_n 1, 1) := by decide +kernel
theorem dX12_takeBack_14 : decode cX12_takeBack 14 = .ok (.aload_n 0, 1) := by decide +kernel
theorem dX12_takeBack_15 : decode cX12_takeBack 15 = .ok (.getfield 42, 3) := by decide +kernel
theorem dX12_takeBack_18 : decode cX12_takeBack 18 = .ok (.iload_n 1, 1) := by decide +kernel
theorem dX12_takeBack_19 : decode cX12_takeBack 19 = .ok (.iaload, 1) := by decide +kernel
theorem dX12_takeBack_20 : decode cX12_takeBack 20 = .ok (.iastore, 1) := by decide +kernel
theorem dX12_takeBack_21 : decode cX12_takeBack 21 = .ok (.iinc 1 1, 3) := by decide +kernel
theorem dX12_takeBack_24 : decode cX12_takeBack 24 = .ok (.goto (-22), 3) := by decide +kernel
theorem dX12_takeBack_27 : decode cX12_takeBack 27 = .ok (.return_, 1) := by decide +kernel
theorem dX12_undo_0 : decode cX12_undo 0 = .ok (.aload_n 0, 1) := by decide +kernel
theorem dX12_undo_1 : decode cX12_undo 1 = .ok (.iconst 0, 1) := by decide +kernel
theorem dX12_undo_2 : decode cX12_undo 2 = .ok (.putfield 60, 3) := by decide +kernel
theorem dX12_undo_5 : decode cX12_undo 5 = .ok (.aload_n 0, 1) := by decide +kernel
theorem dX12_undo_6 : decode cX12_undo 6 = .ok (.getfield 205, 3) := by decide +kernel
theorem dX12_undo_9 : decode cX12_undo 9 = .ok (.ifCond .ne 5, 3) := by decide +kernel
theorem dX12_undo_12 : decode cX12_undo 12 = .ok (.iconst (-1), 1) := by decide +kernel
theorem dX12_undo_13 : decode cX12_undo 13 = .ok (.ireturn, 1) := by decide +kernel
theorem dX12_undo_14 : decode cX12_undo 14 = .ok (.aload_n 0, 1) := by decide +kernel
theorem dX12_undo_15 : decode cX12_undo 15 = .ok (.dup, 1) := by decide +kernel
theorem dX12_undo_16 : decode cX12_undo 16 = .ok (.getfield 205, 3) := by decide +kernel
theorem dX12_undo_19 : decode cX12_undo 19 = .ok (.iconst 1, 1) := by decide +kernel
theorem dX12_undo_20 : decode cX12_undo 20 = .ok (.isub, 1) := by decide +kernel
theorem dX12_undo_21 : decode cX12_undo 21 = .ok (.putfield 205, 3) := by decide +kernel
theorem dX12_undo_24 : decode cX12_undo 24 = .ok (.iconst 0, 1) := by decide +kernel
theorem dX12_undo_25 : decode cX12_undo 25 = .ok (.istore_n 1, 1) := by decide +kernel
theorem dX12_undo_26 : decode cX12_undo 26 = .ok (.iload_n 1, 1) := by decide +kernel
theorem dX12_undo_27 : decode cX12_undo 27 = .ok (.sipush 9309, 3) := by decide +kernel
theorem dX12_undo_30 : decode cX12_undo 30 = .ok (.if_icmp .ge 30, 3) := by decide +kernel
theorem dX12_undo_33 : decode cX12_undo 33 = .ok (.aload_n 0, 1) := by decide +kernel
theorem dX12_undo_34 : decode cX12_undo 34 = .ok (.getfield 16, 3) := by decide +kernel
theorem dX12_undo_37 : decode cX12_undo 37 = .ok (.iload_n 1, 1) := by decide +kernel
theorem dX12_undo_38 : decode cX12_undo 38 = .ok (.aload_n 0, 1) := by decide +kernel
theorem dX12_undo_39 : decode cX12_undo 39 = .ok (.getfield 39, 3) := by decide +kernel
theorem dX12_undo_42 : decode cX12_undo 42 = .ok (.sipush 9309, 3) := by decide +kernel
theorem dX12_undo_45 : decode cX12_undo 45 = .ok (.aload_n 0, 1) := by decide +kernel
theorem dX12_undo_46 : decode cX12_undo 46 = .ok (.getfield 205, 3) := by decide +kernel
theorem dX12_undo_49 : decode cX12_undo 49 = .ok (.imul, 1) := by decide +kernel
theorem dX12_undo_50 : decode cX12_undo 50 = .ok (.iload_n 1, 1) := by decide +kernel
theorem dX12_undo_51 : decode cX12_undo 51 = .ok (.iadd, 1) := by decide +kernel
theorem dX12_undo_52 : decode cX12_undo 52 = .ok (.iaload, 1) := by decide +kernel
theorem dX12_undo_53 : decode cX12_undo 53 = .ok (.iastore, 1) := by decide +kernel
theorem dX12_undo_54 : decode cX12_undo 54 = .ok (.iinc 1 1, 3) := by decide +kernel
theorem dX12_undo_57 : decode cX12_undo 57 = .ok (.goto (-31), 3) := by decide +kernel
theorem dX12_undo_60 : decode cX12_undo 60 = .ok (.aload_n 0, 1) := by decide +kernel
theorem dX12_undo_61 : decode cX12_undo 61 = .ok (.getfield 205, 3) := by decide +kernel
theorem dX12_undo_64 : decode cX12_undo 64 = .ok (.ireturn, 1) := by decide +kernel
theorem dX12_refuses_0 : decode cX12_refuses 0 = .ok (.aload_n 0, 1) := by decide +kernel
theorem dX12_refuses_1 : decode cX12_refuses 1 = .ok (.getfield 45, 3) := by decide +kernel
theorem dX12_refuses_4 : decode cX12_refuses 4 = .ok (.iload_n 1, 1) := by decide +kernel
theorem dX12_refuses_5 : decode cX12_refuses 5 = .ok (.dup2, 1) := by decide +kernel
theorem dX12_refuses_6 : decode cX12_refuses 6 = .ok (.iaload, 1) := by decide +kernel
theorem dX12_refuses_7 : decode cX12_refuses 7 = .ok (.iconst 1, 1) := by decide +kernel
theorem dX12_refuses_8 : decode cX12_refuses 8 = .ok (.iadd, 1) := by decide +kernel
theorem dX12_refuses_9 : decode cX12_refuses 9 = .ok (.iastore, 1) := by decide +kernel
theorem dX12_refuses_10 : decode cX12_refuses 10 = .ok (.iconst (-1), 1) := by decide +kernel
theorem dX12_refuses_11 : decode cX12_refuses 11 = .ok (.ireturn, 1) := by decide +kernel
theorem dX12_status_0 : decode cX12_status 0 = .ok (.aload_n 0, 1) := by decide +kernel
theorem dX12_status_1 : decode cX12_status 1 = .ok (.iconst 0, 1) := by decide +kernel
theorem dX12_status_2 : decode cX12_status 2 = .ok (.putfield 60, 3) := by decide +kernel
theorem dX12_status_5 : decode cX12_status 5 = .ok (.iload_n 1, 1) := by decide +kernel
theorem dX12_status_6 : decode cX12_status 6 = .ok (.i2l, 1) := by decide +kernel
theorem dX12_status_7 : decode cX12_status 7 = .ok (.lconst 0, 1) := by decide +kernel
theorem dX12_status_8 : decode cX12_status 8 = .ok (.ldc2_w 278, 3) := by decide +kernel
theorem dX12_status_11 : decode cX12_status 11 = .ok (.invokestatic 70, 3) := by decide +kernel
theorem dX12_status_14 : decode cX12_status 14 = .ok (.ifCond .eq 12, 3) := by decide +kernel
theorem dX12_status_17 : decode cX12_status 17 = .ok (.aload_n 0, 1) := by decide +kernel
theorem dX12_status_18 : decode cX12_status 18 = .ok (.getfield 45, 3) := by decide +kernel
theorem dX12_status_21 : decode cX12_status 21 = .ok (.iload_n 1, 1) := by decide +kernel
theorem dX12_status_22 : decode cX12_status 22 = .ok (.iaload, 1) := by decide +kernel
theorem dX12_status_23 : decode cX12_status 23 = .ok (.goto 4, 3) := by decide +kernel
theorem dX12_status_26 : decode cX12_status 26 = .ok (.iconst (-1), 1) := by decide +kernel
theorem dX12_status_27 : decode cX12_status 27 = .ok (.ireturn, 1) := by decide +kernel
theorem dX12_isChannel_0 : decode cX12_isChannel 0 = .ok (.aload_n 0, 1) := by decide +kernel
theorem dX12_isChannel_1 : decode cX12_isChannel 1 = .ok (.getfield 188, 3) := by decide +kernel
theorem dX12_isChannel_4 : decode cX12_isChannel 4 = .ok (.ifCond .eq 23, 3) := by decide +kernel
theorem dX12_isChannel_7 : decode cX12_isChannel 7 = .ok (.iload_n 1, 1) := by decide +kernel
theorem dX12_isChannel_8 : decode cX12_isChannel 8 = .ok (.i2l, 1) := by decide +kernel
theorem dX12_isChannel_9 : decode cX12_isChannel 9 = .ok (.lconst 0, 1) := by decide +kernel
theorem dX12_isChannel_10 : decode cX12_isChannel 10 = .ok (.aload_n 0, 1) := by decide +kernel
theorem dX12_isChannel_11 : decode cX12_isChannel 11 = .ok (.getfield 198, 3) := by decide +kernel
theorem dX12_isChannel_14 : decode cX12_isChannel 14 = .ok (.iconst 1, 1) := by decide +kernel
theorem dX12_isChannel_15 : decode cX12_isChannel 15 = .ok (.isub, 1) := by decide +kernel
theorem dX12_isChannel_16 : decode cX12_isChannel 16 = .ok (.i2l, 1) := by decide +kernel
theorem dX12_isChannel_17 : decode cX12_isChannel 17 = .ok (.invokestatic 70, 3) := by decide +kernel
theorem dX12_isChannel_20 : decode cX12_isChannel 20 = .ok (.ifCond .eq 7, 3) := by decide +kernel
theorem dX12_isChannel_23 : decode cX12_isChannel 23 = .ok (.iconst 1, 1) := by decide +kernel
theorem dX12_isChannel_24 : decode cX12_isChannel 24 = .ok (.goto 4, 3) := by decide +kernel
theorem dX12_isChannel_27 : decode cX12_isChannel 27 = .ok (.iconst 0, 1) := by decide +kernel
theorem dX12_isChannel_28 : decode cX12_isChannel 28 = .ok (.ireturn, 1) := by decide +kernel
theorem dX12_waitAt_0 : decode cX12_waitAt 0 = .ok (.bipush 12, 2) := by decide +kernel
theorem dX12_waitAt_2 : decode cX12_waitAt 2 = .ok (.bipush 121, 2) := by decide +kernel
theorem dX12_waitAt_4 : decode cX12_waitAt 4 = .ok (.iload_n 0, 1) := by decide +kernel
theorem dX12_waitAt_5 : decode cX12_waitAt 5 = .ok (.imul, 1) := by decide +kernel
theorem dX12_waitAt_6 : decode cX12_waitAt 6 = .ok (.iadd, 1) := by decide +kernel
theorem dX12_waitAt_7 : decode cX12_waitAt 7 = .ok (.ireturn, 1) := by decide +kernel
theorem dX12_send_0 : decode cX12_send 0 = .ok (.aload_n 0, 1) := by decide +kernel
theorem dX12_send_1 : decode cX12_send 1 = .ok (.iconst 0, 1) := by decide +kernel
theorem dX12_send_2 : decode cX12_send 2 = .ok (.putfield 60, 3) := by decide +kernel
theorem dX12_send_5 : decode cX12_send 5 = .ok (.aload_n 0, 1) := by decide +kernel
theorem dX12_send_6 : decode cX12_send 6 = .ok (.getfield 188, 3) := by decide +kernel
theorem dX12_send_9 : decode cX12_send 9 = .ok (.ifCond .ne 9, 3) := by decide +kernel
theorem dX12_send_12 : decode cX12_send 12 = .ok (.aload_n 0, 1) := by decide +kernel
theorem dX12_send_13 : decode cX12_send 13 = .ok (.iconst 0, 1) := by decide +kernel
theorem dX12_send_14 : decode cX12_send 14 = .ok (.invokevirtual 280, 3) := by decide +kernel
theorem dX12_send_17 : decode cX12_send 17 = .ok (.ireturn, 1) := by decide +kernel
theorem dX12_send_18 : decode cX12_send 18 = .ok (.aload_n 0, 1) := by decide +kernel
theorem dX12_send_19 : decode cX12_send 19 = .ok (.iload_n 1, 1) := by decide +kernel
theorem dX12_send_20 : decode cX12_send 20 = .ok (.invokevirtual 283, 3) := by decide +kernel
theorem dX12_send_23 : decode cX12_send 23 = .ok (.ifCond .ne 9, 3) := by decide +kernel
theorem dX12_send_26 : decode cX12_send 26 = .ok (.aload_n 0, 1) := by decide +kernel
theorem dX12_send_27 : decode cX12_send 27 = .ok (.iconst 1, 1) := by decide +kernel
theorem dX12_send_28 : decode cX12_send 28 = .ok (.invokevirtual 280, 3) := by decide +kernel
theorem dX12_send_31 : decode cX12_send 31 = .ok (.ireturn, 1) := by decide +kernel
theorem dX12_send_32 : decode cX12_send 32 = .ok (.aload_n 0, 1) := by decide +kernel
theorem dX12_send_33 : decode cX12_send 33 = .ok (.getfield 63, 3) := by decide +kernel
theorem dX12_send_36 : decode cX12_send 36 = .ok (.bipush 120, 2) := by decide +kernel
theorem dX12_send_38 : decode cX12_send 38 = .ok (.if_icmp .le 9, 3) := by decide +kernel
theorem dX12_send_41 : decode cX12_send 41 = .ok (.aload_n 0, 1) := by decide +kernel
theorem dX12_send_42 : decode cX12_send 42 = .ok (.iconst 2, 1) := by decide +kernel
theorem dX12_send_43 : decode cX12_send 43 = .ok (.invokevirtual 280, 3) := by decide +kernel
theorem dX12_send_46 : decode cX12_send 46 = .ok (.ireturn, 1) := by decide +kernel
theorem dX12_send_47 : decode cX12_send 47 = .ok (.aload_n 0, 1) := by decide +kernel
theorem dX12_send_48 : decode cX12_send 48 = .ok (.iload_n 1, 1) := by decide +kernel
theorem dX12_send_49 : decode cX12_send 49 = .ok (.iconst 1, 1) := by decide +kernel
theorem dX12_send_50 : decode cX12_send 50 = .ok (.invokevirtual 286, 3) := by decide +kernel
theorem dX12_send_53 : decode cX12_send 53 = .ok (.bipush 8, 2) := by decide +kernel
theorem dX12_send_55 : decode cX12_send 55 = .ok (.if_icmp .ne 9, 3) := by decide +kernel
theorem dX12_send_58 : decode cX12_send 58 = .ok (.aload_n 0, 1) := by decide +kernel
theorem dX12_send_59 : decode cX12_send 59 = .ok (.iconst 3, 1) := by decide +kernel
theorem dX12_send_60 : decode cX12_send 60 = .ok (.invokevirtual 280, 3) := by decide +kernel
theorem dX12_send_63 : decode cX12_send 63 = .ok (.ireturn, 1) := by decide +kernel
theorem dX12_send_64 : decode cX12_send 64 = .ok (.aload_n 0, 1) := by decide +kernel
theorem dX12_send_65 : decode cX12_send 65 = .ok (.invokevirtual 289, 3) := by decide +kernel
theorem dX12_send_68 : decode cX12_send 68 = .ok (.aload_n 0, 1) := by decide +kernel
theorem dX12_send_69 : decode cX12_send 69 = .ok (.iload_n 1, 1) := by decide +kernel
theorem dX12_send_70 : decode cX12_send 70 = .ok (.iconst 1, 1) := by decide +kernel
theorem dX12_send_71 : decode cX12_send 71 = .ok (.invokevirtual 286, 3) := by decide +kernel
theorem dX12_send_74 : decode cX12_send 74 = .ok (.invokestatic 292, 3) := by decide +kernel
theorem dX12_send_77 : decode cX12_send 77 = .ok (.istore_n 2, 1) := by decide +kernel
theorem dX12_send_78 : decode cX12_send 78 = .ok (.aload_n 0, 1) := by decide +kernel
theorem dX12_send_79 : decode cX12_send 79 = .ok (.iload_n 1, 1) := by decide +kernel
theorem dX12_send_80 : decode cX12_send 80 = .ok (.iload_n 2, 1) := by decide +kernel
theorem dX12_send_81 : decode cX12_send 81 = .ok (.aload_n 0, 1) := by decide +kernel
theorem dX12_send_82 : decode cX12_send 82 = .ok (.getfield 63, 3) := by decide +kernel
theorem dX12_send_85 : decode cX12_send 85 = .ok (.invokevirtual 201, 3) := by decide +kernel
theorem dX12_send_88 : decode cX12_send 88 = .ok (.iconst 0, 1) := by decide +kernel
theorem dX12_send_89 : decode cX12_send 89 = .ok (.istore_n 3, 1) := by decide +kernel
theorem dX12_send_90 : decode cX12_send 90 = .ok (.iload_n 3, 1) := by decide +kernel
theorem dX12_send_91 : decode cX12_send 91 = .ok (.aload_n 0, 1) := by decide +kernel
theorem dX12_send_92 : decode cX12_send 92 = .ok (.getfield 63, 3) := by decide +kernel
theorem dX12_send_95 : decode cX12_send 95 = .ok (.if_icmp .ge 25, 3) := by decide +kernel
theorem dX12_send_98 : decode cX12_send 98 = .ok (.aload_n 0, 1) := by decide +kernel
theorem dX12_send_99 : decode cX12_send 99 = .ok (.iload_n 1, 1) := by decide +kernel
theorem dX12_send_100 : decode cX12_send 100 = .ok (.iload_n 2, 1) := by decide +kernel
theorem dX12_send_101 : decode cX12_send 101 = .ok (.iconst 1, 1) := by decide +kernel
theorem dX12_send_102 : decode cX12_send 102 = .ok (.iadd, 1) := by decide +kernel
theorem dX12_send_103 : decode cX12_send 103 = .ok (.iload_n 3, 1) := by decide +kernel
theorem dX12_send_104 : decode cX12_send 104 = .ok (.iadd, 1) := by decide +kernel
theorem dX12_send_105 : decode cX12_send 105 = .ok (.aload_n 0, 1) := by decide +kernel
theorem dX12_send_106 : decode cX12_send 106 = .ok (.getfield 9, 3) := by decide +kernel
theorem dX12_send_109 : decode cX12_send 109 = .ok (.iload_n 3, 1) := by decide +kernel
theorem dX12_send_110 : decode cX12_send 110 = .ok (.iaload, 1) := by decide +kernel
theorem dX12_send_111 : decode cX12_send 111 = .ok (.invokevirtual 201, 3) := by decide +kernel
theorem dX12_send_114 : decode cX12_send 114 = .ok (.iinc 3 1, 3) := by decide +kernel
theorem dX12_send_117 : decode cX12_send 117 = .ok (.goto (-27), 3) := by decide +kernel
theorem dX12_send_120 : decode cX12_send 120 = .ok (.aload_n 0, 1) := by decide +kernel
theorem dX12_send_121 : decode cX12_send 121 = .ok (.iload_n 1, 1) := by decide +kernel
theorem dX12_send_122 : decode cX12_send 122 = .ok (.iconst 1, 1) := by decide +kernel
theorem dX12_send_123 : decode cX12_send 123 = .ok (.iconst 1, 1) := by decide +kernel
theorem dX12_send_124 : decode cX12_send 124 = .ok (.invokevirtual 295, 3) := by decide +kernel
theorem dX12_send_127 : decode cX12_send 127 = .ok (.aload_n 0, 1) := by decide +kernel
theorem dX12_send_128 : decode cX12_send 128 = .ok (.iconst 0, 1) := by decide +kernel
theorem dX12_send_129 : decode cX12_send 129 = .ok (.putfield 63, 3) := by decide +kernel
theorem dX12_send_132 : decode cX12_send 132 = .ok (.aload_n 0, 1) := by decide +kernel
theorem dX12_send_133 : decode cX12_send 133 = .ok (.iload_n 1, 1) := by decide +kernel
theorem dX12_send_134 : decode cX12_send 134 = .ok (.iconst 1, 1) := by decide +kernel
theorem dX12_send_135 : decode cX12_send 135 = .ok (.invokevirtual 286, 3) := by decide +kernel
theorem dX12_send_138 : decode cX12_send 138 = .ok (.ireturn, 1) := by decide +kernel
theorem dX12_pick_0 : decode cX12_pick 0 = .ok (.iconst (-1), 1) := by decide +kernel
theorem dX12_pick_1 : decode cX12_pick 1 = .ok (.istore_n 1, 1) := by decide +kernel
theorem dX12_pick_2 : decode cX12_pick 2 = .ok (.iconst 1, 1) := by decide +kernel
theorem dX12_pick_3 : decode cX12_pick 3 = .ok (.istore_n 2, 1) := by decide +kernel
theorem dX12_pick_4 : decode cX12_pick 4 = .ok (.iload_n 2, 1) := by decide +kernel
theorem dX12_pick_5 : decode cX12_pick 5 = .ok (.aload_n 0, 1) := by decide +kernel
theorem dX12_pick_6 : decode cX12_pick 6 = .ok (.getfield 198, 3) := by decide +kernel
theorem dX12_pick_9 : decode cX12_pick 9 = .ok (.if_icmp .gt 70, 3) := by decide +kernel
theorem dX12_pick_12 : decode cX12_pick 12 = .ok (.aload_n 0, 1) := by decide +kernel
theorem dX12_pick_13 : decode cX12_pick 13 = .ok (.getfield 16, 3) := by decide +kernel
theorem dX12_pick_16 : decode cX12_pick 16 = .ok (.sipush 803, 3) := by decide +kernel
theorem dX12_pick_19 : decode cX12_pick 19 = .ok (.iaload, 1) := by decide +kernel
theorem dX12_pick_20 : decode cX12_pick 20 = .ok (.iload_n 2, 1) := by decide +kernel
theorem dX12_pick_21 : decode cX12_pick 21 = .ok (.iadd, 1) := by decide +kernel
theorem dX12_pick_22 : decode cX12_pick 22 = .ok (.aload_n 0, 1) := by decide +kernel
theorem dX12_pick_23 : decode cX12_pick 23 = .ok (.getfield 198, 3) := by decide +kernel
theorem dX12_pick_26 : decode cX12_pick 26 = .ok (.iadd, 1) := by decide +kernel
theorem dX12_pick_27 : decode cX12_pick 27 = .ok (.aload_n 0, 1) := by decide +kernel
theorem dX12_pick_28 : decode cX12_pick 28 = .ok (.getfield 198, 3) := by decide +kernel
theorem dX12_pick_31 : decode cX12_pick 31 = .ok (.irem, 1) := by decide +kernel
theorem dX12_pick_32 : decode cX12_pick 32 = .ok (.istore_n 3, 1) := by decide +kernel
theorem dX12_pick_33 : decode cX12_pick 33 = .ok (.aload_n 0, 1) := by decide +kernel
theorem dX12_pick_34 : decode cX12_pick 34 = .ok (.iload_n 3, 1) := by decide +kernel
theorem dX12_pick_35 : decode cX12_pick 35 = .ok (.iconst 1, 1) := by decide +kernel
theorem dX12_pick_36 : decode cX12_pick 36 = .ok (.invokevirtual 286, 3) := by decide +kernel
theorem dX12_pick_39 : decode cX12_pick 39 = .ok (.ifCond .le 34, 3) := by decide +kernel
theorem dX12_pick_42 : decode cX12_pick 42 = .ok (.aload_n 0, 1) := by decide +kernel
theorem dX12_pick_43 : decode cX12_pick 43 = .ok (.iload_n 3, 1) := by decide +kernel
theorem dX12_pick_44 : decode cX12_pick 44 = .ok (.iconst 0, 1) := by decide +kernel
theorem dX12_pick_45 : decode cX12_pick 45 = .ok (.invokevirtual 286, 3) := by decide +kernel
theorem dX12_pick_48 : decode cX12_pick 48 = .ok (.ifCond .le 25, 3) := by decide +kernel
theorem dX12_pick_51 : decode cX12_pick 51 = .ok (.iload_n 1, 1) := by decide +kernel
theorem dX12_pick_52 : decode cX12_pick 52 = .ok (.iconst (-1), 1) := by decide +kernel
theorem dX12_pick_53 : decode cX12_pick 53 = .ok (.if_icmp .eq 18, 3) := by decide +kernel
theorem dX12_pick_56 : decode cX12_pick 56 = .ok (.aload_n 0, 1) := by decide +kernel
theorem dX12_pick_57 : decode cX12_pick 57 = .ok (.iload_n 3, 1) := by decide +kernel
theorem dX12_pick_58 : decode cX12_pick 58 = .ok (.iconst 0, 1) := by decide +kernel
theorem dX12_pick_59 : decode cX12_pick 59 = .ok (.invokevirtual 286, 3) := by decide +kernel
theorem dX12_pick_62 : decode cX12_pick 62 = .ok (.aload_n 0, 1) := by decide +kernel
theorem dX12_pick_63 : decode cX12_pick 63 = .ok (.iload_n 1, 1) := by decide +kernel
theorem dX12_pick_64 : decode cX12_pick 64 = .ok (.iconst 0, 1) := by decide +kernel
theorem dX12_pick_65 : decode cX12_pick 65 = .ok (.invokevirtual 286, 3) := by decide +kernel
theorem dX12_pick_68 : decode cX12_pick 68 = .ok (.if_icmp .le 5, 3) := by decide +kernel
theorem dX12_pick_71 : decode cX12_pick 71 = .ok (.iload_n 3, 1) := by decide +kernel
theorem dX12_pick_72 : decode cX12_pick 72 = .ok (.istore_n 1, 1) := by decide +kernel
theorem dX12_pick_73 : decode cX12_pick 73 = .ok (.iinc 2 1, 3) := by decide +kernel
theorem dX12_pick_76 : decode cX12_pick 76 = .ok (.goto (-72), 3) := by decide +kernel
theorem dX12_pick_79 : decode cX12_pick 79 = .ok (.iload_n 1, 1) := by decide +kernel
theorem dX12_pick_80 : decode cX12_pick 80 = .ok (.ireturn, 1) := by decide +kernel
theorem dX12_laysFrame_0 : decode cX12_laysFrame 0 = .ok (.aload_n 0, 1) := by decide +kernel
theorem dX12_laysFrame_1 : decode cX12_laysFrame 1 = .ok (.iload_n 1, 1) := by decide +kernel
theorem dX12_laysFrame_2 : decode cX12_laysFrame 2 = .ok (.iconst 0, 1) := by decide +kernel
theorem dX12_laysFrame_3 : decode cX12_laysFrame 3 = .ok (.invokestatic 292, 3) := by decide +kernel
theorem dX12_laysFrame_6 : decode cX12_laysFrame 6 = .ok (.invokevirtual 286, 3) := by decide +kernel
theorem dX12_laysFrame_9 : decode cX12_laysFrame 9 = .ok (.istore_n 2, 1) := by decide +kernel
theorem dX12_laysFrame_10 : decode cX12_laysFrame 10 = .ok (.aload_n 0, 1) := by decide +kernel
theorem dX12_laysFrame_11 : decode cX12_laysFrame 11 = .ok (.iload_n 1, 1) := by decide +kernel
theorem dX12_laysFrame_12 : decode cX12_laysFrame 12 = .ok (.iconst 2, 1) := by decide +kernel
theorem dX12_laysFrame_13 : decode cX12_laysFrame 13 = .ok (.invokevirtual 286, 3) := by decide +kernel
theorem dX12_laysFrame_16 : decode cX12_laysFrame 16 = .ok (.istore_n 3, 1) := by decide +kernel
theorem dX12_laysFrame_17 : decode cX12_laysFrame 17 = .ok (.aload_n 0, 1) := by decide +kernel
theorem dX12_laysFrame_18 : decode cX12_laysFrame 18 = .ok (.getfield 196, 3) := by decide +kernel
theorem dX12_laysFrame_21 : decode cX12_laysFrame 21 = .ok (.iload_n 2, 1) := by decide +kernel
theorem dX12_laysFrame_22 : decode cX12_laysFrame 22 = .ok (.iload_n 3, 1) := by decide +kernel
theorem dX12_laysFrame_23 : decode cX12_laysFrame 23 = .ok (.isub, 1) := by decide +kernel
theorem dX12_laysFrame_24 : decode cX12_laysFrame 24 = .ok (.invokestatic 97, 3) := by decide +kernel
theorem dX12_laysFrame_27 : decode cX12_laysFrame 27 = .ok (.istore 4, 2) := by decide +kernel
theorem dX12_laysFrame_29 : decode cX12_laysFrame 29 = .ok (.aload_n 0, 1) := by decide +kernel
theorem dX12_laysFrame_30 : decode cX12_laysFrame 30 = .ok (.iconst 0, 1) := by decide +kernel
theorem dX12_laysFrame_31 : decode cX12_laysFrame 31 = .ok (.putfield 217, 3) := by decide +kernel
theorem dX12_laysFrame_34 : decode cX12_laysFrame 34 = .ok (.aload_n 0, 1) := by decide +kernel
theorem dX12_laysFrame_35 : decode cX12_laysFrame 35 = .ok (.bipush 64, 2) := by decide +kernel
theorem dX12_laysFrame_37 : decode cX12_laysFrame 37 = .ok (.iload_n 1, 1) := by decide +kernel
theorem dX12_laysFrame_38 : decode cX12_laysFrame 38 = .ok (.imul, 1) := by decide +kernel
theorem dX12_laysFrame_39 : decode cX12_laysFrame 39 = .ok (.iload_n 3, 1) := by decide +kernel
theorem dX12_laysFrame_40 : decode cX12_laysFrame 40 = .ok (.ifCond .ne 8, 3) := by decide +kernel
theorem dX12_laysFrame_43 : decode cX12_laysFrame 43 = .ok (.bipush 32, 2) := by decide +kernel
theorem dX12_laysFrame_45 : decode cX12_laysFrame 45 = .ok (.goto 4, 3) := by decide +kernel
theorem dX12_laysFrame_48 : decode cX12_laysFrame 48 = .ok (.iconst 0, 1) := by decide +kernel
theorem dX12_laysFrame_49 : decode cX12_laysFrame 49 = .ok (.iadd, 1) := by decide +kernel
theorem dX12_laysFrame_50 : decode cX12_laysFrame 50 = .ok (.iload_n 3, 1) := by decide +kernel
theorem dX12_laysFrame_51 : decode cX12_laysFrame 51 = .ok (.iload 4, 2) := by decide +kernel
theorem dX12_laysFrame_53 : decode cX12_laysFrame 53 = .ok (.iadd, 1) := by decide +kernel
theorem dX12_laysFrame_54 : decode cX12_laysFrame 54 = .ok (.iload_n 2, 1) := by decide +kernel
theorem dX12_laysFrame_55 : decode cX12_laysFrame 55 = .ok (.if_icmp .ne 8, 3) := by decide +kernel
theorem dX12_laysFrame_58 : decode cX12_laysFrame 58 = .ok (.bipush 16, 2) := by decide +kernel
theorem dX12_laysFrame_60 : decode cX12_laysFrame 60 = .ok (.goto 4, 3) := by decide +kernel
theorem dX12_laysFrame_63 : decode cX12_laysFrame 63 = .ok (.iconst 0, 1) := by decide +kernel
theorem dX12_laysFrame_64 : decode cX12_laysFrame 64 = .ok (.iadd, 1) := by decide +kernel
theorem dX12_laysFrame_65 : decode cX12_laysFrame 65 = .ok (.aload_n 0, 1) := by decide +kernel
theorem dX12_laysFrame_66 : decode cX12_laysFrame 66 = .ok (.iload_n 1, 1) := by decide +kernel
theorem dX12_laysFrame_67 : decode cX12_laysFrame 67 = .ok (.iconst 3, 1) := by decide +kernel
theorem dX12_laysFrame_68 : decode cX12_laysFrame 68 = .ok (.invokevirtual 286, 3) := by decide +kernel
theorem dX12_laysFrame_71 : decode cX12_laysFrame 71 = .ok (.iadd, 1) := by decide +kernel
theorem dX12_laysFrame_72 : decode cX12_laysFrame 72 = .ok (.invokevirtual 236, 3) := by decide +kernel
theorem dX12_laysFrame_75 : decode cX12_laysFrame 75 = .ok (.iconst 0, 1) := by decide +kernel
theorem dX12_laysFrame_76 : decode cX12_laysFrame 76 = .ok (.istore 5, 2) := by decide +kernel
theorem dX12_laysFrame_78 : decode cX12_laysFrame 78 = .ok (.iload 5, 2) := by decide +kernel
theorem dX12_laysFrame_80 : decode cX12_laysFrame 80 = .ok (.iload 4, 2) := by decide +kernel
theorem dX12_laysFrame_82 : decode cX12_laysFrame 82 = .ok (.if_icmp .ge 29, 3) := by decide +kernel
theorem dX12_laysFrame_85 : decode cX12_laysFrame 85 = .ok (.aload_n 0, 1) := by decide +kernel
theorem dX12_laysFrame_86 : decode cX12_laysFrame 86 = .ok (.aload_n 0, 1) := by decide +kernel
theorem dX12_laysFrame_87 : decode cX12_laysFrame 87 = .ok (.iload_n 1, 1) := by decide +kernel
theorem dX12_laysFrame_88 : decode cX12_laysFrame 88 = .ok (.iconst 0, 1) := by decide +kernel
theorem dX12_laysFrame_89 : decode cX12_laysFrame 89 = .ok (.invokestatic 292, 3) := by decide +kernel
theorem dX12_laysFrame_92 : decode cX12_laysFrame 92 = .ok (.iconst 1, 1) := by decide +kernel
theorem dX12_laysFrame_93 : decode cX12_laysFrame 93 = .ok (.iadd, 1) := by decide +kernel
theorem dX12_laysFrame_94 : decode cX12_laysFrame 94 = .ok (.iload_n 3, 1) := by decide +kernel
theorem dX12_laysFrame_95 : decode cX12_laysFrame 95 = .ok (.iadd, 1) := by decide +kernel
theorem dX12_laysFrame_96 : decode cX12_laysFrame 96 = .ok (.iload 5, 2) := by decide +kernel
theorem dX12_laysFrame_98 : decode cX12_laysFrame 98 = .ok (.iadd, 1) := by decide +kernel
theorem dX12_laysFrame_99 : decode cX12_laysFrame 99 = .ok (.invokevirtual 286, 3) := by decide +kernel
theorem dX12_laysFrame_102 : decode cX12_laysFrame 102 = .ok (.invokevirtual 236, 3) := by decide +kernel
theorem dX12_laysFrame_105 : decode cX12_laysFrame 105 = .ok (.iinc 5 1, 3) := by decide +kernel
theorem dX12_laysFrame_108 : decode cX12_laysFrame 108 = .ok (.goto (-30), 3) := by decide +kernel
theorem dX12_laysFrame_111 : decode cX12_laysFrame 111 = .ok (.aload_n 0, 1) := by decide +kernel
theorem dX12_laysFrame_112 : decode cX12_laysFrame 112 = .ok (.getfield 194, 3) := by decide +kernel
theorem dX12_laysFrame_115 : decode cX12_laysFrame 115 = .ok (.ifCond .eq 15, 3) := by decide +kernel
theorem dX12_laysFrame_118 : decode cX12_laysFrame 118 = .ok (.aload_n 0, 1) := by decide +kernel
theorem dX12_laysFrame_119 : decode cX12_laysFrame 119 = .ok (.aload_n 0, 1) := by decide +kernel
theorem dX12_laysFrame_120 : decode cX12_laysFrame 120 = .ok (.aload_n 0, 1) := by decide +kernel
theorem dX12_laysFrame_121 : decode cX12_laysFrame 121 = .ok (.getfield 217, 3) := by decide +kernel
theorem dX12_laysFrame_124 : decode cX12_laysFrame 124 = .ok (.invokevirtual 271, 3) := by decide +kernel
theorem dX12_laysFrame_127 : decode cX12_laysFrame 127 = .ok (.invokevirtual 236, 3) := by decide +kernel
theorem dX12_laysFrame_130 : decode cX12_laysFrame 130 = .ok (.aload_n 0, 1) := by decide +kernel
theorem dX12_laysFrame_131 : decode cX12_laysFrame 131 = .ok (.aload_n 0, 1) := by decide +kernel
theorem dX12_laysFrame_132 : decode cX12_laysFrame 132 = .ok (.getfield 192, 3) := by decide +kernel
theorem dX12_laysFrame_135 : decode cX12_laysFrame 135 = .ok (.invokevirtual 251, 3) := by decide +kernel
theorem dX12_laysFrame_138 : decode cX12_laysFrame 138 = .ok (.iload 4, 2) := by decide +kernel
theorem dX12_laysFrame_140 : decode cX12_laysFrame 140 = .ok (.ireturn, 1) := by decide +kernel
theorem dX12_shiftsWaiting_0 : decode cX12_shiftsWaiting 0 = .ok (.iconst 1, 1) := by decide +kernel
theorem dX12_shiftsWaiting_1 : decode cX12_shiftsWaiting 1 = .ok (.invokestatic 292, 3) := by decide +kernel
theorem dX12_shiftsWaiting_4 : decode cX12_shiftsWaiting 4 = .ok (.istore_n 2, 1) := by decide +kernel
theorem dX12_shiftsWaiting_5 : decode cX12_shiftsWaiting 5 = .ok (.iload_n 2, 1) := by decide +kernel
theorem dX12_shiftsWaiting_6 : decode cX12_shiftsWaiting 6 = .ok (.bipush 8, 2) := by decide +kernel
theorem dX12_shiftsWaiting_8 : decode cX12_shiftsWaiting 8 = .ok (.invokestatic 292, 3) := by decide +kernel
theorem dX12_shiftsWaiting_11 : decode cX12_shiftsWaiting 11 = .ok (.if_icmp .ge 26, 3) := by decide +kernel
theorem dX12_shiftsWaiting_14 : decode cX12_shiftsWaiting 14 = .ok (.aload_n 0, 1) := by decide +kernel
theorem dX12_shiftsWaiting_15 : decode cX12_shiftsWaiting 15 = .ok (.iload_n 1, 1) := by decide +kernel
theorem dX12_shiftsWaiting_16 : decode cX12_shiftsWaiting 16 = .ok (.iload_n 2, 1) := by decide +kernel
theorem dX12_shiftsWaiting_17 : decode cX12_shiftsWaiting 17 = .ok (.bipush 120, 2) := by decide +kernel
theorem dX12_shiftsWaiting_19 : decode cX12_shiftsWaiting 19 = .ok (.isub, 1) := by decide +kernel
theorem dX12_shiftsWaiting_20 : decode cX12_shiftsWaiting 20 = .ok (.iconst 1, 1) := by decide +kernel
theorem dX12_shiftsWaiting_21 : decode cX12_shiftsWaiting 21 = .ok (.isub, 1) := by decide +kernel
theorem dX12_shiftsWaiting_22 : decode cX12_shiftsWaiting 22 = .ok (.aload_n 0, 1) := by decide +kernel
theorem dX12_shiftsWaiting_23 : decode cX12_shiftsWaiting 23 = .ok (.iload_n 1, 1) := by decide +kernel
theorem dX12_shiftsWaiting_24 : decode cX12_shiftsWaiting 24 = .ok (.iload_n 2, 1) := by decide +kernel
theorem dX12_shiftsWaiting_25 : decode cX12_shiftsWaiting 25 = .ok (.invokevirtual 286, 3) := by decide +kernel
theorem dX12_shiftsWaiting_28 : decode cX12_shiftsWaiting 28 = .ok (.invokevirtual 201, 3) := by decide +kernel
theorem dX12_shiftsWaiting_31 : decode cX12_shiftsWaiting 31 = .ok (.iinc 2 1, 3) := by decide +kernel
theorem dX12_shiftsWaiting_34 : decode cX12_shiftsWaiting 34 = .ok (.goto (-29), 3) := by decide +kernel
theorem dX12_shiftsWaiting_37 : decode cX12_shiftsWaiting 37 = .ok (.aload_n 0, 1) := by decide +kernel
theorem dX12_shiftsWaiting_38 : decode cX12_shiftsWaiting 38 = .ok (.iload_n 1, 1) := by decide +kernel
theorem dX12_shiftsWaiting_39 : decode cX12_shiftsWaiting 39 = .ok (.iconst 1, 1) := by decide +kernel
theorem dX12_shiftsWaiting_40 : decode cX12_shiftsWaiting 40 = .ok (.iconst (-1), 1) := by decide +kernel
theorem dX12_shiftsWaiting_41 : decode cX12_shiftsWaiting 41 = .ok (.invokevirtual 295, 3) := by decide +kernel
theorem dX12_shiftsWaiting_44 : decode cX12_shiftsWaiting 44 = .ok (.aload_n 0, 1) := by decide +kernel
theorem dX12_shiftsWaiting_45 : decode cX12_shiftsWaiting 45 = .ok (.iload_n 1, 1) := by decide +kernel
theorem dX12_shiftsWaiting_46 : decode cX12_shiftsWaiting 46 = .ok (.iconst 2, 1) := by decide +kernel
theorem dX12_shiftsWaiting_47 : decode cX12_shiftsWaiting 47 = .ok (.iconst 0, 1) := by decide +kernel
theorem dX12_shiftsWaiting_48 : decode cX12_shiftsWaiting 48 = .ok (.invokevirtual 201, 3) := by decide +kernel
theorem dX12_shiftsWaiting_51 : decode cX12_shiftsWaiting 51 = .ok (.return_, 1) := by decide +kernel
theorem dX12_putsOne_0 : decode cX12_putsOne 0 = .ok (.aload_n 0, 1) := by decide +kernel
theorem dX12_putsOne_1 : decode cX12_putsOne 1 = .ok (.invokevirtual 298, 3) := by decide +kernel
theorem dX12_putsOne_4 : decode cX12_putsOne 4 = .ok (.istore_n 1, 1) := by decide +kernel
theorem dX12_putsOne_5 : decode cX12_putsOne 5 = .ok (.iload_n 1, 1) := by decide +kernel
theorem dX12_putsOne_6 : decode cX12_putsOne 6 = .ok (.iconst (-1), 1) := by decide +kernel
theorem dX12_putsOne_7 : decode cX12_putsOne 7 = .ok (.if_icmp .ne 5, 3) := by decide +kernel
theorem dX12_putsOne_10 : decode cX12_putsOne 10 = .ok (.iconst 0, 1) := by decide +kernel
theorem dX12_putsOne_11 : decode cX12_putsOne 11 = .ok (.ireturn, 1) := by decide +kernel
theorem dX12_putsOne_12 : decode cX12_putsOne 12 = .ok (.aload_n 0, 1) := by decide +kernel
theorem dX12_putsOne_13 : decode cX12_putsOne 13 = .ok (.iload_n 1, 1) := by decide +kernel
theorem dX12_putsOne_14 : decode cX12_putsOne 14 = .ok (.invokevirtual 301, 3) := by decide +kernel
theorem dX12_putsOne_17 : decode cX12_putsOne 17 = .ok (.istore_n 2, 1) := by decide +kernel
theorem dX12_putsOne_18 : decode cX12_putsOne 18 = .ok (.aload_n 0, 1) := by decide +kernel
theorem dX12_putsOne_19 : decode cX12_putsOne 19 = .ok (.getfield 16, 3) := by decide +kernel
theorem dX12_putsOne_22 : decode cX12_putsOne 22 = .ok (.iconst 0, 1) := by decide +kernel
theorem dX12_putsOne_23 : decode cX12_putsOne 23 = .ok (.iaload, 1) := by decide +kernel
theorem dX12_putsOne_24 : decode cX12_putsOne 24 = .ok (.aload_n 0, 1) := by decide +kernel
theorem dX12_putsOne_25 : decode cX12_putsOne 25 = .ok (.getfield 214, 3) := by decide +kernel
theorem dX12_putsOne_28 : decode cX12_putsOne 28 = .ok (.iadd, 1) := by decide +kernel
theorem dX12_putsOne_29 : decode cX12_putsOne 29 = .ok (.iconst 1, 1) := by decide +kernel
theorem dX12_putsOne_30 : decode cX12_putsOne 30 = .ok (.iadd, 1) := by decide +kernel
theorem dX12_putsOne_31 : decode cX12_putsOne 31 = .ok (.sipush 600, 3) := by decide +kernel
theorem dX12_putsOne_34 : decode cX12_putsOne 34 = .ok (.if_icmp .le 5, 3) := by decide +kernel
theorem dX12_putsOne_37 : decode cX12_putsOne 37 = .ok (.iconst 0, 1) := by decide +kernel
theorem dX12_putsOne_38 : decode cX12_putsOne 38 = .ok (.ireturn, 1) := by decide +kernel
theorem dX12_putsOne_39 : decode cX12_putsOne 39 = .ok (.iconst 0, 1) := by decide +kernel
theorem dX12_putsOne_40 : decode cX12_putsOne 40 = .ok (.istore_n 3, 1) := by decide +kernel
theorem dX12_putsOne_41 : decode cX12_putsOne 41 = .ok (.iload_n 3, 1) := by decide +kernel
theorem dX12_putsOne_42 : decode cX12_putsOne 42 = .ok (.aload_n 0, 1) := by decide +kernel
theorem dX12_putsOne_43 : decode cX12_putsOne 43 = .ok (.getfield 214, 3) := by decide +kernel
theorem dX12_putsOne_46 : decode cX12_putsOne 46 = .ok (.if_icmp .ge 30, 3) := by decide +kernel
theorem dX12_putsOne_49 : decode cX12_putsOne 49 = .ok (.aload_n 0, 1) := by decide +kernel
theorem dX12_putsOne_50 : decode cX12_putsOne 50 = .ok (.getfield 16, 3) := by decide +kernel
theorem dX12_putsOne_53 : decode cX12_putsOne 53 = .ok (.iconst 1, 1) := by decide +kernel
theorem dX12_putsOne_54 : decode cX12_putsOne 54 = .ok (.aload_n 0, 1) := by decide +kernel
theorem dX12_putsOne_55 : decode cX12_putsOne 55 = .ok (.getfield 16, 3) := by decide +kernel
theorem dX12_putsOne_58 : decode cX12_putsOne 58 = .ok (.iconst 0, 1) := by decide +kernel
theorem dX12_putsOne_59 : decode cX12_putsOne 59 = .ok (.iaload, 1) := by decide +kernel
theorem dX12_putsOne_60 : decode cX12_putsOne 60 = .ok (.iadd, 1) := by decide +kernel
theorem dX12_putsOne_61 : decode cX12_putsOne 61 = .ok (.iload_n 3, 1) := by decide +kernel
theorem dX12_putsOne_62 : decode cX12_putsOne 62 = .ok (.iadd, 1) := by decide +kernel
theorem dX12_putsOne_63 : decode cX12_putsOne 63 = .ok (.aload_n 0, 1) := by decide +kernel
theorem dX12_putsOne_64 : decode cX12_putsOne 64 = .ok (.getfield 32, 3) := by decide +kernel
theorem dX12_putsOne_67 : decode cX12_putsOne 67 = .ok (.iload_n 3, 1) := by decide +kernel
theorem dX12_putsOne_68 : decode cX12_putsOne 68 = .ok (.iaload, 1) := by decide +kernel
theorem dX12_putsOne_69 : decode cX12_putsOne 69 = .ok (.iastore, 1) := by decide +kernel
theorem dX12_putsOne_70 : decode cX12_putsOne 70 = .ok (.iinc 3 1, 3) := by decide +kernel
theorem dX12_putsOne_73 : decode cX12_putsOne 73 = .ok (.goto (-32), 3) := by decide +kernel
theorem dX12_putsOne_76 : decode cX12_putsOne 76 = .ok (.aload_n 0, 1) := by decide +kernel
theorem dX12_putsOne_77 : decode cX12_putsOne 77 = .ok (.getfield 16, 3) := by decide +kernel
theorem dX12_putsOne_80 : decode cX12_putsOne 80 = .ok (.iconst 1, 1) := by decide +kernel
theorem dX12_putsOne_81 : decode cX12_putsOne 81 = .ok (.aload_n 0, 1) := by decide +kernel
theorem dX12_putsOne_82 : decode cX12_putsOne 82 = .ok (.getfield 16, 3) := by decide +kernel
theorem dX12_putsOne_85 : decode cX12_putsOne 85 = .ok (.iconst 0, 1) := by decide +kernel
theorem dX12_putsOne_86 : decode cX12_putsOne 86 = .ok (.iaload, 1) := by decide +kernel
theorem dX12_putsOne_87 : decode cX12_putsOne 87 = .ok (.iadd, 1) := by decide +kernel
theorem dX12_putsOne_88 : decode cX12_putsOne 88 = .ok (.aload_n 0, 1) := by decide +kernel
theorem dX12_putsOne_89 : decode cX12_putsOne 89 = .ok (.getfield 214, 3) := by decide +kernel
theorem dX12_putsOne_92 : decode cX12_putsOne 92 = .ok (.iadd, 1) := by decide +kernel
theorem dX12_putsOne_93 : decode cX12_putsOne 93 = .ok (.iconst 0, 1) := by decide +kernel
theorem dX12_putsOne_94 : decode cX12_putsOne 94 = .ok (.iastore, 1) := by decide +kernel
theorem dX12_putsOne_95 : decode cX12_putsOne 95 = .ok (.aload_n 0, 1) := by decide +kernel
theorem dX12_putsOne_96 : decode cX12_putsOne 96 = .ok (.getfield 16, 3) := by decide +kernel
theorem dX12_putsOne_99 : decode cX12_putsOne 99 = .ok (.iconst 0, 1) := by decide +kernel
theorem dX12_putsOne_100 : decode cX12_putsOne 100 = .ok (.dup2, 1) := by decide +kernel
theorem dX12_putsOne_101 : decode cX12_putsOne 101 = .ok (.iaload, 1) := by decide +kernel
theorem dX12_putsOne_102 : decode cX12_putsOne 102 = .ok (.aload_n 0, 1) := by decide +kernel
theorem dX12_putsOne_103 : decode cX12_putsOne 103 = .ok (.getfield 214, 3) := by decide +kernel
theorem dX12_putsOne_106 : decode cX12_putsOne 106 = .ok (.iconst 1, 1) := by decide +kernel
theorem dX12_putsOne_107 : decode cX12_putsOne 107 = .ok (.iadd, 1) := by decide +kernel
theorem dX12_putsOne_108 : decode cX12_putsOne 108 = .ok (.iadd, 1) := by decide +kernel
theorem dX12_putsOne_109 : decode cX12_putsOne 109 = .ok (.iastore, 1) := by decide +kernel
theorem dX12_putsOne_110 : decode cX12_putsOne 110 = .ok (.aload_n 0, 1) := by decide +kernel
theorem dX12_putsOne_111 : decode cX12_putsOne 111 = .ok (.getfield 16, 3) := by decide +kernel
theorem dX12_putsOne_114 : decode cX12_putsOne 114 = .ok (.sipush 803, 3) := by decide +kernel
theorem dX12_putsOne_117 : decode cX12_putsOne 117 = .ok (.iload_n 1, 1) := by decide +kernel
theorem dX12_putsOne_118 : decode cX12_putsOne 118 = .ok (.iastore, 1) := by decide +kernel
theorem dX12_putsOne_119 : decode cX12_putsOne 119 = .ok (.aload_n 0, 1) := by decide +kernel
theorem dX12_putsOne_120 : decode cX12_putsOne 120 = .ok (.iload_n 1, 1) := by decide +kernel
theorem dX12_putsOne_121 : decode cX12_putsOne 121 = .ok (.iconst 0, 1) := by decide +kernel
theorem dX12_putsOne_122 : decode cX12_putsOne 122 = .ok (.iconst (-1), 1) := by decide +kernel
theorem dX12_putsOne_123 : decode cX12_putsOne 123 = .ok (.invokevirtual 295, 3) := by decide +kernel
theorem dX12_putsOne_126 : decode cX12_putsOne 126 = .ok (.aload_n 0, 1) := by decide +kernel
theorem dX12_putsOne_127 : decode cX12_putsOne 127 = .ok (.iload_n 1, 1) := by decide +kernel
theorem dX12_putsOne_128 : decode cX12_putsOne 128 = .ok (.iconst 3, 1) := by decide +kernel
theorem dX12_putsOne_129 : decode cX12_putsOne 129 = .ok (.aload_n 0, 1) := by decide +kernel
theorem dX12_putsOne_130 : decode cX12_putsOne 130 = .ok (.iload_n 1, 1) := by decide +kernel
theorem dX12_putsOne_131 : decode cX12_putsOne 131 = .ok (.iconst 3, 1) := by decide +kernel
theorem dX12_putsOne_132 : decode cX12_putsOne 132 = .ok (.invokevirtual 286, 3) := by decide +kernel
theorem dX12_putsOne_135 : decode cX12_putsOne 135 = .ok (.iconst 1, 1) := by decide +kernel
theorem dX12_putsOne_136 : decode cX12_putsOne 136 = .ok (.iadd, 1) := by decide +kernel
theorem dX12_putsOne_137 : decode cX12_putsOne 137 = .ok (.bipush 16, 2) := by decide +kernel
theorem dX12_putsOne_139 : decode cX12_putsOne 139 = .ok (.irem, 1) := by decide +kernel
theorem dX12_putsOne_140 : decode cX12_putsOne 140 = .ok (.invokevirtual 201, 3) := by decide +kernel
theorem dX12_putsOne_143 : decode cX12_putsOne 143 = .ok (.aload_n 0, 1) := by decide +kernel
theorem dX12_putsOne_144 : decode cX12_putsOne 144 = .ok (.iload_n 1, 1) := by decide +kernel
theorem dX12_putsOne_145 : decode cX12_putsOne 145 = .ok (.iconst 2, 1) := by decide +kernel
theorem dX12_putsOne_146 : decode cX12_putsOne 146 = .ok (.iload_n 2, 1) := by decide +kernel
theorem dX12_putsOne_147 : decode cX12_putsOne 147 = .ok (.invokevirtual 295, 3) := by decide +kernel
theorem dX12_putsOne_150 : decode cX12_putsOne 150 = .ok (.aload_n 0, 1) := by decide +kernel
theorem dX12_putsOne_151 : decode cX12_putsOne 151 = .ok (.iload_n 1, 1) := by decide +kernel
theorem dX12_putsOne_152 : decode cX12_putsOne 152 = .ok (.iconst 2, 1) := by decide +kernel
theorem dX12_putsOne_153 : decode cX12_putsOne 153 = .ok (.invokevirtual 286, 3) := by decide +kernel
theorem dX12_putsOne_156 : decode cX12_putsOne 156 = .ok (.aload_n 0, 1) := by decide +kernel
theorem dX12_putsOne_157 : decode cX12_putsOne 157 = .ok (.iload_n 1, 1) := by decide +kernel
theorem dX12_putsOne_158 : decode cX12_putsOne 158 = .ok (.iconst 0, 1) := by decide +kernel
theorem dX12_putsOne_159 : decode cX12_putsOne 159 = .ok (.invokestatic 292, 3) := by decide +kernel
theorem dX12_putsOne_162 : decode cX12_putsOne 162 = .ok (.invokevirtual 286, 3) := by decide +kernel
theorem dX12_putsOne_165 : decode cX12_putsOne 165 = .ok (.if_icmp .ne 8, 3) := by decide +kernel
theorem dX12_putsOne_168 : decode cX12_putsOne 168 = .ok (.aload_n 0, 1) := by decide +kernel
theorem dX12_putsOne_169 : decode cX12_putsOne 169 = .ok (.iload_n 1, 1) := by decide +kernel
theorem dX12_putsOne_170 : decode cX12_putsOne 170 = .ok (.invokevirtual 304, 3) := by decide +kernel
theorem dX12_putsOne_173 : decode cX12_putsOne 173 = .ok (.iconst 1, 1) := by decide +kernel
theorem dX12_putsOne_174 : decode cX12_putsOne 174 = .ok (.ireturn, 1) := by decide +kernel
theorem dX12_canPut_0 : decode cX12_canPut 0 = .ok (.aload_n 0, 1) := by decide +kernel
theorem dX12_canPut_1 : decode cX12_canPut 1 = .ok (.invokevirtual 298, 3) := by decide +kernel
theorem dX12_canPut_4 : decode cX12_canPut 4 = .ok (.istore_n 1, 1) := by decide +kernel
theorem dX12_canPut_5 : decode cX12_canPut 5 = .ok (.iload_n 1, 1) := by decide +kernel
theorem dX12_canPut_6 : decode cX12_canPut 6 = .ok (.iconst (-1), 1) := by decide +kernel
theorem dX12_canPut_7 : decode cX12_canPut 7 = .ok (.if_icmp .ne 5, 3) := by decide +kernel
theorem dX12_canPut_10 : decode cX12_canPut 10 = .ok (.iconst 0, 1) := by decide +kernel
theorem dX12_canPut_11 : decode cX12_canPut 11 = .ok (.ireturn, 1) := by decide +kernel
theorem dX12_canPut_12 : decode cX12_canPut 12 = .ok (.aload_n 0, 1) := by decide +kernel
theorem dX12_canPut_13 : decode cX12_canPut 13 = .ok (.iload_n 1, 1) := by decide +kernel
theorem dX12_canPut_14 : decode cX12_canPut 14 = .ok (.invokevirtual 301, 3) := by decide +kernel
theorem dX12_canPut_17 : decode cX12_canPut 17 = .ok (.pop, 1) := by decide +kernel
theorem dX12_canPut_18 : decode cX12_canPut 18 = .ok (.aload_n 0, 1) := by decide +kernel
theorem dX12_canPut_19 : decode cX12_canPut 19 = .ok (.getfield 16, 3) := by decide +kernel
theorem dX12_canPut_22 : decode cX12_canPut 22 = .ok (.iconst 0, 1) := by decide +kernel
theorem dX12_canPut_23 : decode cX12_canPut 23 = .ok (.iaload, 1) := by decide +kernel
theorem dX12_canPut_24 : decode cX12_canPut 24 = .ok (.aload_n 0, 1) := by decide +kernel
theorem dX12_canPut_25 : decode cX12_canPut 25 = .ok (.getfield 214, 3) := by decide +kernel
theorem dX12_canPut_28 : decode cX12_canPut 28 = .ok (.iadd, 1) := by decide +kernel
theorem dX12_canPut_29 : decode cX12_canPut 29 = .ok (.iconst 1, 1) := by decide +kernel
theorem dX12_canPut_30 : decode cX12_canPut 30 = .ok (.iadd, 1) := by decide +kernel
theorem dX12_canPut_31 : decode cX12_canPut 31 = .ok (.sipush 600, 3) := by decide +kernel
theorem dX12_canPut_34 : decode cX12_canPut 34 = .ok (.if_icmp .gt 7, 3) := by decide +kernel
theorem dX12_canPut_37 : decode cX12_canPut 37 = .ok (.iconst 1, 1) := by decide +kernel
theorem dX12_canPut_38 : decode cX12_canPut 38 = .ok (.goto 4, 3) := by decide +kernel
theorem dX12_canPut_41 : decode cX12_canPut 41 = .ok (.iconst 0, 1) := by decide +kernel
theorem dX12_canPut_42 : decode cX12_canPut 42 = .ok (.ireturn, 1) := by decide +kernel
theorem dX12_put_0 : decode cX12_put 0 = .ok (.aload_n 0, 1) := by decide +kernel
theorem dX12_put_1 : decode cX12_put 1 = .ok (.iconst 0, 1) := by decide +kernel
theorem dX12_put_2 : decode cX12_put 2 = .ok (.putfield 60, 3) := by decide +kernel
theorem dX12_put_5 : decode cX12_put 5 = .ok (.aload_n 0, 1) := by decide +kernel
theorem dX12_put_6 : decode cX12_put 6 = .ok (.getfield 188, 3) := by decide +kernel
theorem dX12_put_9 : decode cX12_put 9 = .ok (.ifCond .ne 9, 3) := by decide +kernel
theorem dX12_put_12 : decode cX12_put 12 = .ok (.aload_n 0, 1) := by decide +kernel
theorem dX12_put_13 : decode cX12_put 13 = .ok (.iconst 0, 1) := by decide +kernel
theorem dX12_put_14 : decode cX12_put 14 = .ok (.invokevirtual 280, 3) := by decide +kernel
theorem dX12_put_17 : decode cX12_put 17 = .ok (.ireturn, 1) := by decide +kernel
theorem dX12_put_18 : decode cX12_put 18 = .ok (.iload_n 1, 1) := by decide +kernel
theorem dX12_put_19 : decode cX12_put 19 = .ok (.i2l, 1) := by decide +kernel
theorem dX12_put_20 : decode cX12_put 20 = .ok (.lconst 1, 1) := by decide +kernel
theorem dX12_put_21 : decode cX12_put 21 = .ok (.ldc2_w 307, 3) := by decide +kernel
theorem dX12_put_24 : decode cX12_put 24 = .ok (.invokestatic 70, 3) := by decide +kernel
theorem dX12_put_27 : decode cX12_put 27 = .ok (.ifCond .ne 9, 3) := by decide +kernel
