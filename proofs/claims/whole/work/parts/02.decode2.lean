theorem dX12_put_30 : decode cX12_put 30 = .ok (.aload_n 0, 1) := by decide +kernel
theorem dX12_put_31 : decode cX12_put 31 = .ok (.iconst 2, 1) := by decide +kernel
theorem dX12_put_32 : decode cX12_put 32 = .ok (.invokevirtual 280, 3) := by decide +kernel
theorem dX12_put_35 : decode cX12_put 35 = .ok (.ireturn, 1) := by decide +kernel
theorem dX12_put_36 : decode cX12_put 36 = .ok (.aload_n 0, 1) := by decide +kernel
theorem dX12_put_37 : decode cX12_put 37 = .ok (.invokevirtual 309, 3) := by decide +kernel
theorem dX12_put_40 : decode cX12_put 40 = .ok (.ifCond .ne 5, 3) := by decide +kernel
theorem dX12_put_43 : decode cX12_put 43 = .ok (.iconst 0, 1) := by decide +kernel
theorem dX12_put_44 : decode cX12_put 44 = .ok (.ireturn, 1) := by decide +kernel
theorem dX12_put_45 : decode cX12_put 45 = .ok (.aload_n 0, 1) := by decide +kernel
theorem dX12_put_46 : decode cX12_put 46 = .ok (.invokevirtual 289, 3) := by decide +kernel
theorem dX12_put_49 : decode cX12_put 49 = .ok (.iconst 0, 1) := by decide +kernel
theorem dX12_put_50 : decode cX12_put 50 = .ok (.istore_n 2, 1) := by decide +kernel
theorem dX12_put_51 : decode cX12_put 51 = .ok (.iload_n 2, 1) := by decide +kernel
theorem dX12_put_52 : decode cX12_put 52 = .ok (.iload_n 1, 1) := by decide +kernel
theorem dX12_put_53 : decode cX12_put 53 = .ok (.if_icmp .ge 16, 3) := by decide +kernel
theorem dX12_put_56 : decode cX12_put 56 = .ok (.aload_n 0, 1) := by decide +kernel
theorem dX12_put_57 : decode cX12_put 57 = .ok (.invokevirtual 312, 3) := by decide +kernel
theorem dX12_put_60 : decode cX12_put 60 = .ok (.ifCond .eq 9, 3) := by decide +kernel
theorem dX12_put_63 : decode cX12_put 63 = .ok (.iinc 2 1, 3) := by decide +kernel
theorem dX12_put_66 : decode cX12_put 66 = .ok (.goto (-15), 3) := by decide +kernel
theorem dX12_put_69 : decode cX12_put 69 = .ok (.iload_n 2, 1) := by decide +kernel
theorem dX12_put_70 : decode cX12_put 70 = .ok (.ireturn, 1) := by decide +kernel
theorem dX12_isByte_0 : decode cX12_isByte 0 = .ok (.aload_n 0, 1) := by decide +kernel
theorem dX12_isByte_1 : decode cX12_isByte 1 = .ok (.getfield 188, 3) := by decide +kernel
theorem dX12_isByte_4 : decode cX12_isByte 4 = .ok (.ifCond .eq 25, 3) := by decide +kernel
theorem dX12_isByte_7 : decode cX12_isByte 7 = .ok (.iload_n 1, 1) := by decide +kernel
theorem dX12_isByte_8 : decode cX12_isByte 8 = .ok (.i2l, 1) := by decide +kernel
theorem dX12_isByte_9 : decode cX12_isByte 9 = .ok (.lconst 0, 1) := by decide +kernel
theorem dX12_isByte_10 : decode cX12_isByte 10 = .ok (.aload_n 0, 1) := by decide +kernel
theorem dX12_isByte_11 : decode cX12_isByte 11 = .ok (.getfield 16, 3) := by decide +kernel
theorem dX12_isByte_14 : decode cX12_isByte 14 = .ok (.iconst 0, 1) := by decide +kernel
theorem dX12_isByte_15 : decode cX12_isByte 15 = .ok (.iaload, 1) := by decide +kernel
theorem dX12_isByte_16 : decode cX12_isByte 16 = .ok (.iconst 1, 1) := by decide +kernel
theorem dX12_isByte_17 : decode cX12_isByte 17 = .ok (.isub, 1) := by decide +kernel
theorem dX12_isByte_18 : decode cX12_isByte 18 = .ok (.i2l, 1) := by decide +kernel
theorem dX12_isByte_19 : decode cX12_isByte 19 = .ok (.invokestatic 70, 3) := by decide +kernel
theorem dX12_isByte_22 : decode cX12_isByte 22 = .ok (.ifCond .eq 7, 3) := by decide +kernel
theorem dX12_isByte_25 : decode cX12_isByte 25 = .ok (.iconst 1, 1) := by decide +kernel
theorem dX12_isByte_26 : decode cX12_isByte 26 = .ok (.goto 4, 3) := by decide +kernel
theorem dX12_isByte_29 : decode cX12_isByte 29 = .ok (.iconst 0, 1) := by decide +kernel
theorem dX12_isByte_30 : decode cX12_isByte 30 = .ok (.ireturn, 1) := by decide +kernel
theorem dX12_byteAt_0 : decode cX12_byteAt 0 = .ok (.aload_n 0, 1) := by decide +kernel
theorem dX12_byteAt_1 : decode cX12_byteAt 1 = .ok (.iconst 0, 1) := by decide +kernel
theorem dX12_byteAt_2 : decode cX12_byteAt 2 = .ok (.putfield 60, 3) := by decide +kernel
theorem dX12_byteAt_5 : decode cX12_byteAt 5 = .ok (.aload_n 0, 1) := by decide +kernel
theorem dX12_byteAt_6 : decode cX12_byteAt 6 = .ok (.iload_n 1, 1) := by decide +kernel
theorem dX12_byteAt_7 : decode cX12_byteAt 7 = .ok (.invokevirtual 315, 3) := by decide +kernel
theorem dX12_byteAt_10 : decode cX12_byteAt 10 = .ok (.ifCond .eq 14, 3) := by decide +kernel
theorem dX12_byteAt_13 : decode cX12_byteAt 13 = .ok (.aload_n 0, 1) := by decide +kernel
theorem dX12_byteAt_14 : decode cX12_byteAt 14 = .ok (.getfield 16, 3) := by decide +kernel
theorem dX12_byteAt_17 : decode cX12_byteAt 17 = .ok (.iconst 1, 1) := by decide +kernel
theorem dX12_byteAt_18 : decode cX12_byteAt 18 = .ok (.iload_n 1, 1) := by decide +kernel
theorem dX12_byteAt_19 : decode cX12_byteAt 19 = .ok (.iadd, 1) := by decide +kernel
theorem dX12_byteAt_20 : decode cX12_byteAt 20 = .ok (.iaload, 1) := by decide +kernel
theorem dX12_byteAt_21 : decode cX12_byteAt 21 = .ok (.goto 4, 3) := by decide +kernel
theorem dX12_byteAt_24 : decode cX12_byteAt 24 = .ok (.iconst (-1), 1) := by decide +kernel
theorem dX12_byteAt_25 : decode cX12_byteAt 25 = .ok (.ireturn, 1) := by decide +kernel
theorem dX12_loses_0 : decode cX12_loses 0 = .ok (.iload_n 1, 1) := by decide +kernel
theorem dX12_loses_1 : decode cX12_loses 1 = .ok (.iconst 1, 1) := by decide +kernel
theorem dX12_loses_2 : decode cX12_loses 2 = .ok (.iadd, 1) := by decide +kernel
theorem dX12_loses_3 : decode cX12_loses 3 = .ok (.istore_n 2, 1) := by decide +kernel
theorem dX12_loses_4 : decode cX12_loses 4 = .ok (.iload_n 2, 1) := by decide +kernel
theorem dX12_loses_5 : decode cX12_loses 5 = .ok (.aload_n 0, 1) := by decide +kernel
theorem dX12_loses_6 : decode cX12_loses 6 = .ok (.getfield 16, 3) := by decide +kernel
theorem dX12_loses_9 : decode cX12_loses 9 = .ok (.iconst 0, 1) := by decide +kernel
theorem dX12_loses_10 : decode cX12_loses 10 = .ok (.iaload, 1) := by decide +kernel
theorem dX12_loses_11 : decode cX12_loses 11 = .ok (.if_icmp .ge 27, 3) := by decide +kernel
theorem dX12_loses_14 : decode cX12_loses 14 = .ok (.aload_n 0, 1) := by decide +kernel
theorem dX12_loses_15 : decode cX12_loses 15 = .ok (.getfield 16, 3) := by decide +kernel
theorem dX12_loses_18 : decode cX12_loses 18 = .ok (.iconst 1, 1) := by decide +kernel
theorem dX12_loses_19 : decode cX12_loses 19 = .ok (.iload_n 2, 1) := by decide +kernel
theorem dX12_loses_20 : decode cX12_loses 20 = .ok (.iadd, 1) := by decide +kernel
theorem dX12_loses_21 : decode cX12_loses 21 = .ok (.iconst 1, 1) := by decide +kernel
theorem dX12_loses_22 : decode cX12_loses 22 = .ok (.isub, 1) := by decide +kernel
theorem dX12_loses_23 : decode cX12_loses 23 = .ok (.aload_n 0, 1) := by decide +kernel
theorem dX12_loses_24 : decode cX12_loses 24 = .ok (.getfield 16, 3) := by decide +kernel
theorem dX12_loses_27 : decode cX12_loses 27 = .ok (.iconst 1, 1) := by decide +kernel
theorem dX12_loses_28 : decode cX12_loses 28 = .ok (.iload_n 2, 1) := by decide +kernel
theorem dX12_loses_29 : decode cX12_loses 29 = .ok (.iadd, 1) := by decide +kernel
theorem dX12_loses_30 : decode cX12_loses 30 = .ok (.iaload, 1) := by decide +kernel
theorem dX12_loses_31 : decode cX12_loses 31 = .ok (.iastore, 1) := by decide +kernel
theorem dX12_loses_32 : decode cX12_loses 32 = .ok (.iinc 2 1, 3) := by decide +kernel
theorem dX12_loses_35 : decode cX12_loses 35 = .ok (.goto (-31), 3) := by decide +kernel
theorem dX12_loses_38 : decode cX12_loses 38 = .ok (.aload_n 0, 1) := by decide +kernel
theorem dX12_loses_39 : decode cX12_loses 39 = .ok (.getfield 16, 3) := by decide +kernel
theorem dX12_loses_42 : decode cX12_loses 42 = .ok (.iconst 0, 1) := by decide +kernel
theorem dX12_loses_43 : decode cX12_loses 43 = .ok (.dup2, 1) := by decide +kernel
theorem dX12_loses_44 : decode cX12_loses 44 = .ok (.iaload, 1) := by decide +kernel
theorem dX12_loses_45 : decode cX12_loses 45 = .ok (.iconst 1, 1) := by decide +kernel
theorem dX12_loses_46 : decode cX12_loses 46 = .ok (.isub, 1) := by decide +kernel
theorem dX12_loses_47 : decode cX12_loses 47 = .ok (.iastore, 1) := by decide +kernel
theorem dX12_loses_48 : decode cX12_loses 48 = .ok (.return_, 1) := by decide +kernel
theorem dX12_inserts_0 : decode cX12_inserts 0 = .ok (.aload_n 0, 1) := by decide +kernel
theorem dX12_inserts_1 : decode cX12_inserts 1 = .ok (.getfield 16, 3) := by decide +kernel
theorem dX12_inserts_4 : decode cX12_inserts 4 = .ok (.iconst 0, 1) := by decide +kernel
theorem dX12_inserts_5 : decode cX12_inserts 5 = .ok (.iaload, 1) := by decide +kernel
theorem dX12_inserts_6 : decode cX12_inserts 6 = .ok (.istore_n 3, 1) := by decide +kernel
theorem dX12_inserts_7 : decode cX12_inserts 7 = .ok (.iload_n 3, 1) := by decide +kernel
theorem dX12_inserts_8 : decode cX12_inserts 8 = .ok (.iload_n 1, 1) := by decide +kernel
theorem dX12_inserts_9 : decode cX12_inserts 9 = .ok (.if_icmp .le 27, 3) := by decide +kernel
theorem dX12_inserts_12 : decode cX12_inserts 12 = .ok (.aload_n 0, 1) := by decide +kernel
theorem dX12_inserts_13 : decode cX12_inserts 13 = .ok (.getfield 16, 3) := by decide +kernel
theorem dX12_inserts_16 : decode cX12_inserts 16 = .ok (.iconst 1, 1) := by decide +kernel
theorem dX12_inserts_17 : decode cX12_inserts 17 = .ok (.iload_n 3, 1) := by decide +kernel
theorem dX12_inserts_18 : decode cX12_inserts 18 = .ok (.iadd, 1) := by decide +kernel
theorem dX12_inserts_19 : decode cX12_inserts 19 = .ok (.aload_n 0, 1) := by decide +kernel
theorem dX12_inserts_20 : decode cX12_inserts 20 = .ok (.getfield 16, 3) := by decide +kernel
theorem dX12_inserts_23 : decode cX12_inserts 23 = .ok (.iconst 1, 1) := by decide +kernel
theorem dX12_inserts_24 : decode cX12_inserts 24 = .ok (.iload_n 3, 1) := by decide +kernel
theorem dX12_inserts_25 : decode cX12_inserts 25 = .ok (.iadd, 1) := by decide +kernel
theorem dX12_inserts_26 : decode cX12_inserts 26 = .ok (.iconst 1, 1) := by decide +kernel
theorem dX12_inserts_27 : decode cX12_inserts 27 = .ok (.isub, 1) := by decide +kernel
theorem dX12_inserts_28 : decode cX12_inserts 28 = .ok (.iaload, 1) := by decide +kernel
theorem dX12_inserts_29 : decode cX12_inserts 29 = .ok (.iastore, 1) := by decide +kernel
theorem dX12_inserts_30 : decode cX12_inserts 30 = .ok (.iinc 3 (-1), 3) := by decide +kernel
theorem dX12_inserts_33 : decode cX12_inserts 33 = .ok (.goto (-26), 3) := by decide +kernel
theorem dX12_inserts_36 : decode cX12_inserts 36 = .ok (.aload_n 0, 1) := by decide +kernel
theorem dX12_inserts_37 : decode cX12_inserts 37 = .ok (.getfield 16, 3) := by decide +kernel
theorem dX12_inserts_40 : decode cX12_inserts 40 = .ok (.iconst 1, 1) := by decide +kernel
theorem dX12_inserts_41 : decode cX12_inserts 41 = .ok (.iload_n 1, 1) := by decide +kernel
theorem dX12_inserts_42 : decode cX12_inserts 42 = .ok (.iadd, 1) := by decide +kernel
theorem dX12_inserts_43 : decode cX12_inserts 43 = .ok (.iload_n 2, 1) := by decide +kernel
theorem dX12_inserts_44 : decode cX12_inserts 44 = .ok (.iastore, 1) := by decide +kernel
theorem dX12_inserts_45 : decode cX12_inserts 45 = .ok (.aload_n 0, 1) := by decide +kernel
theorem dX12_inserts_46 : decode cX12_inserts 46 = .ok (.getfield 16, 3) := by decide +kernel
theorem dX12_inserts_49 : decode cX12_inserts 49 = .ok (.iconst 0, 1) := by decide +kernel
theorem dX12_inserts_50 : decode cX12_inserts 50 = .ok (.dup2, 1) := by decide +kernel
theorem dX12_inserts_51 : decode cX12_inserts 51 = .ok (.iaload, 1) := by decide +kernel
theorem dX12_inserts_52 : decode cX12_inserts 52 = .ok (.iconst 1, 1) := by decide +kernel
theorem dX12_inserts_53 : decode cX12_inserts 53 = .ok (.iadd, 1) := by decide +kernel
theorem dX12_inserts_54 : decode cX12_inserts 54 = .ok (.iastore, 1) := by decide +kernel
theorem dX12_inserts_55 : decode cX12_inserts 55 = .ok (.return_, 1) := by decide +kernel
theorem dX12_flip_0 : decode cX12_flip 0 = .ok (.aload_n 0, 1) := by decide +kernel
theorem dX12_flip_1 : decode cX12_flip 1 = .ok (.iconst 0, 1) := by decide +kernel
theorem dX12_flip_2 : decode cX12_flip 2 = .ok (.putfield 60, 3) := by decide +kernel
theorem dX12_flip_5 : decode cX12_flip 5 = .ok (.aload_n 0, 1) := by decide +kernel
theorem dX12_flip_6 : decode cX12_flip 6 = .ok (.getfield 188, 3) := by decide +kernel
theorem dX12_flip_9 : decode cX12_flip 9 = .ok (.ifCond .ne 9, 3) := by decide +kernel
theorem dX12_flip_12 : decode cX12_flip 12 = .ok (.aload_n 0, 1) := by decide +kernel
theorem dX12_flip_13 : decode cX12_flip 13 = .ok (.iconst 0, 1) := by decide +kernel
theorem dX12_flip_14 : decode cX12_flip 14 = .ok (.invokevirtual 280, 3) := by decide +kernel
theorem dX12_flip_17 : decode cX12_flip 17 = .ok (.ireturn, 1) := by decide +kernel
theorem dX12_flip_18 : decode cX12_flip 18 = .ok (.aload_n 0, 1) := by decide +kernel
theorem dX12_flip_19 : decode cX12_flip 19 = .ok (.iload_n 1, 1) := by decide +kernel
theorem dX12_flip_20 : decode cX12_flip 20 = .ok (.invokevirtual 315, 3) := by decide +kernel
theorem dX12_flip_23 : decode cX12_flip 23 = .ok (.ifCond .ne 9, 3) := by decide +kernel
theorem dX12_flip_26 : decode cX12_flip 26 = .ok (.aload_n 0, 1) := by decide +kernel
theorem dX12_flip_27 : decode cX12_flip 27 = .ok (.iconst 1, 1) := by decide +kernel
theorem dX12_flip_28 : decode cX12_flip 28 = .ok (.invokevirtual 280, 3) := by decide +kernel
theorem dX12_flip_31 : decode cX12_flip 31 = .ok (.ireturn, 1) := by decide +kernel
theorem dX12_flip_32 : decode cX12_flip 32 = .ok (.iload_n 2, 1) := by decide +kernel
theorem dX12_flip_33 : decode cX12_flip 33 = .ok (.i2l, 1) := by decide +kernel
theorem dX12_flip_34 : decode cX12_flip 34 = .ok (.lconst 1, 1) := by decide +kernel
theorem dX12_flip_35 : decode cX12_flip 35 = .ok (.ldc2_w 318, 3) := by decide +kernel
theorem dX12_flip_38 : decode cX12_flip 38 = .ok (.invokestatic 70, 3) := by decide +kernel
theorem dX12_flip_41 : decode cX12_flip 41 = .ok (.ifCond .ne 9, 3) := by decide +kernel
theorem dX12_flip_44 : decode cX12_flip 44 = .ok (.aload_n 0, 1) := by decide +kernel
theorem dX12_flip_45 : decode cX12_flip 45 = .ok (.iconst 2, 1) := by decide +kernel
theorem dX12_flip_46 : decode cX12_flip 46 = .ok (.invokevirtual 280, 3) := by decide +kernel
theorem dX12_flip_49 : decode cX12_flip 49 = .ok (.ireturn, 1) := by decide +kernel
theorem dX12_flip_50 : decode cX12_flip 50 = .ok (.aload_n 0, 1) := by decide +kernel
theorem dX12_flip_51 : decode cX12_flip 51 = .ok (.invokevirtual 289, 3) := by decide +kernel
theorem dX12_flip_54 : decode cX12_flip 54 = .ok (.aload_n 0, 1) := by decide +kernel
theorem dX12_flip_55 : decode cX12_flip 55 = .ok (.getfield 16, 3) := by decide +kernel
theorem dX12_flip_58 : decode cX12_flip 58 = .ok (.iconst 1, 1) := by decide +kernel
theorem dX12_flip_59 : decode cX12_flip 59 = .ok (.iload_n 1, 1) := by decide +kernel
theorem dX12_flip_60 : decode cX12_flip 60 = .ok (.iadd, 1) := by decide +kernel
theorem dX12_flip_61 : decode cX12_flip 61 = .ok (.dup2, 1) := by decide +kernel
theorem dX12_flip_62 : decode cX12_flip 62 = .ok (.iaload, 1) := by decide +kernel
theorem dX12_flip_63 : decode cX12_flip 63 = .ok (.iload_n 2, 1) := by decide +kernel
theorem dX12_flip_64 : decode cX12_flip 64 = .ok (.ixor, 1) := by decide +kernel
theorem dX12_flip_65 : decode cX12_flip 65 = .ok (.iastore, 1) := by decide +kernel
theorem dX12_flip_66 : decode cX12_flip 66 = .ok (.aload_n 0, 1) := by decide +kernel
theorem dX12_flip_67 : decode cX12_flip 67 = .ok (.getfield 16, 3) := by decide +kernel
theorem dX12_flip_70 : decode cX12_flip 70 = .ok (.iconst 1, 1) := by decide +kernel
theorem dX12_flip_71 : decode cX12_flip 71 = .ok (.iload_n 1, 1) := by decide +kernel
theorem dX12_flip_72 : decode cX12_flip 72 = .ok (.iadd, 1) := by decide +kernel
theorem dX12_flip_73 : decode cX12_flip 73 = .ok (.iaload, 1) := by decide +kernel
theorem dX12_flip_74 : decode cX12_flip 74 = .ok (.ireturn, 1) := by decide +kernel
theorem dX12_lose_0 : decode cX12_lose 0 = .ok (.aload_n 0, 1) := by decide +kernel
theorem dX12_lose_1 : decode cX12_lose 1 = .ok (.iconst 0, 1) := by decide +kernel
theorem dX12_lose_2 : decode cX12_lose 2 = .ok (.putfield 60, 3) := by decide +kernel
theorem dX12_lose_5 : decode cX12_lose 5 = .ok (.aload_n 0, 1) := by decide +kernel
theorem dX12_lose_6 : decode cX12_lose 6 = .ok (.getfield 188, 3) := by decide +kernel
theorem dX12_lose_9 : decode cX12_lose 9 = .ok (.ifCond .ne 9, 3) := by decide +kernel
theorem dX12_lose_12 : decode cX12_lose 12 = .ok (.aload_n 0, 1) := by decide +kernel
theorem dX12_lose_13 : decode cX12_lose 13 = .ok (.iconst 0, 1) := by decide +kernel
theorem dX12_lose_14 : decode cX12_lose 14 = .ok (.invokevirtual 280, 3) := by decide +kernel
theorem dX12_lose_17 : decode cX12_lose 17 = .ok (.ireturn, 1) := by decide +kernel
theorem dX12_lose_18 : decode cX12_lose 18 = .ok (.aload_n 0, 1) := by decide +kernel
theorem dX12_lose_19 : decode cX12_lose 19 = .ok (.iload_n 1, 1) := by decide +kernel
theorem dX12_lose_20 : decode cX12_lose 20 = .ok (.invokevirtual 315, 3) := by decide +kernel
theorem dX12_lose_23 : decode cX12_lose 23 = .ok (.ifCond .ne 9, 3) := by decide +kernel
theorem dX12_lose_26 : decode cX12_lose 26 = .ok (.aload_n 0, 1) := by decide +kernel
theorem dX12_lose_27 : decode cX12_lose 27 = .ok (.iconst 1, 1) := by decide +kernel
theorem dX12_lose_28 : decode cX12_lose 28 = .ok (.invokevirtual 280, 3) := by decide +kernel
theorem dX12_lose_31 : decode cX12_lose 31 = .ok (.ireturn, 1) := by decide +kernel
theorem dX12_lose_32 : decode cX12_lose 32 = .ok (.aload_n 0, 1) := by decide +kernel
theorem dX12_lose_33 : decode cX12_lose 33 = .ok (.invokevirtual 289, 3) := by decide +kernel
theorem dX12_lose_36 : decode cX12_lose 36 = .ok (.aload_n 0, 1) := by decide +kernel
theorem dX12_lose_37 : decode cX12_lose 37 = .ok (.getfield 16, 3) := by decide +kernel
theorem dX12_lose_40 : decode cX12_lose 40 = .ok (.iconst 1, 1) := by decide +kernel
theorem dX12_lose_41 : decode cX12_lose 41 = .ok (.iload_n 1, 1) := by decide +kernel
theorem dX12_lose_42 : decode cX12_lose 42 = .ok (.iadd, 1) := by decide +kernel
theorem dX12_lose_43 : decode cX12_lose 43 = .ok (.iaload, 1) := by decide +kernel
theorem dX12_lose_44 : decode cX12_lose 44 = .ok (.istore_n 2, 1) := by decide +kernel
theorem dX12_lose_45 : decode cX12_lose 45 = .ok (.aload_n 0, 1) := by decide +kernel
theorem dX12_lose_46 : decode cX12_lose 46 = .ok (.iload_n 1, 1) := by decide +kernel
theorem dX12_lose_47 : decode cX12_lose 47 = .ok (.invokevirtual 320, 3) := by decide +kernel
theorem dX12_lose_50 : decode cX12_lose 50 = .ok (.iload_n 2, 1) := by decide +kernel
theorem dX12_lose_51 : decode cX12_lose 51 = .ok (.ireturn, 1) := by decide +kernel
theorem dX12_insert_0 : decode cX12_insert 0 = .ok (.aload_n 0, 1) := by decide +kernel
theorem dX12_insert_1 : decode cX12_insert 1 = .ok (.iconst 0, 1) := by decide +kernel
theorem dX12_insert_2 : decode cX12_insert 2 = .ok (.putfield 60, 3) := by decide +kernel
theorem dX12_insert_5 : decode cX12_insert 5 = .ok (.aload_n 0, 1) := by decide +kernel
theorem dX12_insert_6 : decode cX12_insert 6 = .ok (.getfield 188, 3) := by decide +kernel
theorem dX12_insert_9 : decode cX12_insert 9 = .ok (.ifCond .ne 9, 3) := by decide +kernel
theorem dX12_insert_12 : decode cX12_insert 12 = .ok (.aload_n 0, 1) := by decide +kernel
theorem dX12_insert_13 : decode cX12_insert 13 = .ok (.iconst 0, 1) := by decide +kernel
theorem dX12_insert_14 : decode cX12_insert 14 = .ok (.invokevirtual 280, 3) := by decide +kernel
theorem dX12_insert_17 : decode cX12_insert 17 = .ok (.ireturn, 1) := by decide +kernel
theorem dX12_insert_18 : decode cX12_insert 18 = .ok (.iload_n 1, 1) := by decide +kernel
theorem dX12_insert_19 : decode cX12_insert 19 = .ok (.i2l, 1) := by decide +kernel
theorem dX12_insert_20 : decode cX12_insert 20 = .ok (.lconst 0, 1) := by decide +kernel
theorem dX12_insert_21 : decode cX12_insert 21 = .ok (.aload_n 0, 1) := by decide +kernel
theorem dX12_insert_22 : decode cX12_insert 22 = .ok (.getfield 16, 3) := by decide +kernel
theorem dX12_insert_25 : decode cX12_insert 25 = .ok (.iconst 0, 1) := by decide +kernel
theorem dX12_insert_26 : decode cX12_insert 26 = .ok (.iaload, 1) := by decide +kernel
theorem dX12_insert_27 : decode cX12_insert 27 = .ok (.i2l, 1) := by decide +kernel
theorem dX12_insert_28 : decode cX12_insert 28 = .ok (.invokestatic 70, 3) := by decide +kernel
theorem dX12_insert_31 : decode cX12_insert 31 = .ok (.ifCond .ne 9, 3) := by decide +kernel
theorem dX12_insert_34 : decode cX12_insert 34 = .ok (.aload_n 0, 1) := by decide +kernel
theorem dX12_insert_35 : decode cX12_insert 35 = .ok (.iconst 1, 1) := by decide +kernel
theorem dX12_insert_36 : decode cX12_insert 36 = .ok (.invokevirtual 280, 3) := by decide +kernel
theorem dX12_insert_39 : decode cX12_insert 39 = .ok (.ireturn, 1) := by decide +kernel
theorem dX12_insert_40 : decode cX12_insert 40 = .ok (.iload_n 2, 1) := by decide +kernel
theorem dX12_insert_41 : decode cX12_insert 41 = .ok (.i2l, 1) := by decide +kernel
theorem dX12_insert_42 : decode cX12_insert 42 = .ok (.lconst 0, 1) := by decide +kernel
theorem dX12_insert_43 : decode cX12_insert 43 = .ok (.ldc2_w 318, 3) := by decide +kernel
theorem dX12_insert_46 : decode cX12_insert 46 = .ok (.invokestatic 70, 3) := by decide +kernel
theorem dX12_insert_49 : decode cX12_insert 49 = .ok (.ifCond .ne 9, 3) := by decide +kernel
theorem dX12_insert_52 : decode cX12_insert 52 = .ok (.aload_n 0, 1) := by decide +kernel
theorem dX12_insert_53 : decode cX12_insert 53 = .ok (.iconst 2, 1) := by decide +kernel
theorem dX12_insert_54 : decode cX12_insert 54 = .ok (.invokevirtual 280, 3) := by decide +kernel
theorem dX12_insert_57 : decode cX12_insert 57 = .ok (.ireturn, 1) := by decide +kernel
theorem dX12_insert_58 : decode cX12_insert 58 = .ok (.aload_n 0, 1) := by decide +kernel
theorem dX12_insert_59 : decode cX12_insert 59 = .ok (.getfield 16, 3) := by decide +kernel
theorem dX12_insert_62 : decode cX12_insert 62 = .ok (.iconst 0, 1) := by decide +kernel
theorem dX12_insert_63 : decode cX12_insert 63 = .ok (.iaload, 1) := by decide +kernel
theorem dX12_insert_64 : decode cX12_insert 64 = .ok (.sipush 600, 3) := by decide +kernel
theorem dX12_insert_67 : decode cX12_insert 67 = .ok (.if_icmp .ne 9, 3) := by decide +kernel
theorem dX12_insert_70 : decode cX12_insert 70 = .ok (.aload_n 0, 1) := by decide +kernel
theorem dX12_insert_71 : decode cX12_insert 71 = .ok (.iconst 3, 1) := by decide +kernel
theorem dX12_insert_72 : decode cX12_insert 72 = .ok (.invokevirtual 280, 3) := by decide +kernel
theorem dX12_insert_75 : decode cX12_insert 75 = .ok (.ireturn, 1) := by decide +kernel
theorem dX12_insert_76 : decode cX12_insert 76 = .ok (.aload_n 0, 1) := by decide +kernel
theorem dX12_insert_77 : decode cX12_insert 77 = .ok (.invokevirtual 289, 3) := by decide +kernel
theorem dX12_insert_80 : decode cX12_insert 80 = .ok (.aload_n 0, 1) := by decide +kernel
theorem dX12_insert_81 : decode cX12_insert 81 = .ok (.iload_n 1, 1) := by decide +kernel
theorem dX12_insert_82 : decode cX12_insert 82 = .ok (.iload_n 2, 1) := by decide +kernel
theorem dX12_insert_83 : decode cX12_insert 83 = .ok (.invokevirtual 323, 3) := by decide +kernel
theorem dX12_insert_86 : decode cX12_insert 86 = .ok (.aload_n 0, 1) := by decide +kernel
theorem dX12_insert_87 : decode cX12_insert 87 = .ok (.getfield 16, 3) := by decide +kernel
theorem dX12_insert_90 : decode cX12_insert 90 = .ok (.iconst 0, 1) := by decide +kernel
theorem dX12_insert_91 : decode cX12_insert 91 = .ok (.iaload, 1) := by decide +kernel
theorem dX12_insert_92 : decode cX12_insert 92 = .ok (.ireturn, 1) := by decide +kernel
theorem dX12_draw_0 : decode cX12_draw 0 = .ok (.aload_n 0, 1) := by decide +kernel
theorem dX12_draw_1 : decode cX12_draw 1 = .ok (.aload_n 0, 1) := by decide +kernel
theorem dX12_draw_2 : decode cX12_draw 2 = .ok (.getfield 327, 3) := by decide +kernel
theorem dX12_draw_5 : decode cX12_draw 5 = .ok (.ldc2_w 331, 3) := by decide +kernel
theorem dX12_draw_8 : decode cX12_draw 8 = .ok (.lmul, 1) := by decide +kernel
theorem dX12_draw_9 : decode cX12_draw 9 = .ok (.ldc2_w 333, 3) := by decide +kernel
theorem dX12_draw_12 : decode cX12_draw 12 = .ok (.ladd, 1) := by decide +kernel
theorem dX12_draw_13 : decode cX12_draw 13 = .ok (.putfield 327, 3) := by decide +kernel
theorem dX12_draw_16 : decode cX12_draw 16 = .ok (.aload_n 0, 1) := by decide +kernel
theorem dX12_draw_17 : decode cX12_draw 17 = .ok (.getfield 327, 3) := by decide +kernel
theorem dX12_draw_20 : decode cX12_draw 20 = .ok (.bipush 33, 2) := by decide +kernel
theorem dX12_draw_22 : decode cX12_draw 22 = .ok (.lushr, 1) := by decide +kernel
theorem dX12_draw_23 : decode cX12_draw 23 = .ok (.iload_n 1, 1) := by decide +kernel
theorem dX12_draw_24 : decode cX12_draw 24 = .ok (.i2l, 1) := by decide +kernel
theorem dX12_draw_25 : decode cX12_draw 25 = .ok (.lrem, 1) := by decide +kernel
theorem dX12_draw_26 : decode cX12_draw 26 = .ok (.l2i, 1) := by decide +kernel
theorem dX12_draw_27 : decode cX12_draw 27 = .ok (.ireturn, 1) := by decide +kernel
theorem dX12_noisy_0 : decode cX12_noisy 0 = .ok (.aload_n 0, 1) := by decide +kernel
theorem dX12_noisy_1 : decode cX12_noisy 1 = .ok (.iconst 3, 1) := by decide +kernel
theorem dX12_noisy_2 : decode cX12_noisy 2 = .ok (.invokevirtual 335, 3) := by decide +kernel
theorem dX12_noisy_5 : decode cX12_noisy 5 = .ok (.istore_n 1, 1) := by decide +kernel
theorem dX12_noisy_6 : decode cX12_noisy 6 = .ok (.iload_n 1, 1) := by decide +kernel
theorem dX12_noisy_7 : decode cX12_noisy 7 = .ok (.iconst 2, 1) := by decide +kernel
theorem dX12_noisy_8 : decode cX12_noisy 8 = .ok (.if_icmp .ge 12, 3) := by decide +kernel
theorem dX12_noisy_11 : decode cX12_noisy 11 = .ok (.aload_n 0, 1) := by decide +kernel
theorem dX12_noisy_12 : decode cX12_noisy 12 = .ok (.getfield 16, 3) := by decide +kernel
theorem dX12_noisy_15 : decode cX12_noisy 15 = .ok (.iconst 0, 1) := by decide +kernel
theorem dX12_noisy_16 : decode cX12_noisy 16 = .ok (.iaload, 1) := by decide +kernel
theorem dX12_noisy_17 : decode cX12_noisy 17 = .ok (.ifCond .eq 20, 3) := by decide +kernel
theorem dX12_noisy_20 : decode cX12_noisy 20 = .ok (.iload_n 1, 1) := by decide +kernel
theorem dX12_noisy_21 : decode cX12_noisy 21 = .ok (.iconst 2, 1) := by decide +kernel
theorem dX12_noisy_22 : decode cX12_noisy 22 = .ok (.if_icmp .ne 17, 3) := by decide +kernel
theorem dX12_noisy_25 : decode cX12_noisy 25 = .ok (.aload_n 0, 1) := by decide +kernel
theorem dX12_noisy_26 : decode cX12_noisy 26 = .ok (.getfield 16, 3) := by decide +kernel
theorem dX12_noisy_29 : decode cX12_noisy 29 = .ok (.iconst 0, 1) := by decide +kernel
theorem dX12_noisy_30 : decode cX12_noisy 30 = .ok (.iaload, 1) := by decide +kernel
theorem dX12_noisy_31 : decode cX12_noisy 31 = .ok (.sipush 600, 3) := by decide +kernel
theorem dX12_noisy_34 : decode cX12_noisy 34 = .ok (.if_icmp .ne 5, 3) := by decide +kernel
theorem dX12_noisy_37 : decode cX12_noisy 37 = .ok (.iconst 0, 1) := by decide +kernel
theorem dX12_noisy_38 : decode cX12_noisy 38 = .ok (.ireturn, 1) := by decide +kernel
theorem dX12_noisy_39 : decode cX12_noisy 39 = .ok (.aload_n 0, 1) := by decide +kernel
theorem dX12_noisy_40 : decode cX12_noisy 40 = .ok (.aload_n 0, 1) := by decide +kernel
theorem dX12_noisy_41 : decode cX12_noisy 41 = .ok (.getfield 16, 3) := by decide +kernel
theorem dX12_noisy_44 : decode cX12_noisy 44 = .ok (.iconst 0, 1) := by decide +kernel
theorem dX12_noisy_45 : decode cX12_noisy 45 = .ok (.iaload, 1) := by decide +kernel
theorem dX12_noisy_46 : decode cX12_noisy 46 = .ok (.iload_n 1, 1) := by decide +kernel
theorem dX12_noisy_47 : decode cX12_noisy 47 = .ok (.iconst 2, 1) := by decide +kernel
theorem dX12_noisy_48 : decode cX12_noisy 48 = .ok (.if_icmp .ne 7, 3) := by decide +kernel
theorem dX12_noisy_51 : decode cX12_noisy 51 = .ok (.iconst 1, 1) := by decide +kernel
theorem dX12_noisy_52 : decode cX12_noisy 52 = .ok (.goto 4, 3) := by decide +kernel
theorem dX12_noisy_55 : decode cX12_noisy 55 = .ok (.iconst 0, 1) := by decide +kernel
theorem dX12_noisy_56 : decode cX12_noisy 56 = .ok (.iadd, 1) := by decide +kernel
theorem dX12_noisy_57 : decode cX12_noisy 57 = .ok (.invokevirtual 335, 3) := by decide +kernel
theorem dX12_noisy_60 : decode cX12_noisy 60 = .ok (.istore_n 2, 1) := by decide +kernel
theorem dX12_noisy_61 : decode cX12_noisy 61 = .ok (.iload_n 1, 1) := by decide +kernel
theorem dX12_noisy_62 : decode cX12_noisy 62 = .ok (.iconst 1, 1) := by decide +kernel
theorem dX12_noisy_63 : decode cX12_noisy 63 = .ok (.if_icmp .ne 10, 3) := by decide +kernel
theorem dX12_noisy_66 : decode cX12_noisy 66 = .ok (.aload_n 0, 1) := by decide +kernel
theorem dX12_noisy_67 : decode cX12_noisy 67 = .ok (.iload_n 2, 1) := by decide +kernel
theorem dX12_noisy_68 : decode cX12_noisy 68 = .ok (.invokevirtual 320, 3) := by decide +kernel
theorem dX12_noisy_71 : decode cX12_noisy 71 = .ok (.iconst 1, 1) := by decide +kernel
theorem dX12_noisy_72 : decode cX12_noisy 72 = .ok (.ireturn, 1) := by decide +kernel
theorem dX12_noisy_73 : decode cX12_noisy 73 = .ok (.aload_n 0, 1) := by decide +kernel
theorem dX12_noisy_74 : decode cX12_noisy 74 = .ok (.sipush 255, 3) := by decide +kernel
theorem dX12_noisy_77 : decode cX12_noisy 77 = .ok (.invokevirtual 335, 3) := by decide +kernel
theorem dX12_noisy_80 : decode cX12_noisy 80 = .ok (.iconst 1, 1) := by decide +kernel
theorem dX12_noisy_81 : decode cX12_noisy 81 = .ok (.iadd, 1) := by decide +kernel
theorem dX12_noisy_82 : decode cX12_noisy 82 = .ok (.istore_n 3, 1) := by decide +kernel
theorem dX12_noisy_83 : decode cX12_noisy 83 = .ok (.iload_n 1, 1) := by decide +kernel
theorem dX12_noisy_84 : decode cX12_noisy 84 = .ok (.ifCond .ne 18, 3) := by decide +kernel
theorem dX12_noisy_87 : decode cX12_noisy 87 = .ok (.aload_n 0, 1) := by decide +kernel
theorem dX12_noisy_88 : decode cX12_noisy 88 = .ok (.getfield 16, 3) := by decide +kernel
theorem dX12_noisy_91 : decode cX12_noisy 91 = .ok (.iconst 1, 1) := by decide +kernel
theorem dX12_noisy_92 : decode cX12_noisy 92 = .ok (.iload_n 2, 1) := by decide +kernel
theorem dX12_noisy_93 : decode cX12_noisy 93 = .ok (.iadd, 1) := by decide +kernel
theorem dX12_noisy_94 : decode cX12_noisy 94 = .ok (.dup2, 1) := by decide +kernel
theorem dX12_noisy_95 : decode cX12_noisy 95 = .ok (.iaload, 1) := by decide +kernel
theorem dX12_noisy_96 : decode cX12_noisy 96 = .ok (.iload_n 3, 1) := by decide +kernel
theorem dX12_noisy_97 : decode cX12_noisy 97 = .ok (.ixor, 1) := by decide +kernel
theorem dX12_noisy_98 : decode cX12_noisy 98 = .ok (.iastore, 1) := by decide +kernel
theorem dX12_noisy_99 : decode cX12_noisy 99 = .ok (.goto 9, 3) := by decide +kernel
theorem dX12_noisy_102 : decode cX12_noisy 102 = .ok (.aload_n 0, 1) := by decide +kernel
theorem dX12_noisy_103 : decode cX12_noisy 103 = .ok (.iload_n 2, 1) := by decide +kernel
theorem dX12_noisy_104 : decode cX12_noisy 104 = .ok (.iload_n 3, 1) := by decide +kernel
theorem dX12_noisy_105 : decode cX12_noisy 105 = .ok (.invokevirtual 323, 3) := by decide +kernel
theorem dX12_noisy_108 : decode cX12_noisy 108 = .ok (.iconst 1, 1) := by decide +kernel
theorem dX12_noisy_109 : decode cX12_noisy 109 = .ok (.ireturn, 1) := by decide +kernel
theorem dX12_noise_0 : decode cX12_noise 0 = .ok (.aload_n 0, 1) := by decide +kernel
theorem dX12_noise_1 : decode cX12_noise 1 = .ok (.iconst 0, 1) := by decide +kernel
theorem dX12_noise_2 : decode cX12_noise 2 = .ok (.putfield 60, 3) := by decide +kernel
theorem dX12_noise_5 : decode cX12_noise 5 = .ok (.aload_n 0, 1) := by decide +kernel
theorem dX12_noise_6 : decode cX12_noise 6 = .ok (.getfield 188, 3) := by decide +kernel
theorem dX12_noise_9 : decode cX12_noise 9 = .ok (.ifCond .ne 9, 3) := by decide +kernel
theorem dX12_noise_12 : decode cX12_noise 12 = .ok (.aload_n 0, 1) := by decide +kernel
theorem dX12_noise_13 : decode cX12_noise 13 = .ok (.iconst 0, 1) := by decide +kernel
theorem dX12_noise_14 : decode cX12_noise 14 = .ok (.invokevirtual 280, 3) := by decide +kernel
theorem dX12_noise_17 : decode cX12_noise 17 = .ok (.ireturn, 1) := by decide +kernel
theorem dX12_noise_18 : decode cX12_noise 18 = .ok (.iload_n 1, 1) := by decide +kernel
theorem dX12_noise_19 : decode cX12_noise 19 = .ok (.i2l, 1) := by decide +kernel
theorem dX12_noise_20 : decode cX12_noise 20 = .ok (.lconst 1, 1) := by decide +kernel
theorem dX12_noise_21 : decode cX12_noise 21 = .ok (.ldc2_w 338, 3) := by decide +kernel
theorem dX12_noise_24 : decode cX12_noise 24 = .ok (.invokestatic 70, 3) := by decide +kernel
theorem dX12_noise_27 : decode cX12_noise 27 = .ok (.ifCond .ne 9, 3) := by decide +kernel
theorem dX12_noise_30 : decode cX12_noise 30 = .ok (.aload_n 0, 1) := by decide +kernel
theorem dX12_noise_31 : decode cX12_noise 31 = .ok (.iconst 2, 1) := by decide +kernel
theorem dX12_noise_32 : decode cX12_noise 32 = .ok (.invokevirtual 280, 3) := by decide +kernel
theorem dX12_noise_35 : decode cX12_noise 35 = .ok (.ireturn, 1) := by decide +kernel
theorem dX12_noise_36 : decode cX12_noise 36 = .ok (.aload_n 0, 1) := by decide +kernel
theorem dX12_noise_37 : decode cX12_noise 37 = .ok (.invokevirtual 340, 3) := by decide +kernel
theorem dX12_noise_40 : decode cX12_noise 40 = .ok (.aload_n 0, 1) := by decide +kernel
theorem dX12_noise_41 : decode cX12_noise 41 = .ok (.lload_n 2, 1) := by decide +kernel
theorem dX12_noise_42 : decode cX12_noise 42 = .ok (.putfield 327, 3) := by decide +kernel
theorem dX12_noise_45 : decode cX12_noise 45 = .ok (.iconst 0, 1) := by decide +kernel
theorem dX12_noise_46 : decode cX12_noise 46 = .ok (.istore 4, 2) := by decide +kernel
theorem dX12_noise_48 : decode cX12_noise 48 = .ok (.iconst 0, 1) := by decide +kernel
theorem dX12_noise_49 : decode cX12_noise 49 = .ok (.istore 5, 2) := by decide +kernel
theorem dX12_noise_51 : decode cX12_noise 51 = .ok (.iload 5, 2) := by decide +kernel
theorem dX12_noise_53 : decode cX12_noise 53 = .ok (.iload_n 1, 1) := by decide +kernel
theorem dX12_noise_54 : decode cX12_noise 54 = .ok (.if_icmp .ge 26, 3) := by decide +kernel
theorem dX12_noise_57 : decode cX12_noise 57 = .ok (.iload 4, 2) := by decide +kernel
theorem dX12_noise_59 : decode cX12_noise 59 = .ok (.aload_n 0, 1) := by decide +kernel
theorem dX12_noise_60 : decode cX12_noise 60 = .ok (.invokevirtual 343, 3) := by decide +kernel
theorem dX12_noise_63 : decode cX12_noise 63 = .ok (.ifCond .eq 7, 3) := by decide +kernel
theorem dX12_noise_66 : decode cX12_noise 66 = .ok (.iconst 1, 1) := by decide +kernel
theorem dX12_noise_67 : decode cX12_noise 67 = .ok (.goto 4, 3) := by decide +kernel
theorem dX12_noise_70 : decode cX12_noise 70 = .ok (.iconst 0, 1) := by decide +kernel
theorem dX12_noise_71 : decode cX12_noise 71 = .ok (.iadd, 1) := by decide +kernel
theorem dX12_noise_72 : decode cX12_noise 72 = .ok (.istore 4, 2) := by decide +kernel
theorem dX12_noise_74 : decode cX12_noise 74 = .ok (.iinc 5 1, 3) := by decide +kernel
theorem dX12_noise_77 : decode cX12_noise 77 = .ok (.goto (-26), 3) := by decide +kernel
theorem dX12_noise_80 : decode cX12_noise 80 = .ok (.iload 4, 2) := by decide +kernel
theorem dX12_noise_82 : decode cX12_noise 82 = .ok (.ifCond .le 11, 3) := by decide +kernel
theorem dX12_noise_85 : decode cX12_noise 85 = .ok (.aload_n 0, 1) := by decide +kernel
theorem dX12_noise_86 : decode cX12_noise 86 = .ok (.aload_n 0, 1) := by decide +kernel
theorem dX12_noise_87 : decode cX12_noise 87 = .ok (.getfield 42, 3) := by decide +kernel
theorem dX12_noise_90 : decode cX12_noise 90 = .ok (.invokevirtual 274, 3) := by decide +kernel
theorem dX12_noise_93 : decode cX12_noise 93 = .ok (.iload 4, 2) := by decide +kernel
theorem dX12_noise_95 : decode cX12_noise 95 = .ok (.ireturn, 1) := by decide +kernel
theorem dX12_torn_0 : decode cX12_torn 0 = .ok (.aload_n 0, 1) := by decide +kernel
theorem dX12_torn_1 : decode cX12_torn 1 = .ok (.iload_n 1, 1) := by decide +kernel
theorem dX12_torn_2 : decode cX12_torn 2 = .ok (.bipush 6, 2) := by decide +kernel
theorem dX12_torn_4 : decode cX12_torn 4 = .ok (.aload_n 0, 1) := by decide +kernel
theorem dX12_torn_5 : decode cX12_torn 5 = .ok (.iload_n 1, 1) := by decide +kernel
theorem dX12_torn_6 : decode cX12_torn 6 = .ok (.bipush 8, 2) := by decide +kernel
theorem dX12_torn_8 : decode cX12_torn 8 = .ok (.invokevirtual 286, 3) := by decide +kernel
theorem dX12_torn_11 : decode cX12_torn 11 = .ok (.ifCond .le 7, 3) := by decide +kernel
theorem dX12_torn_14 : decode cX12_torn 14 = .ok (.iconst 1, 1) := by decide +kernel
theorem dX12_torn_15 : decode cX12_torn 15 = .ok (.goto 4, 3) := by decide +kernel
theorem dX12_torn_18 : decode cX12_torn 18 = .ok (.iconst 0, 1) := by decide +kernel
theorem dX12_torn_19 : decode cX12_torn 19 = .ok (.invokevirtual 295, 3) := by decide +kernel
theorem dX12_torn_22 : decode cX12_torn 22 = .ok (.aload_n 0, 1) := by decide +kernel
theorem dX12_torn_23 : decode cX12_torn 23 = .ok (.iload_n 1, 1) := by decide +kernel
theorem dX12_torn_24 : decode cX12_torn 24 = .ok (.bipush 8, 2) := by decide +kernel
theorem dX12_torn_26 : decode cX12_torn 26 = .ok (.iconst 0, 1) := by decide +kernel
theorem dX12_torn_27 : decode cX12_torn 27 = .ok (.invokevirtual 201, 3) := by decide +kernel
theorem dX12_torn_30 : decode cX12_torn 30 = .ok (.aload_n 0, 1) := by decide +kernel
theorem dX12_torn_31 : decode cX12_torn 31 = .ok (.iload_n 1, 1) := by decide +kernel
theorem dX12_torn_32 : decode cX12_torn 32 = .ok (.bipush 9, 2) := by decide +kernel
theorem dX12_torn_34 : decode cX12_torn 34 = .ok (.iconst 0, 1) := by decide +kernel
theorem dX12_torn_35 : decode cX12_torn 35 = .ok (.invokevirtual 201, 3) := by decide +kernel
theorem dX12_torn_38 : decode cX12_torn 38 = .ok (.aload_n 0, 1) := by decide +kernel
theorem dX12_torn_39 : decode cX12_torn 39 = .ok (.iload_n 1, 1) := by decide +kernel
theorem dX12_torn_40 : decode cX12_torn 40 = .ok (.bipush 11, 2) := by decide +kernel
theorem dX12_torn_42 : decode cX12_torn 42 = .ok (.iconst 0, 1) := by decide +kernel
theorem dX12_torn_43 : decode cX12_torn 43 = .ok (.invokevirtual 201, 3) := by decide +kernel
theorem dX12_torn_46 : decode cX12_torn 46 = .ok (.return_, 1) := by decide +kernel
theorem dX12_hereAt_0 : decode cX12_hereAt 0 = .ok (.sipush 1100, 3) := by decide +kernel
theorem dX12_hereAt_3 : decode cX12_hereAt 3 = .ok (.bipush 122, 2) := by decide +kernel
theorem dX12_hereAt_5 : decode cX12_hereAt 5 = .ok (.iload_n 0, 1) := by decide +kernel
theorem dX12_hereAt_6 : decode cX12_hereAt 6 = .ok (.imul, 1) := by decide +kernel
theorem dX12_hereAt_7 : decode cX12_hereAt 7 = .ok (.iadd, 1) := by decide +kernel
theorem dX12_hereAt_8 : decode cX12_hereAt 8 = .ok (.ireturn, 1) := by decide +kernel
theorem dX12_ends_0 : decode cX12_ends 0 = .ok (.aload_n 0, 1) := by decide +kernel
theorem dX12_ends_1 : decode cX12_ends 1 = .ok (.iload_n 1, 1) := by decide +kernel
theorem dX12_ends_2 : decode cX12_ends 2 = .ok (.bipush 7, 2) := by decide +kernel
theorem dX12_ends_4 : decode cX12_ends 4 = .ok (.invokevirtual 286, 3) := by decide +kernel
theorem dX12_ends_7 : decode cX12_ends 7 = .ok (.bipush 8, 2) := by decide +kernel
theorem dX12_ends_9 : decode cX12_ends 9 = .ok (.if_icmp .ne 11, 3) := by decide +kernel
theorem dX12_ends_12 : decode cX12_ends 12 = .ok (.aload_n 0, 1) := by decide +kernel
theorem dX12_ends_13 : decode cX12_ends 13 = .ok (.iload_n 1, 1) := by decide +kernel
theorem dX12_ends_14 : decode cX12_ends 14 = .ok (.invokevirtual 346, 3) := by decide +kernel
theorem dX12_ends_17 : decode cX12_ends 17 = .ok (.bipush 6, 2) := by decide +kernel
theorem dX12_ends_19 : decode cX12_ends 19 = .ok (.ireturn, 1) := by decide +kernel
theorem dX12_ends_20 : decode cX12_ends 20 = .ok (.aload_n 0, 1) := by decide +kernel
theorem dX12_ends_21 : decode cX12_ends 21 = .ok (.iload_n 1, 1) := by decide +kernel
theorem dX12_ends_22 : decode cX12_ends 22 = .ok (.bipush 7, 2) := by decide +kernel
theorem dX12_ends_24 : decode cX12_ends 24 = .ok (.invokevirtual 286, 3) := by decide +kernel
theorem dX12_ends_27 : decode cX12_ends 27 = .ok (.invokestatic 349, 3) := by decide +kernel
theorem dX12_ends_30 : decode cX12_ends 30 = .ok (.istore_n 2, 1) := by decide +kernel
theorem dX12_ends_31 : decode cX12_ends 31 = .ok (.aload_n 0, 1) := by decide +kernel
theorem dX12_ends_32 : decode cX12_ends 32 = .ok (.iload_n 1, 1) := by decide +kernel
theorem dX12_ends_33 : decode cX12_ends 33 = .ok (.iload_n 2, 1) := by decide +kernel
theorem dX12_ends_34 : decode cX12_ends 34 = .ok (.aload_n 0, 1) := by decide +kernel
theorem dX12_ends_35 : decode cX12_ends 35 = .ok (.iload_n 1, 1) := by decide +kernel
theorem dX12_ends_36 : decode cX12_ends 36 = .ok (.bipush 9, 2) := by decide +kernel
theorem dX12_ends_38 : decode cX12_ends 38 = .ok (.invokevirtual 286, 3) := by decide +kernel
theorem dX12_ends_41 : decode cX12_ends 41 = .ok (.invokevirtual 201, 3) := by decide +kernel
theorem dX12_ends_44 : decode cX12_ends 44 = .ok (.aload_n 0, 1) := by decide +kernel
theorem dX12_ends_45 : decode cX12_ends 45 = .ok (.iload_n 1, 1) := by decide +kernel
theorem dX12_ends_46 : decode cX12_ends 46 = .ok (.iload_n 2, 1) := by decide +kernel
theorem dX12_ends_47 : decode cX12_ends 47 = .ok (.iconst 1, 1) := by decide +kernel
theorem dX12_ends_48 : decode cX12_ends 48 = .ok (.iadd, 1) := by decide +kernel
theorem dX12_ends_49 : decode cX12_ends 49 = .ok (.aload_n 0, 1) := by decide +kernel
theorem dX12_ends_50 : decode cX12_ends 50 = .ok (.iload_n 1, 1) := by decide +kernel
theorem dX12_ends_51 : decode cX12_ends 51 = .ok (.bipush 8, 2) := by decide +kernel
theorem dX12_ends_53 : decode cX12_ends 53 = .ok (.invokevirtual 286, 3) := by decide +kernel
theorem dX12_ends_56 : decode cX12_ends 56 = .ok (.invokevirtual 201, 3) := by decide +kernel
theorem dX12_ends_59 : decode cX12_ends 59 = .ok (.iconst 0, 1) := by decide +kernel
theorem dX12_ends_60 : decode cX12_ends 60 = .ok (.istore_n 3, 1) := by decide +kernel
theorem dX12_ends_61 : decode cX12_ends 61 = .ok (.iload_n 3, 1) := by decide +kernel
theorem dX12_ends_62 : decode cX12_ends 62 = .ok (.aload_n 0, 1) := by decide +kernel
theorem dX12_ends_63 : decode cX12_ends 63 = .ok (.iload_n 1, 1) := by decide +kernel
theorem dX12_ends_64 : decode cX12_ends 64 = .ok (.bipush 9, 2) := by decide +kernel
theorem dX12_ends_66 : decode cX12_ends 66 = .ok (.invokevirtual 286, 3) := by decide +kernel
theorem dX12_ends_69 : decode cX12_ends 69 = .ok (.if_icmp .ge 29, 3) := by decide +kernel
theorem dX12_ends_72 : decode cX12_ends 72 = .ok (.aload_n 0, 1) := by decide +kernel
theorem dX12_ends_73 : decode cX12_ends 73 = .ok (.iload_n 1, 1) := by decide +kernel
theorem dX12_ends_74 : decode cX12_ends 74 = .ok (.iload_n 2, 1) := by decide +kernel
theorem dX12_ends_75 : decode cX12_ends 75 = .ok (.iconst 2, 1) := by decide +kernel
theorem dX12_ends_76 : decode cX12_ends 76 = .ok (.iadd, 1) := by decide +kernel
theorem dX12_ends_77 : decode cX12_ends 77 = .ok (.iload_n 3, 1) := by decide +kernel
theorem dX12_ends_78 : decode cX12_ends 78 = .ok (.iadd, 1) := by decide +kernel
theorem dX12_ends_79 : decode cX12_ends 79 = .ok (.aload_n 0, 1) := by decide +kernel
theorem dX12_ends_80 : decode cX12_ends 80 = .ok (.iload_n 1, 1) := by decide +kernel
theorem dX12_ends_81 : decode cX12_ends 81 = .ok (.sipush 980, 3) := by decide +kernel
theorem dX12_ends_84 : decode cX12_ends 84 = .ok (.iload_n 3, 1) := by decide +kernel
theorem dX12_ends_85 : decode cX12_ends 85 = .ok (.iadd, 1) := by decide +kernel
theorem dX12_ends_86 : decode cX12_ends 86 = .ok (.invokevirtual 286, 3) := by decide +kernel
theorem dX12_ends_89 : decode cX12_ends 89 = .ok (.invokevirtual 201, 3) := by decide +kernel
theorem dX12_ends_92 : decode cX12_ends 92 = .ok (.iinc 3 1, 3) := by decide +kernel
theorem dX12_ends_95 : decode cX12_ends 95 = .ok (.goto (-34), 3) := by decide +kernel
theorem dX12_ends_98 : decode cX12_ends 98 = .ok (.aload_n 0, 1) := by decide +kernel
theorem dX12_ends_99 : decode cX12_ends 99 = .ok (.iload_n 1, 1) := by decide +kernel
theorem dX12_ends_100 : decode cX12_ends 100 = .ok (.bipush 7, 2) := by decide +kernel
theorem dX12_ends_102 : decode cX12_ends 102 = .ok (.iconst 1, 1) := by decide +kernel
theorem dX12_ends_103 : decode cX12_ends 103 = .ok (.invokevirtual 295, 3) := by decide +kernel
theorem dX12_ends_106 : decode cX12_ends 106 = .ok (.aload_n 0, 1) := by decide +kernel
theorem dX12_ends_107 : decode cX12_ends 107 = .ok (.iload_n 1, 1) := by decide +kernel
theorem dX12_ends_108 : decode cX12_ends 108 = .ok (.bipush 8, 2) := by decide +kernel
theorem dX12_ends_110 : decode cX12_ends 110 = .ok (.iconst 0, 1) := by decide +kernel
theorem dX12_ends_111 : decode cX12_ends 111 = .ok (.invokevirtual 201, 3) := by decide +kernel
theorem dX12_ends_114 : decode cX12_ends 114 = .ok (.aload_n 0, 1) := by decide +kernel
theorem dX12_ends_115 : decode cX12_ends 115 = .ok (.iload_n 1, 1) := by decide +kernel
theorem dX12_ends_116 : decode cX12_ends 116 = .ok (.bipush 9, 2) := by decide +kernel
theorem dX12_ends_118 : decode cX12_ends 118 = .ok (.iconst 0, 1) := by decide +kernel
theorem dX12_ends_119 : decode cX12_ends 119 = .ok (.invokevirtual 201, 3) := by decide +kernel
theorem dX12_ends_122 : decode cX12_ends 122 = .ok (.aload_n 0, 1) := by decide +kernel
theorem dX12_ends_123 : decode cX12_ends 123 = .ok (.iload_n 1, 1) := by decide +kernel
theorem dX12_ends_124 : decode cX12_ends 124 = .ok (.bipush 11, 2) := by decide +kernel
theorem dX12_ends_126 : decode cX12_ends 126 = .ok (.iconst 0, 1) := by decide +kernel
theorem dX12_ends_127 : decode cX12_ends 127 = .ok (.invokevirtual 201, 3) := by decide +kernel
theorem dX12_ends_130 : decode cX12_ends 130 = .ok (.iconst 1, 1) := by decide +kernel
theorem dX12_ends_131 : decode cX12_ends 131 = .ok (.ireturn, 1) := by decide +kernel
theorem dX12_takesFrame_0 : decode cX12_takesFrame 0 = .ok (.aload_n 0, 1) := by decide +kernel
theorem dX12_takesFrame_1 : decode cX12_takesFrame 1 = .ok (.getfield 29, 3) := by decide +kernel
theorem dX12_takesFrame_4 : decode cX12_takesFrame 4 = .ok (.iconst 0, 1) := by decide +kernel
theorem dX12_takesFrame_5 : decode cX12_takesFrame 5 = .ok (.iaload, 1) := by decide +kernel
theorem dX12_takesFrame_6 : decode cX12_takesFrame 6 = .ok (.istore_n 1, 1) := by decide +kernel
theorem dX12_takesFrame_7 : decode cX12_takesFrame 7 = .ok (.iload_n 1, 1) := by decide +kernel
theorem dX12_takesFrame_8 : decode cX12_takesFrame 8 = .ok (.bipush 64, 2) := by decide +kernel
theorem dX12_takesFrame_10 : decode cX12_takesFrame 10 = .ok (.idiv, 1) := by decide +kernel
theorem dX12_takesFrame_11 : decode cX12_takesFrame 11 = .ok (.istore_n 2, 1) := by decide +kernel
theorem dX12_takesFrame_12 : decode cX12_takesFrame 12 = .ok (.iload_n 1, 1) := by decide +kernel
theorem dX12_takesFrame_13 : decode cX12_takesFrame 13 = .ok (.bipush 16, 2) := by decide +kernel
theorem dX12_takesFrame_15 : decode cX12_takesFrame 15 = .ok (.irem, 1) := by decide +kernel
theorem dX12_takesFrame_16 : decode cX12_takesFrame 16 = .ok (.aload_n 0, 1) := by decide +kernel
theorem dX12_takesFrame_17 : decode cX12_takesFrame 17 = .ok (.iload_n 2, 1) := by decide +kernel
theorem dX12_takesFrame_18 : decode cX12_takesFrame 18 = .ok (.iconst 4, 1) := by decide +kernel
theorem dX12_takesFrame_19 : decode cX12_takesFrame 19 = .ok (.invokevirtual 286, 3) := by decide +kernel
theorem dX12_takesFrame_22 : decode cX12_takesFrame 22 = .ok (.isub, 1) := by decide +kernel
theorem dX12_takesFrame_23 : decode cX12_takesFrame 23 = .ok (.bipush 16, 2) := by decide +kernel
theorem dX12_takesFrame_25 : decode cX12_takesFrame 25 = .ok (.iadd, 1) := by decide +kernel
theorem dX12_takesFrame_26 : decode cX12_takesFrame 26 = .ok (.bipush 16, 2) := by decide +kernel
theorem dX12_takesFrame_28 : decode cX12_takesFrame 28 = .ok (.irem, 1) := by decide +kernel
theorem dX12_takesFrame_29 : decode cX12_takesFrame 29 = .ok (.istore_n 3, 1) := by decide +kernel
theorem dX12_takesFrame_30 : decode cX12_takesFrame 30 = .ok (.iload_n 3, 1) := by decide +kernel
theorem dX12_takesFrame_31 : decode cX12_takesFrame 31 = .ok (.ifCond .le 15, 3) := by decide +kernel
theorem dX12_takesFrame_34 : decode cX12_takesFrame 34 = .ok (.aload_n 0, 1) := by decide +kernel
theorem dX12_takesFrame_35 : decode cX12_takesFrame 35 = .ok (.iload_n 2, 1) := by decide +kernel
theorem dX12_takesFrame_36 : decode cX12_takesFrame 36 = .ok (.iconst 5, 1) := by decide +kernel
theorem dX12_takesFrame_37 : decode cX12_takesFrame 37 = .ok (.iload_n 3, 1) := by decide +kernel
theorem dX12_takesFrame_38 : decode cX12_takesFrame 38 = .ok (.invokevirtual 295, 3) := by decide +kernel
theorem dX12_takesFrame_41 : decode cX12_takesFrame 41 = .ok (.aload_n 0, 1) := by decide +kernel
theorem dX12_takesFrame_42 : decode cX12_takesFrame 42 = .ok (.iload_n 2, 1) := by decide +kernel
theorem dX12_takesFrame_43 : decode cX12_takesFrame 43 = .ok (.invokevirtual 346, 3) := by decide +kernel
theorem dX12_takesFrame_46 : decode cX12_takesFrame 46 = .ok (.aload_n 0, 1) := by decide +kernel
theorem dX12_takesFrame_47 : decode cX12_takesFrame 47 = .ok (.iload_n 2, 1) := by decide +kernel
theorem dX12_takesFrame_48 : decode cX12_takesFrame 48 = .ok (.iconst 4, 1) := by decide +kernel
theorem dX12_takesFrame_49 : decode cX12_takesFrame 49 = .ok (.iload_n 1, 1) := by decide +kernel
theorem dX12_takesFrame_50 : decode cX12_takesFrame 50 = .ok (.iconst 1, 1) := by decide +kernel
theorem dX12_takesFrame_51 : decode cX12_takesFrame 51 = .ok (.iadd, 1) := by decide +kernel
theorem dX12_takesFrame_52 : decode cX12_takesFrame 52 = .ok (.bipush 16, 2) := by decide +kernel
theorem dX12_takesFrame_54 : decode cX12_takesFrame 54 = .ok (.irem, 1) := by decide +kernel
theorem dX12_takesFrame_55 : decode cX12_takesFrame 55 = .ok (.invokevirtual 201, 3) := by decide +kernel
theorem dX12_takesFrame_58 : decode cX12_takesFrame 58 = .ok (.iload_n 1, 1) := by decide +kernel
theorem dX12_takesFrame_59 : decode cX12_takesFrame 59 = .ok (.bipush 32, 2) := by decide +kernel
theorem dX12_takesFrame_61 : decode cX12_takesFrame 61 = .ok (.iand, 1) := by decide +kernel
theorem dX12_takesFrame_62 : decode cX12_takesFrame 62 = .ok (.ifCond .eq 7, 3) := by decide +kernel
theorem dX12_takesFrame_65 : decode cX12_takesFrame 65 = .ok (.iconst 1, 1) := by decide +kernel
theorem dX12_takesFrame_66 : decode cX12_takesFrame 66 = .ok (.goto 4, 3) := by decide +kernel
theorem dX12_takesFrame_69 : decode cX12_takesFrame 69 = .ok (.iconst 0, 1) := by decide +kernel
theorem dX12_takesFrame_70 : decode cX12_takesFrame 70 = .ok (.istore 4, 2) := by decide +kernel
theorem dX12_takesFrame_72 : decode cX12_takesFrame 72 = .ok (.iload 4, 2) := by decide +kernel
theorem dX12_takesFrame_74 : decode cX12_takesFrame 74 = .ok (.ifCond .eq 16, 3) := by decide +kernel
theorem dX12_takesFrame_77 : decode cX12_takesFrame 77 = .ok (.aload_n 0, 1) := by decide +kernel
theorem dX12_takesFrame_78 : decode cX12_takesFrame 78 = .ok (.iload_n 2, 1) := by decide +kernel
theorem dX12_takesFrame_79 : decode cX12_takesFrame 79 = .ok (.invokevirtual 346, 3) := by decide +kernel
theorem dX12_takesFrame_82 : decode cX12_takesFrame 82 = .ok (.aload_n 0, 1) := by decide +kernel
theorem dX12_takesFrame_83 : decode cX12_takesFrame 83 = .ok (.iload_n 2, 1) := by decide +kernel
theorem dX12_takesFrame_84 : decode cX12_takesFrame 84 = .ok (.bipush 11, 2) := by decide +kernel
theorem dX12_takesFrame_86 : decode cX12_takesFrame 86 = .ok (.iconst 1, 1) := by decide +kernel
theorem dX12_takesFrame_87 : decode cX12_takesFrame 87 = .ok (.invokevirtual 201, 3) := by decide +kernel
theorem dX12_takesFrame_90 : decode cX12_takesFrame 90 = .ok (.aload_n 0, 1) := by decide +kernel
theorem dX12_takesFrame_91 : decode cX12_takesFrame 91 = .ok (.iload_n 2, 1) := by decide +kernel
theorem dX12_takesFrame_92 : decode cX12_takesFrame 92 = .ok (.bipush 11, 2) := by decide +kernel
theorem dX12_takesFrame_94 : decode cX12_takesFrame 94 = .ok (.invokevirtual 286, 3) := by decide +kernel
theorem dX12_takesFrame_97 : decode cX12_takesFrame 97 = .ok (.ifCond .ne 5, 3) := by decide +kernel
theorem dX12_takesFrame_100 : decode cX12_takesFrame 100 = .ok (.iconst 5, 1) := by decide +kernel
theorem dX12_takesFrame_101 : decode cX12_takesFrame 101 = .ok (.ireturn, 1) := by decide +kernel
theorem dX12_takesFrame_102 : decode cX12_takesFrame 102 = .ok (.aload_n 0, 1) := by decide +kernel
theorem dX12_takesFrame_103 : decode cX12_takesFrame 103 = .ok (.invokevirtual 352, 3) := by decide +kernel
theorem dX12_takesFrame_106 : decode cX12_takesFrame 106 = .ok (.istore 5, 2) := by decide +kernel
theorem dX12_takesFrame_108 : decode cX12_takesFrame 108 = .ok (.aload_n 0, 1) := by decide +kernel
theorem dX12_takesFrame_109 : decode cX12_takesFrame 109 = .ok (.iload_n 2, 1) := by decide +kernel
theorem dX12_takesFrame_110 : decode cX12_takesFrame 110 = .ok (.bipush 9, 2) := by decide +kernel
theorem dX12_takesFrame_112 : decode cX12_takesFrame 112 = .ok (.invokevirtual 286, 3) := by decide +kernel
theorem dX12_takesFrame_115 : decode cX12_takesFrame 115 = .ok (.iload 5, 2) := by decide +kernel
theorem dX12_takesFrame_117 : decode cX12_takesFrame 117 = .ok (.iadd, 1) := by decide +kernel
theorem dX12_takesFrame_118 : decode cX12_takesFrame 118 = .ok (.bipush 120, 2) := by decide +kernel
theorem dX12_takesFrame_120 : decode cX12_takesFrame 120 = .ok (.if_icmp .le 10, 3) := by decide +kernel
theorem dX12_takesFrame_123 : decode cX12_takesFrame 123 = .ok (.aload_n 0, 1) := by decide +kernel
theorem dX12_takesFrame_124 : decode cX12_takesFrame 124 = .ok (.iload_n 2, 1) := by decide +kernel
theorem dX12_takesFrame_125 : decode cX12_takesFrame 125 = .ok (.invokevirtual 346, 3) := by decide +kernel
theorem dX12_takesFrame_128 : decode cX12_takesFrame 128 = .ok (.iconst 5, 1) := by decide +kernel
theorem dX12_takesFrame_129 : decode cX12_takesFrame 129 = .ok (.ireturn, 1) := by decide +kernel
theorem dX12_takesFrame_130 : decode cX12_takesFrame 130 = .ok (.iconst 0, 1) := by decide +kernel
theorem dX12_takesFrame_131 : decode cX12_takesFrame 131 = .ok (.istore 6, 2) := by decide +kernel
theorem dX12_takesFrame_133 : decode cX12_takesFrame 133 = .ok (.iload 6, 2) := by decide +kernel
theorem dX12_takesFrame_135 : decode cX12_takesFrame 135 = .ok (.iload 5, 2) := by decide +kernel
theorem dX12_takesFrame_137 : decode cX12_takesFrame 137 = .ok (.if_icmp .ge 37, 3) := by decide +kernel
theorem dX12_takesFrame_140 : decode cX12_takesFrame 140 = .ok (.aload_n 0, 1) := by decide +kernel
theorem dX12_takesFrame_141 : decode cX12_takesFrame 141 = .ok (.iload_n 2, 1) := by decide +kernel
theorem dX12_takesFrame_142 : decode cX12_takesFrame 142 = .ok (.sipush 980, 3) := by decide +kernel
theorem dX12_takesFrame_145 : decode cX12_takesFrame 145 = .ok (.aload_n 0, 1) := by decide +kernel
theorem dX12_takesFrame_146 : decode cX12_takesFrame 146 = .ok (.iload_n 2, 1) := by decide +kernel
theorem dX12_takesFrame_147 : decode cX12_takesFrame 147 = .ok (.bipush 9, 2) := by decide +kernel
theorem dX12_takesFrame_149 : decode cX12_takesFrame 149 = .ok (.invokevirtual 286, 3) := by decide +kernel
theorem dX12_takesFrame_152 : decode cX12_takesFrame 152 = .ok (.iadd, 1) := by decide +kernel
theorem dX12_takesFrame_153 : decode cX12_takesFrame 153 = .ok (.iload 6, 2) := by decide +kernel
theorem dX12_takesFrame_155 : decode cX12_takesFrame 155 = .ok (.iadd, 1) := by decide +kernel
theorem dX12_takesFrame_156 : decode cX12_takesFrame 156 = .ok (.aload_n 0, 1) := by decide +kernel
theorem dX12_takesFrame_157 : decode cX12_takesFrame 157 = .ok (.getfield 29, 3) := by decide +kernel
theorem dX12_takesFrame_160 : decode cX12_takesFrame 160 = .ok (.iconst 1, 1) := by decide +kernel
theorem dX12_takesFrame_161 : decode cX12_takesFrame 161 = .ok (.iload 6, 2) := by decide +kernel
theorem dX12_takesFrame_163 : decode cX12_takesFrame 163 = .ok (.iadd, 1) := by decide +kernel
theorem dX12_takesFrame_164 : decode cX12_takesFrame 164 = .ok (.iaload, 1) := by decide +kernel
theorem dX12_takesFrame_165 : decode cX12_takesFrame 165 = .ok (.invokevirtual 201, 3) := by decide +kernel
theorem dX12_takesFrame_168 : decode cX12_takesFrame 168 = .ok (.iinc 6 1, 3) := by decide +kernel
theorem dX12_takesFrame_171 : decode cX12_takesFrame 171 = .ok (.goto (-38), 3) := by decide +kernel
theorem dX12_takesFrame_174 : decode cX12_takesFrame 174 = .ok (.aload_n 0, 1) := by decide +kernel
theorem dX12_takesFrame_175 : decode cX12_takesFrame 175 = .ok (.iload_n 2, 1) := by decide +kernel
theorem dX12_takesFrame_176 : decode cX12_takesFrame 176 = .ok (.bipush 9, 2) := by decide +kernel
theorem dX12_takesFrame_178 : decode cX12_takesFrame 178 = .ok (.iload 5, 2) := by decide +kernel
theorem dX12_takesFrame_180 : decode cX12_takesFrame 180 = .ok (.invokevirtual 295, 3) := by decide +kernel
theorem dX12_takesFrame_183 : decode cX12_takesFrame 183 = .ok (.aload_n 0, 1) := by decide +kernel
theorem dX12_takesFrame_184 : decode cX12_takesFrame 184 = .ok (.iload_n 2, 1) := by decide +kernel
theorem dX12_takesFrame_185 : decode cX12_takesFrame 185 = .ok (.bipush 8, 2) := by decide +kernel
theorem dX12_takesFrame_187 : decode cX12_takesFrame 187 = .ok (.iconst 1, 1) := by decide +kernel
theorem dX12_takesFrame_188 : decode cX12_takesFrame 188 = .ok (.invokevirtual 295, 3) := by decide +kernel
theorem dX12_takesFrame_191 : decode cX12_takesFrame 191 = .ok (.iload_n 1, 1) := by decide +kernel
theorem dX12_takesFrame_192 : decode cX12_takesFrame 192 = .ok (.bipush 16, 2) := by decide +kernel
theorem dX12_takesFrame_194 : decode cX12_takesFrame 194 = .ok (.iand, 1) := by decide +kernel
theorem dX12_takesFrame_195 : decode cX12_takesFrame 195 = .ok (.ifCond .eq 11, 3) := by decide +kernel
theorem dX12_takesFrame_198 : decode cX12_takesFrame 198 = .ok (.aload_n 0, 1) := by decide +kernel
theorem dX12_takesFrame_199 : decode cX12_takesFrame 199 = .ok (.iload_n 2, 1) := by decide +kernel
theorem dX12_takesFrame_200 : decode cX12_takesFrame 200 = .ok (.invokevirtual 355, 3) := by decide +kernel
theorem dX12_takesFrame_203 : decode cX12_takesFrame 203 = .ok (.goto 4, 3) := by decide +kernel
theorem dX12_takesFrame_206 : decode cX12_takesFrame 206 = .ok (.iconst 0, 1) := by decide +kernel
theorem dX12_takesFrame_207 : decode cX12_takesFrame 207 = .ok (.ireturn, 1) := by decide +kernel
theorem dX12_event_0 : decode cX12_event 0 = .ok (.sipush 199, 3) := by decide +kernel
theorem dX12_event_3 : decode cX12_event 3 = .ok (.istore 6, 2) := by decide +kernel
theorem dX12_event_5 : decode cX12_event 5 = .ok (.iload 6, 2) := by decide +kernel
theorem dX12_event_7 : decode cX12_event 7 = .ok (.iconst 5, 1) := by decide +kernel
theorem dX12_event_8 : decode cX12_event 8 = .ok (.if_icmp .lt 33, 3) := by decide +kernel
theorem dX12_event_11 : decode cX12_event 11 = .ok (.aload_n 0, 1) := by decide +kernel
theorem dX12_event_12 : decode cX12_event 12 = .ok (.getfield 16, 3) := by decide +kernel
theorem dX12_event_15 : decode cX12_event 15 = .ok (.sipush 805, 3) := by decide +kernel
theorem dX12_event_18 : decode cX12_event 18 = .ok (.iload 6, 2) := by decide +kernel
theorem dX12_event_20 : decode cX12_event 20 = .ok (.iadd, 1) := by decide +kernel
theorem dX12_event_21 : decode cX12_event 21 = .ok (.aload_n 0, 1) := by decide +kernel
theorem dX12_event_22 : decode cX12_event 22 = .ok (.getfield 16, 3) := by decide +kernel
theorem dX12_event_25 : decode cX12_event 25 = .ok (.sipush 805, 3) := by decide +kernel
theorem dX12_event_28 : decode cX12_event 28 = .ok (.iload 6, 2) := by decide +kernel
theorem dX12_event_30 : decode cX12_event 30 = .ok (.iadd, 1) := by decide +kernel
theorem dX12_event_31 : decode cX12_event 31 = .ok (.iconst 5, 1) := by decide +kernel
theorem dX12_event_32 : decode cX12_event 32 = .ok (.isub, 1) := by decide +kernel
theorem dX12_event_33 : decode cX12_event 33 = .ok (.iaload, 1) := by decide +kernel
theorem dX12_event_34 : decode cX12_event 34 = .ok (.iastore, 1) := by decide +kernel
theorem dX12_event_35 : decode cX12_event 35 = .ok (.iinc 6 (-1), 3) := by decide +kernel
theorem dX12_event_38 : decode cX12_event 38 = .ok (.goto (-33), 3) := by decide +kernel
theorem dX12_event_41 : decode cX12_event 41 = .ok (.aload_n 0, 1) := by decide +kernel
theorem dX12_event_42 : decode cX12_event 42 = .ok (.getfield 16, 3) := by decide +kernel
theorem dX12_event_45 : decode cX12_event 45 = .ok (.sipush 805, 3) := by decide +kernel
theorem dX12_event_48 : decode cX12_event 48 = .ok (.iload_n 1, 1) := by decide +kernel
theorem dX12_event_49 : decode cX12_event 49 = .ok (.iastore, 1) := by decide +kernel
theorem dX12_event_50 : decode cX12_event 50 = .ok (.aload_n 0, 1) := by decide +kernel
theorem dX12_event_51 : decode cX12_event 51 = .ok (.getfield 16, 3) := by decide +kernel
theorem dX12_event_54 : decode cX12_event 54 = .ok (.sipush 806, 3) := by decide +kernel
theorem dX12_event_57 : decode cX12_event 57 = .ok (.iload_n 2, 1) := by decide +kernel
theorem dX12_event_58 : decode cX12_event 58 = .ok (.iastore, 1) := by decide +kernel
theorem dX12_event_59 : decode cX12_event 59 = .ok (.aload_n 0, 1) := by decide +kernel
theorem dX12_event_60 : decode cX12_event 60 = .ok (.getfield 16, 3) := by decide +kernel
theorem dX12_event_63 : decode cX12_event 63 = .ok (.sipush 807, 3) := by decide +kernel
theorem dX12_event_66 : decode cX12_event 66 = .ok (.iload_n 3, 1) := by decide +kernel
theorem dX12_event_67 : decode cX12_event 67 = .ok (.iastore, 1) := by decide +kernel
theorem dX12_event_68 : decode cX12_event 68 = .ok (.aload_n 0, 1) := by decide +kernel
theorem dX12_event_69 : decode cX12_event 69 = .ok (.getfield 16, 3) := by decide +kernel
theorem dX12_event_72 : decode cX12_event 72 = .ok (.sipush 808, 3) := by decide +kernel
theorem dX12_event_75 : decode cX12_event 75 = .ok (.iload 4, 2) := by decide +kernel
theorem dX12_event_77 : decode cX12_event 77 = .ok (.iastore, 1) := by decide +kernel
theorem dX12_event_78 : decode cX12_event 78 = .ok (.aload_n 0, 1) := by decide +kernel
theorem dX12_event_79 : decode cX12_event 79 = .ok (.getfield 16, 3) := by decide +kernel
theorem dX12_event_82 : decode cX12_event 82 = .ok (.sipush 809, 3) := by decide +kernel
theorem dX12_event_85 : decode cX12_event 85 = .ok (.iload 5, 2) := by decide +kernel
theorem dX12_event_87 : decode cX12_event 87 = .ok (.iastore, 1) := by decide +kernel
theorem dX12_event_88 : decode cX12_event 88 = .ok (.aload_n 0, 1) := by decide +kernel
theorem dX12_event_89 : decode cX12_event 89 = .ok (.getfield 16, 3) := by decide +kernel
theorem dX12_event_92 : decode cX12_event 92 = .ok (.sipush 804, 3) := by decide +kernel
theorem dX12_event_95 : decode cX12_event 95 = .ok (.dup2, 1) := by decide +kernel
theorem dX12_event_96 : decode cX12_event 96 = .ok (.iaload, 1) := by decide +kernel
theorem dX12_event_97 : decode cX12_event 97 = .ok (.iconst 1, 1) := by decide +kernel
theorem dX12_event_98 : decode cX12_event 98 = .ok (.iadd, 1) := by decide +kernel
theorem dX12_event_99 : decode cX12_event 99 = .ok (.iastore, 1) := by decide +kernel
theorem dX12_event_100 : decode cX12_event 100 = .ok (.return_, 1) := by decide +kernel
theorem dX12_marks_0 : decode cX12_marks 0 = .ok (.aload_n 0, 1) := by decide +kernel
theorem dX12_marks_1 : decode cX12_marks 1 = .ok (.getfield 16, 3) := by decide +kernel
theorem dX12_marks_4 : decode cX12_marks 4 = .ok (.sipush 601, 3) := by decide +kernel
theorem dX12_marks_7 : decode cX12_marks 7 = .ok (.iaload, 1) := by decide +kernel
theorem dX12_marks_8 : decode cX12_marks 8 = .ok (.istore_n 1, 1) := by decide +kernel
theorem dX12_marks_9 : decode cX12_marks 9 = .ok (.aload_n 0, 1) := by decide +kernel
theorem dX12_marks_10 : decode cX12_marks 10 = .ok (.getfield 16, 3) := by decide +kernel
theorem dX12_marks_13 : decode cX12_marks 13 = .ok (.sipush 602, 3) := by decide +kernel
theorem dX12_marks_16 : decode cX12_marks 16 = .ok (.iaload, 1) := by decide +kernel
theorem dX12_marks_17 : decode cX12_marks 17 = .ok (.iconst 1, 1) := by decide +kernel
theorem dX12_marks_18 : decode cX12_marks 18 = .ok (.if_icmp .ne 7, 3) := by decide +kernel
theorem dX12_marks_21 : decode cX12_marks 21 = .ok (.iconst 1, 1) := by decide +kernel
theorem dX12_marks_22 : decode cX12_marks 22 = .ok (.goto 4, 3) := by decide +kernel
theorem dX12_marks_25 : decode cX12_marks 25 = .ok (.iconst 0, 1) := by decide +kernel
theorem dX12_marks_26 : decode cX12_marks 26 = .ok (.istore_n 2, 1) := by decide +kernel
theorem dX12_marks_27 : decode cX12_marks 27 = .ok (.iload_n 1, 1) := by decide +kernel
theorem dX12_marks_28 : decode cX12_marks 28 = .ok (.ifCond .le 106, 3) := by decide +kernel
theorem dX12_marks_31 : decode cX12_marks 31 = .ok (.iconst 0, 1) := by decide +kernel
theorem dX12_marks_32 : decode cX12_marks 32 = .ok (.istore_n 3, 1) := by decide +kernel
theorem dX12_marks_33 : decode cX12_marks 33 = .ok (.iload_n 3, 1) := by decide +kernel
theorem dX12_marks_34 : decode cX12_marks 34 = .ok (.iload_n 1, 1) := by decide +kernel
theorem dX12_marks_35 : decode cX12_marks 35 = .ok (.if_icmp .ge 25, 3) := by decide +kernel
theorem dX12_marks_38 : decode cX12_marks 38 = .ok (.aload_n 0, 1) := by decide +kernel
theorem dX12_marks_39 : decode cX12_marks 39 = .ok (.getfield 32, 3) := by decide +kernel
theorem dX12_marks_42 : decode cX12_marks 42 = .ok (.iload_n 3, 1) := by decide +kernel
theorem dX12_marks_43 : decode cX12_marks 43 = .ok (.aload_n 0, 1) := by decide +kernel
theorem dX12_marks_44 : decode cX12_marks 44 = .ok (.getfield 16, 3) := by decide +kernel
theorem dX12_marks_47 : decode cX12_marks 47 = .ok (.sipush 603, 3) := by decide +kernel
theorem dX12_marks_50 : decode cX12_marks 50 = .ok (.iload_n 3, 1) := by decide +kernel
theorem dX12_marks_51 : decode cX12_marks 51 = .ok (.iadd, 1) := by decide +kernel
theorem dX12_marks_52 : decode cX12_marks 52 = .ok (.iaload, 1) := by decide +kernel
theorem dX12_marks_53 : decode cX12_marks 53 = .ok (.iastore, 1) := by decide +kernel
theorem dX12_marks_54 : decode cX12_marks 54 = .ok (.iinc 3 1, 3) := by decide +kernel
theorem dX12_marks_57 : decode cX12_marks 57 = .ok (.goto (-24), 3) := by decide +kernel
theorem dX12_marks_60 : decode cX12_marks 60 = .ok (.aload_n 0, 1) := by decide +kernel
theorem dX12_marks_61 : decode cX12_marks 61 = .ok (.iload_n 1, 1) := by decide +kernel
theorem dX12_marks_62 : decode cX12_marks 62 = .ok (.putfield 214, 3) := by decide +kernel
theorem dX12_marks_65 : decode cX12_marks 65 = .ok (.aload_n 0, 1) := by decide +kernel
theorem dX12_marks_66 : decode cX12_marks 66 = .ok (.iload_n 2, 1) := by decide +kernel
theorem dX12_marks_67 : decode cX12_marks 67 = .ok (.invokevirtual 357, 3) := by decide +kernel
theorem dX12_marks_70 : decode cX12_marks 70 = .ok (.istore_n 3, 1) := by decide +kernel
theorem dX12_marks_71 : decode cX12_marks 71 = .ok (.iload_n 3, 1) := by decide +kernel
theorem dX12_marks_72 : decode cX12_marks 72 = .ok (.iconst 2, 1) := by decide +kernel
theorem dX12_marks_73 : decode cX12_marks 73 = .ok (.if_icmp .eq 8, 3) := by decide +kernel
theorem dX12_marks_76 : decode cX12_marks 76 = .ok (.iload_n 3, 1) := by decide +kernel
theorem dX12_marks_77 : decode cX12_marks 77 = .ok (.iconst 3, 1) := by decide +kernel
theorem dX12_marks_78 : decode cX12_marks 78 = .ok (.if_icmp .ne 15, 3) := by decide +kernel
theorem dX12_marks_81 : decode cX12_marks 81 = .ok (.aload_n 0, 1) := by decide +kernel
theorem dX12_marks_82 : decode cX12_marks 82 = .ok (.iload_n 3, 1) := by decide +kernel
theorem dX12_marks_83 : decode cX12_marks 83 = .ok (.iconst (-1), 1) := by decide +kernel
theorem dX12_marks_84 : decode cX12_marks 84 = .ok (.iload_n 1, 1) := by decide +kernel
theorem dX12_marks_85 : decode cX12_marks 85 = .ok (.iconst (-1), 1) := by decide +kernel
theorem dX12_marks_86 : decode cX12_marks 86 = .ok (.iconst (-1), 1) := by decide +kernel
theorem dX12_marks_87 : decode cX12_marks 87 = .ok (.invokevirtual 361, 3) := by decide +kernel
theorem dX12_marks_90 : decode cX12_marks 90 = .ok (.goto 44, 3) := by decide +kernel
theorem dX12_marks_93 : decode cX12_marks 93 = .ok (.aload_n 0, 1) := by decide +kernel
theorem dX12_marks_94 : decode cX12_marks 94 = .ok (.getfield 29, 3) := by decide +kernel
theorem dX12_marks_97 : decode cX12_marks 97 = .ok (.iconst 0, 1) := by decide +kernel
theorem dX12_marks_98 : decode cX12_marks 98 = .ok (.iaload, 1) := by decide +kernel
theorem dX12_marks_99 : decode cX12_marks 99 = .ok (.istore 4, 2) := by decide +kernel
theorem dX12_marks_101 : decode cX12_marks 101 = .ok (.aload_n 0, 1) := by decide +kernel
theorem dX12_marks_102 : decode cX12_marks 102 = .ok (.invokevirtual 352, 3) := by decide +kernel
theorem dX12_marks_105 : decode cX12_marks 105 = .ok (.istore 5, 2) := by decide +kernel
theorem dX12_marks_107 : decode cX12_marks 107 = .ok (.aload_n 0, 1) := by decide +kernel
theorem dX12_marks_108 : decode cX12_marks 108 = .ok (.iload_n 3, 1) := by decide +kernel
theorem dX12_marks_109 : decode cX12_marks 109 = .ok (.iconst 4, 1) := by decide +kernel
theorem dX12_marks_110 : decode cX12_marks 110 = .ok (.if_icmp .ne 7, 3) := by decide +kernel
theorem dX12_marks_113 : decode cX12_marks 113 = .ok (.iconst 4, 1) := by decide +kernel
theorem dX12_marks_114 : decode cX12_marks 114 = .ok (.goto 7, 3) := by decide +kernel
theorem dX12_marks_117 : decode cX12_marks 117 = .ok (.aload_n 0, 1) := by decide +kernel
theorem dX12_marks_118 : decode cX12_marks 118 = .ok (.invokevirtual 365, 3) := by decide +kernel
theorem dX12_marks_121 : decode cX12_marks 121 = .ok (.iload 4, 2) := by decide +kernel
theorem dX12_marks_123 : decode cX12_marks 123 = .ok (.iload_n 1, 1) := by decide +kernel
theorem dX12_marks_124 : decode cX12_marks 124 = .ok (.iload 5, 2) := by decide +kernel
theorem dX12_marks_126 : decode cX12_marks 126 = .ok (.iload 4, 2) := by decide +kernel
theorem dX12_marks_128 : decode cX12_marks 128 = .ok (.bipush 64, 2) := by decide +kernel
theorem dX12_marks_130 : decode cX12_marks 130 = .ok (.idiv, 1) := by decide +kernel
theorem dX12_marks_131 : decode cX12_marks 131 = .ok (.invokevirtual 361, 3) := by decide +kernel
theorem dX12_marks_134 : decode cX12_marks 134 = .ok (.aload_n 0, 1) := by decide +kernel
theorem dX12_marks_135 : decode cX12_marks 135 = .ok (.getfield 16, 3) := by decide +kernel
theorem dX12_marks_138 : decode cX12_marks 138 = .ok (.sipush 601, 3) := by decide +kernel
theorem dX12_marks_141 : decode cX12_marks 141 = .ok (.iconst 0, 1) := by decide +kernel
theorem dX12_marks_142 : decode cX12_marks 142 = .ok (.iastore, 1) := by decide +kernel
theorem dX12_marks_143 : decode cX12_marks 143 = .ok (.aload_n 0, 1) := by decide +kernel
theorem dX12_marks_144 : decode cX12_marks 144 = .ok (.getfield 16, 3) := by decide +kernel
theorem dX12_marks_147 : decode cX12_marks 147 = .ok (.sipush 602, 3) := by decide +kernel
theorem dX12_marks_150 : decode cX12_marks 150 = .ok (.iconst 0, 1) := by decide +kernel
theorem dX12_marks_151 : decode cX12_marks 151 = .ok (.iastore, 1) := by decide +kernel
theorem dX12_marks_152 : decode cX12_marks 152 = .ok (.return_, 1) := by decide +kernel
theorem dX12_readsByte_0 : decode cX12_readsByte 0 = .ok (.iload_n 1, 1) := by decide +kernel
theorem dX12_readsByte_1 : decode cX12_readsByte 1 = .ok (.ifCond .ne 10, 3) := by decide +kernel
theorem dX12_readsByte_4 : decode cX12_readsByte 4 = .ok (.aload_n 0, 1) := by decide +kernel
theorem dX12_readsByte_5 : decode cX12_readsByte 5 = .ok (.invokevirtual 368, 3) := by decide +kernel
theorem dX12_readsByte_8 : decode cX12_readsByte 8 = .ok (.goto 59, 3) := by decide +kernel
theorem dX12_readsByte_11 : decode cX12_readsByte 11 = .ok (.aload_n 0, 1) := by decide +kernel
theorem dX12_readsByte_12 : decode cX12_readsByte 12 = .ok (.getfield 16, 3) := by decide +kernel
theorem dX12_readsByte_15 : decode cX12_readsByte 15 = .ok (.sipush 601, 3) := by decide +kernel
theorem dX12_readsByte_18 : decode cX12_readsByte 18 = .ok (.iaload, 1) := by decide +kernel
theorem dX12_readsByte_19 : decode cX12_readsByte 19 = .ok (.sipush 200, 3) := by decide +kernel
theorem dX12_readsByte_22 : decode cX12_readsByte 22 = .ok (.if_icmp .ne 15, 3) := by decide +kernel
theorem dX12_readsByte_25 : decode cX12_readsByte 25 = .ok (.aload_n 0, 1) := by decide +kernel
theorem dX12_readsByte_26 : decode cX12_readsByte 26 = .ok (.getfield 16, 3) := by decide +kernel
theorem dX12_readsByte_29 : decode cX12_readsByte 29 = .ok (.sipush 602, 3) := by decide +kernel
theorem dX12_readsByte_32 : decode cX12_readsByte 32 = .ok (.iconst 1, 1) := by decide +kernel
theorem dX12_readsByte_33 : decode cX12_readsByte 33 = .ok (.iastore, 1) := by decide +kernel
theorem dX12_readsByte_34 : decode cX12_readsByte 34 = .ok (.goto 33, 3) := by decide +kernel
theorem dX12_readsByte_37 : decode cX12_readsByte 37 = .ok (.aload_n 0, 1) := by decide +kernel
theorem dX12_readsByte_38 : decode cX12_readsByte 38 = .ok (.getfield 16, 3) := by decide +kernel
theorem dX12_readsByte_41 : decode cX12_readsByte 41 = .ok (.sipush 603, 3) := by decide +kernel
theorem dX12_readsByte_44 : decode cX12_readsByte 44 = .ok (.aload_n 0, 1) := by decide +kernel
theorem dX12_readsByte_45 : decode cX12_readsByte 45 = .ok (.getfield 16, 3) := by decide +kernel
theorem dX12_readsByte_48 : decode cX12_readsByte 48 = .ok (.sipush 601, 3) := by decide +kernel
theorem dX12_readsByte_51 : decode cX12_readsByte 51 = .ok (.iaload, 1) := by decide +kernel
theorem dX12_readsByte_52 : decode cX12_readsByte 52 = .ok (.iadd, 1) := by decide +kernel
theorem dX12_readsByte_53 : decode cX12_readsByte 53 = .ok (.iload_n 1, 1) := by decide +kernel
theorem dX12_readsByte_54 : decode cX12_readsByte 54 = .ok (.iastore, 1) := by decide +kernel
theorem dX12_readsByte_55 : decode cX12_readsByte 55 = .ok (.aload_n 0, 1) := by decide +kernel
theorem dX12_readsByte_56 : decode cX12_readsByte 56 = .ok (.getfield 16, 3) := by decide +kernel
theorem dX12_readsByte_59 : decode cX12_readsByte 59 = .ok (.sipush 601, 3) := by decide +kernel
theorem dX12_readsByte_62 : decode cX12_readsByte 62 = .ok (.dup2, 1) := by decide +kernel
theorem dX12_readsByte_63 : decode cX12_readsByte 63 = .ok (.iaload, 1) := by decide +kernel
theorem dX12_readsByte_64 : decode cX12_readsByte 64 = .ok (.iconst 1, 1) := by decide +kernel
theorem dX12_readsByte_65 : decode cX12_readsByte 65 = .ok (.iadd, 1) := by decide +kernel
theorem dX12_readsByte_66 : decode cX12_readsByte 66 = .ok (.iastore, 1) := by decide +kernel
theorem dX12_readsByte_67 : decode cX12_readsByte 67 = .ok (.return_, 1) := by decide +kernel
theorem dX12_readsBytes_0 : decode cX12_readsBytes 0 = .ok (.iconst 0, 1) := by decide +kernel
theorem dX12_readsBytes_1 : decode cX12_readsBytes 1 = .ok (.istore_n 2, 1) := by decide +kernel
theorem dX12_readsBytes_2 : decode cX12_readsBytes 2 = .ok (.iload_n 2, 1) := by decide +kernel
theorem dX12_readsBytes_3 : decode cX12_readsBytes 3 = .ok (.iload_n 1, 1) := by decide +kernel
theorem dX12_readsBytes_4 : decode cX12_readsBytes 4 = .ok (.if_icmp .ge 21, 3) := by decide +kernel
theorem dX12_readsBytes_7 : decode cX12_readsBytes 7 = .ok (.aload_n 0, 1) := by decide +kernel
theorem dX12_readsBytes_8 : decode cX12_readsBytes 8 = .ok (.aload_n 0, 1) := by decide +kernel
theorem dX12_readsBytes_9 : decode cX12_readsBytes 9 = .ok (.getfield 16, 3) := by decide +kernel
theorem dX12_readsBytes_12 : decode cX12_readsBytes 12 = .ok (.iconst 1, 1) := by decide +kernel
theorem dX12_readsBytes_13 : decode cX12_readsBytes 13 = .ok (.iload_n 2, 1) := by decide +kernel
theorem dX12_readsBytes_14 : decode cX12_readsBytes 14 = .ok (.iadd, 1) := by decide +kernel
theorem dX12_readsBytes_15 : decode cX12_readsBytes 15 = .ok (.iaload, 1) := by decide +kernel
theorem dX12_readsBytes_16 : decode cX12_readsBytes 16 = .ok (.invokevirtual 371, 3) := by decide +kernel
theorem dX12_readsBytes_19 : decode cX12_readsBytes 19 = .ok (.iinc 2 1, 3) := by decide +kernel
theorem dX12_readsBytes_22 : decode cX12_readsBytes 22 = .ok (.goto (-20), 3) := by decide +kernel
theorem dX12_readsBytes_25 : decode cX12_readsBytes 25 = .ok (.iload_n 1, 1) := by decide +kernel
theorem dX12_readsBytes_26 : decode cX12_readsBytes 26 = .ok (.istore_n 2, 1) := by decide +kernel
theorem dX12_readsBytes_27 : decode cX12_readsBytes 27 = .ok (.iload_n 2, 1) := by decide +kernel
theorem dX12_readsBytes_28 : decode cX12_readsBytes 28 = .ok (.aload_n 0, 1) := by decide +kernel
theorem dX12_readsBytes_29 : decode cX12_readsBytes 29 = .ok (.getfield 16, 3) := by decide +kernel
theorem dX12_readsBytes_32 : decode cX12_readsBytes 32 = .ok (.iconst 0, 1) := by decide +kernel
theorem dX12_readsBytes_33 : decode cX12_readsBytes 33 = .ok (.iaload, 1) := by decide +kernel
theorem dX12_readsBytes_34 : decode cX12_readsBytes 34 = .ok (.if_icmp .ge 27, 3) := by decide +kernel
theorem dX12_readsBytes_37 : decode cX12_readsBytes 37 = .ok (.aload_n 0, 1) := by decide +kernel
theorem dX12_readsBytes_38 : decode cX12_readsBytes 38 = .ok (.getfield 16, 3) := by decide +kernel
theorem dX12_readsBytes_41 : decode cX12_readsBytes 41 = .ok (.iconst 1, 1) := by decide +kernel
theorem dX12_readsBytes_42 : decode cX12_readsBytes 42 = .ok (.iload_n 2, 1) := by decide +kernel
theorem dX12_readsBytes_43 : decode cX12_readsBytes 43 = .ok (.iadd, 1) := by decide +kernel
theorem dX12_readsBytes_44 : decode cX12_readsBytes 44 = .ok (.iload_n 1, 1) := by decide +kernel
theorem dX12_readsBytes_45 : decode cX12_readsBytes 45 = .ok (.isub, 1) := by decide +kernel
theorem dX12_readsBytes_46 : decode cX12_readsBytes 46 = .ok (.aload_n 0, 1) := by decide +kernel
theorem dX12_readsBytes_47 : decode cX12_readsBytes 47 = .ok (.getfield 16, 3) := by decide +kernel
theorem dX12_readsBytes_50 : decode cX12_readsBytes 50 = .ok (.iconst 1, 1) := by decide +kernel
theorem dX12_readsBytes_51 : decode cX12_readsBytes 51 = .ok (.iload_n 2, 1) := by decide +kernel
theorem dX12_readsBytes_52 : decode cX12_readsBytes 52 = .ok (.iadd, 1) := by decide +kernel
theorem dX12_readsBytes_53 : decode cX12_readsBytes 53 = .ok (.iaload, 1) := by decide +kernel
theorem dX12_readsBytes_54 : decode cX12_readsBytes 54 = .ok (.iastore, 1) := by decide +kernel
theorem dX12_readsBytes_55 : decode cX12_readsBytes 55 = .ok (.iinc 2 1, 3) := by decide +kernel
theorem dX12_readsBytes_58 : decode cX12_readsBytes 58 = .ok (.goto (-31), 3) := by decide +kernel
theorem dX12_readsBytes_61 : decode cX12_readsBytes 61 = .ok (.aload_n 0, 1) := by decide +kernel
theorem dX12_readsBytes_62 : decode cX12_readsBytes 62 = .ok (.getfield 16, 3) := by decide +kernel
theorem dX12_readsBytes_65 : decode cX12_readsBytes 65 = .ok (.iconst 0, 1) := by decide +kernel
theorem dX12_readsBytes_66 : decode cX12_readsBytes 66 = .ok (.dup2, 1) := by decide +kernel
theorem dX12_readsBytes_67 : decode cX12_readsBytes 67 = .ok (.iaload, 1) := by decide +kernel
theorem dX12_readsBytes_68 : decode cX12_readsBytes 68 = .ok (.iload_n 1, 1) := by decide +kernel
theorem dX12_readsBytes_69 : decode cX12_readsBytes 69 = .ok (.isub, 1) := by decide +kernel
theorem dX12_readsBytes_70 : decode cX12_readsBytes 70 = .ok (.iastore, 1) := by decide +kernel
theorem dX12_readsBytes_71 : decode cX12_readsBytes 71 = .ok (.return_, 1) := by decide +kernel
theorem dX12_read_0 : decode cX12_read 0 = .ok (.aload_n 0, 1) := by decide +kernel
theorem dX12_read_1 : decode cX12_read 1 = .ok (.iconst 0, 1) := by decide +kernel
theorem dX12_read_2 : decode cX12_read 2 = .ok (.putfield 60, 3) := by decide +kernel
theorem dX12_read_5 : decode cX12_read 5 = .ok (.aload_n 0, 1) := by decide +kernel
theorem dX12_read_6 : decode cX12_read 6 = .ok (.getfield 188, 3) := by decide +kernel
theorem dX12_read_9 : decode cX12_read 9 = .ok (.ifCond .ne 9, 3) := by decide +kernel
theorem dX12_read_12 : decode cX12_read 12 = .ok (.aload_n 0, 1) := by decide +kernel
theorem dX12_read_13 : decode cX12_read 13 = .ok (.iconst 0, 1) := by decide +kernel
theorem dX12_read_14 : decode cX12_read 14 = .ok (.invokevirtual 280, 3) := by decide +kernel
theorem dX12_read_17 : decode cX12_read 17 = .ok (.ireturn, 1) := by decide +kernel
theorem dX12_read_18 : decode cX12_read 18 = .ok (.iload_n 1, 1) := by decide +kernel
theorem dX12_read_19 : decode cX12_read 19 = .ok (.i2l, 1) := by decide +kernel
theorem dX12_read_20 : decode cX12_read 20 = .ok (.lconst 1, 1) := by decide +kernel
theorem dX12_read_21 : decode cX12_read 21 = .ok (.ldc2_w 374, 3) := by decide +kernel
theorem dX12_read_24 : decode cX12_read 24 = .ok (.invokestatic 70, 3) := by decide +kernel
theorem dX12_read_27 : decode cX12_read 27 = .ok (.ifCond .ne 9, 3) := by decide +kernel
theorem dX12_read_30 : decode cX12_read 30 = .ok (.aload_n 0, 1) := by decide +kernel
theorem dX12_read_31 : decode cX12_read 31 = .ok (.iconst 2, 1) := by decide +kernel
theorem dX12_read_32 : decode cX12_read 32 = .ok (.invokevirtual 280, 3) := by decide +kernel
theorem dX12_read_35 : decode cX12_read 35 = .ok (.ireturn, 1) := by decide +kernel
theorem dX12_read_36 : decode cX12_read 36 = .ok (.aload_n 0, 1) := by decide +kernel
theorem dX12_read_37 : decode cX12_read 37 = .ok (.getfield 16, 3) := by decide +kernel
theorem dX12_read_40 : decode cX12_read 40 = .ok (.iconst 0, 1) := by decide +kernel
theorem dX12_read_41 : decode cX12_read 41 = .ok (.iaload, 1) := by decide +kernel
theorem dX12_read_42 : decode cX12_read 42 = .ok (.ifCond .ne 5, 3) := by decide +kernel
theorem dX12_read_45 : decode cX12_read 45 = .ok (.iconst 0, 1) := by decide +kernel
theorem dX12_read_46 : decode cX12_read 46 = .ok (.ireturn, 1) := by decide +kernel
theorem dX12_read_47 : decode cX12_read 47 = .ok (.aload_n 0, 1) := by decide +kernel
theorem dX12_read_48 : decode cX12_read 48 = .ok (.invokevirtual 289, 3) := by decide +kernel
theorem dX12_read_51 : decode cX12_read 51 = .ok (.aload_n 0, 1) := by decide +kernel
theorem dX12_read_52 : decode cX12_read 52 = .ok (.getfield 16, 3) := by decide +kernel
theorem dX12_read_55 : decode cX12_read 55 = .ok (.sipush 804, 3) := by decide +kernel
theorem dX12_read_58 : decode cX12_read 58 = .ok (.iaload, 1) := by decide +kernel
theorem dX12_read_59 : decode cX12_read 59 = .ok (.istore_n 2, 1) := by decide +kernel
theorem dX12_read_60 : decode cX12_read 60 = .ok (.aload_n 0, 1) := by decide +kernel
theorem dX12_read_61 : decode cX12_read 61 = .ok (.iload_n 1, 1) := by decide +kernel
theorem dX12_read_62 : decode cX12_read 62 = .ok (.aload_n 0, 1) := by decide +kernel
theorem dX12_read_63 : decode cX12_read 63 = .ok (.getfield 16, 3) := by decide +kernel
theorem dX12_read_66 : decode cX12_read 66 = .ok (.iconst 0, 1) := by decide +kernel
theorem dX12_read_67 : decode cX12_read 67 = .ok (.iaload, 1) := by decide +kernel
theorem dX12_read_68 : decode cX12_read 68 = .ok (.invokestatic 97, 3) := by decide +kernel
theorem dX12_read_71 : decode cX12_read 71 = .ok (.invokevirtual 376, 3) := by decide +kernel
theorem dX12_read_74 : decode cX12_read 74 = .ok (.aload_n 0, 1) := by decide +kernel
theorem dX12_read_75 : decode cX12_read 75 = .ok (.getfield 16, 3) := by decide +kernel
theorem dX12_read_78 : decode cX12_read 78 = .ok (.sipush 804, 3) := by decide +kernel
theorem dX12_read_81 : decode cX12_read 81 = .ok (.iaload, 1) := by decide +kernel
theorem dX12_read_82 : decode cX12_read 82 = .ok (.iload_n 2, 1) := by decide +kernel
theorem dX12_read_83 : decode cX12_read 83 = .ok (.isub, 1) := by decide +kernel
theorem dX12_read_84 : decode cX12_read 84 = .ok (.ireturn, 1) := by decide +kernel
theorem dX12_event__0 : decode cX12_event_ 0 = .ok (.aload_n 0, 1) := by decide +kernel
theorem dX12_event__1 : decode cX12_event_ 1 = .ok (.iconst 0, 1) := by decide +kernel
theorem dX12_event__2 : decode cX12_event_ 2 = .ok (.putfield 60, 3) := by decide +kernel
theorem dX12_event__5 : decode cX12_event_ 5 = .ok (.aload_n 0, 1) := by decide +kernel
theorem dX12_event__6 : decode cX12_event_ 6 = .ok (.getfield 188, 3) := by decide +kernel
theorem dX12_event__9 : decode cX12_event_ 9 = .ok (.ifCond .eq 57, 3) := by decide +kernel
theorem dX12_event__12 : decode cX12_event_ 12 = .ok (.iload_n 1, 1) := by decide +kernel
theorem dX12_event__13 : decode cX12_event_ 13 = .ok (.i2l, 1) := by decide +kernel
theorem dX12_event__14 : decode cX12_event_ 14 = .ok (.lconst 0, 1) := by decide +kernel
theorem dX12_event__15 : decode cX12_event_ 15 = .ok (.bipush 40, 2) := by decide +kernel
theorem dX12_event__17 : decode cX12_event_ 17 = .ok (.aload_n 0, 1) := by decide +kernel
theorem dX12_event__18 : decode cX12_event_ 18 = .ok (.getfield 16, 3) := by decide +kernel
theorem dX12_event__21 : decode cX12_event_ 21 = .ok (.sipush 804, 3) := by decide +kernel
theorem dX12_event__24 : decode cX12_event_ 24 = .ok (.iaload, 1) := by decide +kernel
theorem dX12_event__25 : decode cX12_event_ 25 = .ok (.invokestatic 97, 3) := by decide +kernel
theorem dX12_event__28 : decode cX12_event_ 28 = .ok (.iconst 1, 1) := by decide +kernel
theorem dX12_event__29 : decode cX12_event_ 29 = .ok (.isub, 1) := by decide +kernel
theorem dX12_event__30 : decode cX12_event_ 30 = .ok (.i2l, 1) := by decide +kernel
theorem dX12_event__31 : decode cX12_event_ 31 = .ok (.invokestatic 70, 3) := by decide +kernel
theorem dX12_event__34 : decode cX12_event_ 34 = .ok (.ifCond .eq 32, 3) := by decide +kernel
theorem dX12_event__37 : decode cX12_event_ 37 = .ok (.iload_n 2, 1) := by decide +kernel
theorem dX12_event__38 : decode cX12_event_ 38 = .ok (.i2l, 1) := by decide +kernel
theorem dX12_event__39 : decode cX12_event_ 39 = .ok (.lconst 0, 1) := by decide +kernel
theorem dX12_event__40 : decode cX12_event_ 40 = .ok (.ldc2_w 379, 3) := by decide +kernel
theorem dX12_event__43 : decode cX12_event_ 43 = .ok (.invokestatic 70, 3) := by decide +kernel
theorem dX12_event__46 : decode cX12_event_ 46 = .ok (.ifCond .eq 20, 3) := by decide +kernel
theorem dX12_event__49 : decode cX12_event_ 49 = .ok (.aload_n 0, 1) := by decide +kernel
theorem dX12_event__50 : decode cX12_event_ 50 = .ok (.getfield 16, 3) := by decide +kernel
theorem dX12_event__53 : decode cX12_event_ 53 = .ok (.sipush 805, 3) := by decide +kernel
theorem dX12_event__56 : decode cX12_event_ 56 = .ok (.iconst 5, 1) := by decide +kernel
theorem dX12_event__57 : decode cX12_event_ 57 = .ok (.iload_n 1, 1) := by decide +kernel
theorem dX12_event__58 : decode cX12_event_ 58 = .ok (.imul, 1) := by decide +kernel
theorem dX12_event__59 : decode cX12_event_ 59 = .ok (.iadd, 1) := by decide +kernel
theorem dX12_event__60 : decode cX12_event_ 60 = .ok (.iload_n 2, 1) := by decide +kernel
theorem dX12_event__61 : decode cX12_event_ 61 = .ok (.iadd, 1) := by decide +kernel
theorem dX12_event__62 : decode cX12_event_ 62 = .ok (.iaload, 1) := by decide +kernel
theorem dX12_event__63 : decode cX12_event_ 63 = .ok (.goto 4, 3) := by decide +kernel
theorem dX12_event__66 : decode cX12_event_ 66 = .ok (.iconst (-1), 1) := by decide +kernel
theorem dX12_event__67 : decode cX12_event_ 67 = .ok (.ireturn, 1) := by decide +kernel
theorem dX12_take_0 : decode cX12_take 0 = .ok (.aload_n 0, 1) := by decide +kernel
theorem dX12_take_1 : decode cX12_take 1 = .ok (.iconst 0, 1) := by decide +kernel
theorem dX12_take_2 : decode cX12_take 2 = .ok (.putfield 60, 3) := by decide +kernel
theorem dX12_take_5 : decode cX12_take 5 = .ok (.aload_n 0, 1) := by decide +kernel
theorem dX12_take_6 : decode cX12_take 6 = .ok (.getfield 188, 3) := by decide +kernel
theorem dX12_take_9 : decode cX12_take 9 = .ok (.ifCond .ne 9, 3) := by decide +kernel
theorem dX12_take_12 : decode cX12_take 12 = .ok (.aload_n 0, 1) := by decide +kernel
theorem dX12_take_13 : decode cX12_take 13 = .ok (.iconst 0, 1) := by decide +kernel
theorem dX12_take_14 : decode cX12_take 14 = .ok (.invokevirtual 280, 3) := by decide +kernel
theorem dX12_take_17 : decode cX12_take 17 = .ok (.ireturn, 1) := by decide +kernel
theorem dX12_take_18 : decode cX12_take 18 = .ok (.aload_n 0, 1) := by decide +kernel
theorem dX12_take_19 : decode cX12_take 19 = .ok (.iload_n 1, 1) := by decide +kernel
theorem dX12_take_20 : decode cX12_take 20 = .ok (.invokevirtual 283, 3) := by decide +kernel
theorem dX12_take_23 : decode cX12_take 23 = .ok (.ifCond .eq 13, 3) := by decide +kernel
theorem dX12_take_26 : decode cX12_take 26 = .ok (.aload_n 0, 1) := by decide +kernel
theorem dX12_take_27 : decode cX12_take 27 = .ok (.iload_n 1, 1) := by decide +kernel
theorem dX12_take_28 : decode cX12_take 28 = .ok (.bipush 7, 2) := by decide +kernel
theorem dX12_take_30 : decode cX12_take 30 = .ok (.invokevirtual 286, 3) := by decide +kernel
theorem dX12_take_33 : decode cX12_take 33 = .ok (.ifCond .ne 9, 3) := by decide +kernel
theorem dX12_take_36 : decode cX12_take 36 = .ok (.aload_n 0, 1) := by decide +kernel
theorem dX12_take_37 : decode cX12_take 37 = .ok (.iconst 1, 1) := by decide +kernel
theorem dX12_take_38 : decode cX12_take 38 = .ok (.invokevirtual 280, 3) := by decide +kernel
theorem dX12_take_41 : decode cX12_take 41 = .ok (.ireturn, 1) := by decide +kernel
theorem dX12_take_42 : decode cX12_take 42 = .ok (.aload_n 0, 1) := by decide +kernel
theorem dX12_take_43 : decode cX12_take 43 = .ok (.invokevirtual 289, 3) := by decide +kernel
theorem dX12_take_46 : decode cX12_take 46 = .ok (.iconst 0, 1) := by decide +kernel
theorem dX12_take_47 : decode cX12_take 47 = .ok (.invokestatic 349, 3) := by decide +kernel
theorem dX12_take_50 : decode cX12_take 50 = .ok (.istore_n 2, 1) := by decide +kernel
theorem dX12_take_51 : decode cX12_take 51 = .ok (.aload_n 0, 1) := by decide +kernel
theorem dX12_take_52 : decode cX12_take 52 = .ok (.aload_n 0, 1) := by decide +kernel
theorem dX12_take_53 : decode cX12_take 53 = .ok (.iload_n 1, 1) := by decide +kernel
theorem dX12_take_54 : decode cX12_take 54 = .ok (.iload_n 2, 1) := by decide +kernel
theorem dX12_take_55 : decode cX12_take 55 = .ok (.invokevirtual 286, 3) := by decide +kernel
theorem dX12_take_58 : decode cX12_take 58 = .ok (.putfield 211, 3) := by decide +kernel
theorem dX12_take_61 : decode cX12_take 61 = .ok (.iconst 0, 1) := by decide +kernel
theorem dX12_take_62 : decode cX12_take 62 = .ok (.istore_n 3, 1) := by decide +kernel
theorem dX12_take_63 : decode cX12_take 63 = .ok (.iload_n 3, 1) := by decide +kernel
theorem dX12_take_64 : decode cX12_take 64 = .ok (.aload_n 0, 1) := by decide +kernel
theorem dX12_take_65 : decode cX12_take 65 = .ok (.getfield 211, 3) := by decide +kernel
theorem dX12_take_68 : decode cX12_take 68 = .ok (.if_icmp .ge 25, 3) := by decide +kernel
theorem dX12_take_71 : decode cX12_take 71 = .ok (.aload_n 0, 1) := by decide +kernel
theorem dX12_take_72 : decode cX12_take 72 = .ok (.getfield 48, 3) := by decide +kernel
theorem dX12_take_75 : decode cX12_take 75 = .ok (.iload_n 3, 1) := by decide +kernel
theorem dX12_take_76 : decode cX12_take 76 = .ok (.aload_n 0, 1) := by decide +kernel
theorem dX12_take_77 : decode cX12_take 77 = .ok (.iload_n 1, 1) := by decide +kernel
theorem dX12_take_78 : decode cX12_take 78 = .ok (.iload_n 2, 1) := by decide +kernel
theorem dX12_take_79 : decode cX12_take 79 = .ok (.iconst 2, 1) := by decide +kernel
theorem dX12_take_80 : decode cX12_take 80 = .ok (.iadd, 1) := by decide +kernel
theorem dX12_take_81 : decode cX12_take 81 = .ok (.iload_n 3, 1) := by decide +kernel
theorem dX12_take_82 : decode cX12_take 82 = .ok (.iadd, 1) := by decide +kernel
theorem dX12_take_83 : decode cX12_take 83 = .ok (.invokevirtual 286, 3) := by decide +kernel
theorem dX12_take_86 : decode cX12_take 86 = .ok (.iastore, 1) := by decide +kernel
theorem dX12_take_87 : decode cX12_take 87 = .ok (.iinc 3 1, 3) := by decide +kernel
theorem dX12_take_90 : decode cX12_take 90 = .ok (.goto (-27), 3) := by decide +kernel
theorem dX12_take_93 : decode cX12_take 93 = .ok (.aload_n 0, 1) := by decide +kernel
theorem dX12_take_94 : decode cX12_take 94 = .ok (.iload_n 1, 1) := by decide +kernel
theorem dX12_take_95 : decode cX12_take 95 = .ok (.iconst 0, 1) := by decide +kernel
theorem dX12_take_96 : decode cX12_take 96 = .ok (.aload_n 0, 1) := by decide +kernel
theorem dX12_take_97 : decode cX12_take 97 = .ok (.getfield 26, 3) := by decide +kernel
theorem dX12_take_100 : decode cX12_take 100 = .ok (.iload_n 1, 1) := by decide +kernel
theorem dX12_take_101 : decode cX12_take 101 = .ok (.iaload, 1) := by decide +kernel
theorem dX12_take_102 : decode cX12_take 102 = .ok (.aload_n 0, 1) := by decide +kernel
theorem dX12_take_103 : decode cX12_take 103 = .ok (.iload_n 1, 1) := by decide +kernel
theorem dX12_take_104 : decode cX12_take 104 = .ok (.iconst 0, 1) := by decide +kernel
theorem dX12_take_105 : decode cX12_take 105 = .ok (.invokevirtual 286, 3) := by decide +kernel
theorem dX12_take_108 : decode cX12_take 108 = .ok (.aload_n 0, 1) := by decide +kernel
theorem dX12_take_109 : decode cX12_take 109 = .ok (.iload_n 1, 1) := by decide +kernel
theorem dX12_take_110 : decode cX12_take 110 = .ok (.iload_n 2, 1) := by decide +kernel
theorem dX12_take_111 : decode cX12_take 111 = .ok (.iconst 1, 1) := by decide +kernel
theorem dX12_take_112 : decode cX12_take 112 = .ok (.iadd, 1) := by decide +kernel
theorem dX12_take_113 : decode cX12_take 113 = .ok (.invokevirtual 286, 3) := by decide +kernel
theorem dX12_take_116 : decode cX12_take 116 = .ok (.iadd, 1) := by decide +kernel
theorem dX12_take_117 : decode cX12_take 117 = .ok (.invokestatic 97, 3) := by decide +kernel
theorem dX12_take_120 : decode cX12_take 120 = .ok (.invokevirtual 201, 3) := by decide +kernel
theorem dX12_take_123 : decode cX12_take 123 = .ok (.iconst 1, 1) := by decide +kernel
theorem dX12_take_124 : decode cX12_take 124 = .ok (.invokestatic 349, 3) := by decide +kernel
theorem dX12_take_127 : decode cX12_take 127 = .ok (.istore_n 3, 1) := by decide +kernel
theorem dX12_take_128 : decode cX12_take 128 = .ok (.iload_n 3, 1) := by decide +kernel
theorem dX12_take_129 : decode cX12_take 129 = .ok (.bipush 8, 2) := by decide +kernel
theorem dX12_take_131 : decode cX12_take 131 = .ok (.invokestatic 349, 3) := by decide +kernel
theorem dX12_take_134 : decode cX12_take 134 = .ok (.if_icmp .ge 26, 3) := by decide +kernel
theorem dX12_take_137 : decode cX12_take 137 = .ok (.aload_n 0, 1) := by decide +kernel
theorem dX12_take_138 : decode cX12_take 138 = .ok (.iload_n 1, 1) := by decide +kernel
theorem dX12_take_139 : decode cX12_take 139 = .ok (.iload_n 3, 1) := by decide +kernel
theorem dX12_take_140 : decode cX12_take 140 = .ok (.bipush 120, 2) := by decide +kernel
theorem dX12_take_142 : decode cX12_take 142 = .ok (.isub, 1) := by decide +kernel
theorem dX12_take_143 : decode cX12_take 143 = .ok (.iconst 2, 1) := by decide +kernel
theorem dX12_take_144 : decode cX12_take 144 = .ok (.isub, 1) := by decide +kernel
theorem dX12_take_145 : decode cX12_take 145 = .ok (.aload_n 0, 1) := by decide +kernel
theorem dX12_take_146 : decode cX12_take 146 = .ok (.iload_n 1, 1) := by decide +kernel
theorem dX12_take_147 : decode cX12_take 147 = .ok (.iload_n 3, 1) := by decide +kernel
theorem dX12_take_148 : decode cX12_take 148 = .ok (.invokevirtual 286, 3) := by decide +kernel
theorem dX12_take_151 : decode cX12_take 151 = .ok (.invokevirtual 201, 3) := by decide +kernel
theorem dX12_take_154 : decode cX12_take 154 = .ok (.iinc 3 1, 3) := by decide +kernel
theorem dX12_take_157 : decode cX12_take 157 = .ok (.goto (-29), 3) := by decide +kernel
theorem dX12_take_160 : decode cX12_take 160 = .ok (.aload_n 0, 1) := by decide +kernel
theorem dX12_take_161 : decode cX12_take 161 = .ok (.iload_n 1, 1) := by decide +kernel
theorem dX12_take_162 : decode cX12_take 162 = .ok (.bipush 7, 2) := by decide +kernel
theorem dX12_take_164 : decode cX12_take 164 = .ok (.iconst (-1), 1) := by decide +kernel
theorem dX12_take_165 : decode cX12_take 165 = .ok (.invokevirtual 295, 3) := by decide +kernel
theorem dX12_take_168 : decode cX12_take 168 = .ok (.aload_n 0, 1) := by decide +kernel
theorem dX12_take_169 : decode cX12_take 169 = .ok (.iload_n 1, 1) := by decide +kernel
theorem dX12_take_170 : decode cX12_take 170 = .ok (.bipush 10, 2) := by decide +kernel
theorem dX12_take_172 : decode cX12_take 172 = .ok (.iconst 1, 1) := by decide +kernel
theorem dX12_take_173 : decode cX12_take 173 = .ok (.invokevirtual 295, 3) := by decide +kernel
theorem dX12_take_176 : decode cX12_take 176 = .ok (.aload_n 0, 1) := by decide +kernel
theorem dX12_take_177 : decode cX12_take 177 = .ok (.getfield 211, 3) := by decide +kernel
theorem dX12_take_180 : decode cX12_take 180 = .ok (.ireturn, 1) := by decide +kernel
theorem dX12_hand_0 : decode cX12_hand 0 = .ok (.aload_n 0, 1) := by decide +kernel
theorem dX12_hand_1 : decode cX12_hand 1 = .ok (.iconst 0, 1) := by decide +kernel
theorem dX12_hand_2 : decode cX12_hand 2 = .ok (.putfield 60, 3) := by decide +kernel
theorem dX12_hand_5 : decode cX12_hand 5 = .ok (.aload_n 0, 1) := by decide +kernel
theorem dX12_hand_6 : decode cX12_hand 6 = .ok (.getfield 188, 3) := by decide +kernel
theorem dX12_hand_9 : decode cX12_hand 9 = .ok (.ifCond .eq 28, 3) := by decide +kernel
theorem dX12_hand_12 : decode cX12_hand 12 = .ok (.iload_n 1, 1) := by decide +kernel
theorem dX12_hand_13 : decode cX12_hand 13 = .ok (.i2l, 1) := by decide +kernel
theorem dX12_hand_14 : decode cX12_hand 14 = .ok (.lconst 0, 1) := by decide +kernel
theorem dX12_hand_15 : decode cX12_hand 15 = .ok (.aload_n 0, 1) := by decide +kernel
theorem dX12_hand_16 : decode cX12_hand 16 = .ok (.getfield 211, 3) := by decide +kernel
theorem dX12_hand_19 : decode cX12_hand 19 = .ok (.iconst 1, 1) := by decide +kernel
theorem dX12_hand_20 : decode cX12_hand 20 = .ok (.isub, 1) := by decide +kernel
theorem dX12_hand_21 : decode cX12_hand 21 = .ok (.i2l, 1) := by decide +kernel
theorem dX12_hand_22 : decode cX12_hand 22 = .ok (.invokestatic 70, 3) := by decide +kernel
theorem dX12_hand_25 : decode cX12_hand 25 = .ok (.ifCond .eq 12, 3) := by decide +kernel
theorem dX12_hand_28 : decode cX12_hand 28 = .ok (.aload_n 0, 1) := by decide +kernel
theorem dX12_hand_29 : decode cX12_hand 29 = .ok (.getfield 48, 3) := by decide +kernel
theorem dX12_hand_32 : decode cX12_hand 32 = .ok (.iload_n 1, 1) := by decide +kernel
theorem dX12_hand_33 : decode cX12_hand 33 = .ok (.iaload, 1) := by decide +kernel
theorem dX12_hand_34 : decode cX12_hand 34 = .ok (.goto 4, 3) := by decide +kernel
theorem dX12_hand_37 : decode cX12_hand 37 = .ok (.iconst (-1), 1) := by decide +kernel
theorem dX12_hand_38 : decode cX12_hand 38 = .ok (.ireturn, 1) := by decide +kernel
theorem dX12_renew_0 : decode cX12_renew 0 = .ok (.aload_n 0, 1) := by decide +kernel
theorem dX12_renew_1 : decode cX12_renew 1 = .ok (.iconst 0, 1) := by decide +kernel
theorem dX12_renew_2 : decode cX12_renew 2 = .ok (.putfield 60, 3) := by decide +kernel
theorem dX12_renew_5 : decode cX12_renew 5 = .ok (.aload_n 0, 1) := by decide +kernel
theorem dX12_renew_6 : decode cX12_renew 6 = .ok (.getfield 188, 3) := by decide +kernel
theorem dX12_renew_9 : decode cX12_renew 9 = .ok (.ifCond .ne 9, 3) := by decide +kernel
theorem dX12_renew_12 : decode cX12_renew 12 = .ok (.aload_n 0, 1) := by decide +kernel
theorem dX12_renew_13 : decode cX12_renew 13 = .ok (.iconst 0, 1) := by decide +kernel
theorem dX12_renew_14 : decode cX12_renew 14 = .ok (.invokevirtual 280, 3) := by decide +kernel
theorem dX12_renew_17 : decode cX12_renew 17 = .ok (.ireturn, 1) := by decide +kernel
theorem dX12_renew_18 : decode cX12_renew 18 = .ok (.aload_n 0, 1) := by decide +kernel
theorem dX12_renew_19 : decode cX12_renew 19 = .ok (.iload_n 1, 1) := by decide +kernel
theorem dX12_renew_20 : decode cX12_renew 20 = .ok (.invokevirtual 283, 3) := by decide +kernel
theorem dX12_renew_23 : decode cX12_renew 23 = .ok (.ifCond .ne 9, 3) := by decide +kernel
theorem dX12_renew_26 : decode cX12_renew 26 = .ok (.aload_n 0, 1) := by decide +kernel
theorem dX12_renew_27 : decode cX12_renew 27 = .ok (.iconst 1, 1) := by decide +kernel
theorem dX12_renew_28 : decode cX12_renew 28 = .ok (.invokevirtual 280, 3) := by decide +kernel
theorem dX12_renew_31 : decode cX12_renew 31 = .ok (.ireturn, 1) := by decide +kernel
theorem dX12_renew_32 : decode cX12_renew 32 = .ok (.aload_n 0, 1) := by decide +kernel
theorem dX12_renew_33 : decode cX12_renew 33 = .ok (.iload_n 1, 1) := by decide +kernel
theorem dX12_renew_34 : decode cX12_renew 34 = .ok (.iconst 0, 1) := by decide +kernel
theorem dX12_renew_35 : decode cX12_renew 35 = .ok (.invokevirtual 286, 3) := by decide +kernel
theorem dX12_renew_38 : decode cX12_renew 38 = .ok (.aload_n 0, 1) := by decide +kernel
theorem dX12_renew_39 : decode cX12_renew 39 = .ok (.getfield 26, 3) := by decide +kernel
theorem dX12_renew_42 : decode cX12_renew 42 = .ok (.iload_n 1, 1) := by decide +kernel
theorem dX12_renew_43 : decode cX12_renew 43 = .ok (.iaload, 1) := by decide +kernel
theorem dX12_renew_44 : decode cX12_renew 44 = .ok (.if_icmp .ne 9, 3) := by decide +kernel
theorem dX12_renew_47 : decode cX12_renew 47 = .ok (.aload_n 0, 1) := by decide +kernel
theorem dX12_renew_48 : decode cX12_renew 48 = .ok (.iconst 2, 1) := by decide +kernel
theorem dX12_renew_49 : decode cX12_renew 49 = .ok (.invokevirtual 280, 3) := by decide +kernel
theorem dX12_renew_52 : decode cX12_renew 52 = .ok (.ireturn, 1) := by decide +kernel
theorem dX12_renew_53 : decode cX12_renew 53 = .ok (.aload_n 0, 1) := by decide +kernel
theorem dX12_renew_54 : decode cX12_renew 54 = .ok (.invokevirtual 289, 3) := by decide +kernel
theorem dX12_renew_57 : decode cX12_renew 57 = .ok (.aload_n 0, 1) := by decide +kernel
theorem dX12_renew_58 : decode cX12_renew 58 = .ok (.iload_n 1, 1) := by decide +kernel
theorem dX12_renew_59 : decode cX12_renew 59 = .ok (.iconst 0, 1) := by decide +kernel
theorem dX12_renew_60 : decode cX12_renew 60 = .ok (.aload_n 0, 1) := by decide +kernel
theorem dX12_renew_61 : decode cX12_renew 61 = .ok (.getfield 26, 3) := by decide +kernel
theorem dX12_renew_64 : decode cX12_renew 64 = .ok (.iload_n 1, 1) := by decide +kernel
theorem dX12_renew_65 : decode cX12_renew 65 = .ok (.iaload, 1) := by decide +kernel
theorem dX12_renew_66 : decode cX12_renew 66 = .ok (.invokevirtual 201, 3) := by decide +kernel
theorem dX12_renew_69 : decode cX12_renew 69 = .ok (.aload_n 0, 1) := by decide +kernel
theorem dX12_renew_70 : decode cX12_renew 70 = .ok (.getfield 26, 3) := by decide +kernel
theorem dX12_renew_73 : decode cX12_renew 73 = .ok (.iload_n 1, 1) := by decide +kernel
theorem dX12_renew_74 : decode cX12_renew 74 = .ok (.iaload, 1) := by decide +kernel
theorem dX12_renew_75 : decode cX12_renew 75 = .ok (.ireturn, 1) := by decide +kernel
theorem dX12_channel_0 : decode cX12_channel 0 = .ok (.aload_n 0, 1) := by decide +kernel
theorem dX12_channel_1 : decode cX12_channel 1 = .ok (.aload_n 0, 1) := by decide +kernel
theorem dX12_channel_2 : decode cX12_channel 2 = .ok (.iload_n 1, 1) := by decide +kernel
theorem dX12_channel_3 : decode cX12_channel 3 = .ok (.invokevirtual 283, 3) := by decide +kernel
theorem dX12_channel_6 : decode cX12_channel 6 = .ok (.ifCond .eq 19, 3) := by decide +kernel
theorem dX12_channel_9 : decode cX12_channel 9 = .ok (.iload_n 2, 1) := by decide +kernel
theorem dX12_channel_10 : decode cX12_channel 10 = .ok (.i2l, 1) := by decide +kernel
theorem dX12_channel_11 : decode cX12_channel 11 = .ok (.lconst 0, 1) := by decide +kernel
theorem dX12_channel_12 : decode cX12_channel 12 = .ok (.ldc2_w 381, 3) := by decide +kernel
theorem dX12_channel_15 : decode cX12_channel 15 = .ok (.invokestatic 70, 3) := by decide +kernel
theorem dX12_channel_18 : decode cX12_channel 18 = .ok (.ifCond .eq 7, 3) := by decide +kernel
theorem dX12_channel_21 : decode cX12_channel 21 = .ok (.iconst 0, 1) := by decide +kernel
theorem dX12_channel_22 : decode cX12_channel 22 = .ok (.goto 4, 3) := by decide +kernel
theorem dX12_channel_25 : decode cX12_channel 25 = .ok (.iconst 1, 1) := by decide +kernel
theorem dX12_channel_26 : decode cX12_channel 26 = .ok (.putfield 60, 3) := by decide +kernel
theorem dX12_channel_29 : decode cX12_channel 29 = .ok (.aload_n 0, 1) := by decide +kernel
theorem dX12_channel_30 : decode cX12_channel 30 = .ok (.getfield 60, 3) := by decide +kernel
theorem dX12_channel_33 : decode cX12_channel 33 = .ok (.iconst 1, 1) := by decide +kernel
theorem dX12_channel_34 : decode cX12_channel 34 = .ok (.if_icmp .ne 5, 3) := by decide +kernel
theorem dX12_channel_37 : decode cX12_channel 37 = .ok (.iconst 0, 1) := by decide +kernel
theorem dX12_channel_38 : decode cX12_channel 38 = .ok (.ireturn, 1) := by decide +kernel
theorem dX12_channel_39 : decode cX12_channel 39 = .ok (.iload_n 2, 1) := by decide +kernel
theorem dX12_channel_40 : decode cX12_channel 40 = .ok (.tableswitch 141 0 10 #[60, 67, 74, 81, 88, 95, 102, 109, 117, 125, 133], 60) := by decide +kernel
theorem dX12_channel_100 : decode cX12_channel 100 = .ok (.aload_n 0, 1) := by decide +kernel
theorem dX12_channel_101 : decode cX12_channel 101 = .ok (.iload_n 1, 1) := by decide +kernel
theorem dX12_channel_102 : decode cX12_channel 102 = .ok (.iconst 0, 1) := by decide +kernel
theorem dX12_channel_103 : decode cX12_channel 103 = .ok (.invokevirtual 286, 3) := by decide +kernel
theorem dX12_channel_106 : decode cX12_channel 106 = .ok (.ireturn, 1) := by decide +kernel
theorem dX12_channel_107 : decode cX12_channel 107 = .ok (.aload_n 0, 1) := by decide +kernel
theorem dX12_channel_108 : decode cX12_channel 108 = .ok (.getfield 26, 3) := by decide +kernel
theorem dX12_channel_111 : decode cX12_channel 111 = .ok (.iload_n 1, 1) := by decide +kernel
theorem dX12_channel_112 : decode cX12_channel 112 = .ok (.iaload, 1) := by decide +kernel
theorem dX12_channel_113 : decode cX12_channel 113 = .ok (.ireturn, 1) := by decide +kernel
theorem dX12_channel_114 : decode cX12_channel 114 = .ok (.aload_n 0, 1) := by decide +kernel
theorem dX12_channel_115 : decode cX12_channel 115 = .ok (.iload_n 1, 1) := by decide +kernel
theorem dX12_channel_116 : decode cX12_channel 116 = .ok (.iconst 1, 1) := by decide +kernel
theorem dX12_channel_117 : decode cX12_channel 117 = .ok (.invokevirtual 286, 3) := by decide +kernel
theorem dX12_channel_120 : decode cX12_channel 120 = .ok (.ireturn, 1) := by decide +kernel
theorem dX12_channel_121 : decode cX12_channel 121 = .ok (.aload_n 0, 1) := by decide +kernel
theorem dX12_channel_122 : decode cX12_channel 122 = .ok (.iload_n 1, 1) := by decide +kernel
theorem dX12_channel_123 : decode cX12_channel 123 = .ok (.iconst 2, 1) := by decide +kernel
theorem dX12_channel_124 : decode cX12_channel 124 = .ok (.invokevirtual 286, 3) := by decide +kernel
theorem dX12_channel_127 : decode cX12_channel 127 = .ok (.ireturn, 1) := by decide +kernel
theorem dX12_channel_128 : decode cX12_channel 128 = .ok (.aload_n 0, 1) := by decide +kernel
theorem dX12_channel_129 : decode cX12_channel 129 = .ok (.iload_n 1, 1) := by decide +kernel
theorem dX12_channel_130 : decode cX12_channel 130 = .ok (.iconst 3, 1) := by decide +kernel
theorem dX12_channel_131 : decode cX12_channel 131 = .ok (.invokevirtual 286, 3) := by decide +kernel
theorem dX12_channel_134 : decode cX12_channel 134 = .ok (.ireturn, 1) := by decide +kernel
theorem dX12_channel_135 : decode cX12_channel 135 = .ok (.aload_n 0, 1) := by decide +kernel
theorem dX12_channel_136 : decode cX12_channel 136 = .ok (.iload_n 1, 1) := by decide +kernel
theorem dX12_channel_137 : decode cX12_channel 137 = .ok (.iconst 4, 1) := by decide +kernel
theorem dX12_channel_138 : decode cX12_channel 138 = .ok (.invokevirtual 286, 3) := by decide +kernel
theorem dX12_channel_141 : decode cX12_channel 141 = .ok (.ireturn, 1) := by decide +kernel
theorem dX12_channel_142 : decode cX12_channel 142 = .ok (.aload_n 0, 1) := by decide +kernel
theorem dX12_channel_143 : decode cX12_channel 143 = .ok (.iload_n 1, 1) := by decide +kernel
theorem dX12_channel_144 : decode cX12_channel 144 = .ok (.iconst 5, 1) := by decide +kernel
theorem dX12_channel_145 : decode cX12_channel 145 = .ok (.invokevirtual 286, 3) := by decide +kernel
theorem dX12_channel_148 : decode cX12_channel 148 = .ok (.ireturn, 1) := by decide +kernel
theorem dX12_channel_149 : decode cX12_channel 149 = .ok (.aload_n 0, 1) := by decide +kernel
theorem dX12_channel_150 : decode cX12_channel 150 = .ok (.iload_n 1, 1) := by decide +kernel
theorem dX12_channel_151 : decode cX12_channel 151 = .ok (.bipush 6, 2) := by decide +kernel
theorem dX12_channel_153 : decode cX12_channel 153 = .ok (.invokevirtual 286, 3) := by decide +kernel
theorem dX12_channel_156 : decode cX12_channel 156 = .ok (.ireturn, 1) := by decide +kernel
theorem dX12_channel_157 : decode cX12_channel 157 = .ok (.aload_n 0, 1) := by decide +kernel
theorem dX12_channel_158 : decode cX12_channel 158 = .ok (.iload_n 1, 1) := by decide +kernel
theorem dX12_channel_159 : decode cX12_channel 159 = .ok (.bipush 7, 2) := by decide +kernel
theorem dX12_channel_161 : decode cX12_channel 161 = .ok (.invokevirtual 286, 3) := by decide +kernel
theorem dX12_channel_164 : decode cX12_channel 164 = .ok (.ireturn, 1) := by decide +kernel
theorem dX12_channel_165 : decode cX12_channel 165 = .ok (.aload_n 0, 1) := by decide +kernel
theorem dX12_channel_166 : decode cX12_channel 166 = .ok (.iload_n 1, 1) := by decide +kernel
theorem dX12_channel_167 : decode cX12_channel 167 = .ok (.bipush 8, 2) := by decide +kernel
theorem dX12_channel_169 : decode cX12_channel 169 = .ok (.invokevirtual 286, 3) := by decide +kernel
theorem dX12_channel_172 : decode cX12_channel 172 = .ok (.ireturn, 1) := by decide +kernel
theorem dX12_channel_173 : decode cX12_channel 173 = .ok (.aload_n 0, 1) := by decide +kernel
theorem dX12_channel_174 : decode cX12_channel 174 = .ok (.iload_n 1, 1) := by decide +kernel
theorem dX12_channel_175 : decode cX12_channel 175 = .ok (.bipush 9, 2) := by decide +kernel
theorem dX12_channel_177 : decode cX12_channel 177 = .ok (.invokevirtual 286, 3) := by decide +kernel
theorem dX12_channel_180 : decode cX12_channel 180 = .ok (.ireturn, 1) := by decide +kernel
theorem dX12_channel_181 : decode cX12_channel 181 = .ok (.aload_n 0, 1) := by decide +kernel
theorem dX12_channel_182 : decode cX12_channel 182 = .ok (.iload_n 1, 1) := by decide +kernel
theorem dX12_channel_183 : decode cX12_channel 183 = .ok (.bipush 10, 2) := by decide +kernel
theorem dX12_channel_185 : decode cX12_channel 185 = .ok (.invokevirtual 286, 3) := by decide +kernel
theorem dX12_channel_188 : decode cX12_channel 188 = .ok (.ireturn, 1) := by decide +kernel
theorem dX12_laysFrames_0 : decode cX12_laysFrames 0 = .ok (.aload_n 0, 1) := by decide +kernel
theorem dX12_laysFrames_1 : decode cX12_laysFrames 1 = .ok (.iconst 0, 1) := by decide +kernel
theorem dX12_laysFrames_2 : decode cX12_laysFrames 2 = .ok (.putfield 383, 3) := by decide +kernel
theorem dX12_laysFrames_5 : decode cX12_laysFrames 5 = .ok (.iconst 0, 1) := by decide +kernel
theorem dX12_laysFrames_6 : decode cX12_laysFrames 6 = .ok (.istore_n 1, 1) := by decide +kernel
theorem dX12_laysFrames_7 : decode cX12_laysFrames 7 = .ok (.iconst 0, 1) := by decide +kernel
theorem dX12_laysFrames_8 : decode cX12_laysFrames 8 = .ok (.istore_n 2, 1) := by decide +kernel
theorem dX12_laysFrames_9 : decode cX12_laysFrames 9 = .ok (.iload_n 2, 1) := by decide +kernel
theorem dX12_laysFrames_10 : decode cX12_laysFrames 10 = .ok (.aload_n 0, 1) := by decide +kernel
theorem dX12_laysFrames_11 : decode cX12_laysFrames 11 = .ok (.getfield 16, 3) := by decide +kernel
theorem dX12_laysFrames_14 : decode cX12_laysFrames 14 = .ok (.iconst 0, 1) := by decide +kernel
theorem dX12_laysFrames_15 : decode cX12_laysFrames 15 = .ok (.iaload, 1) := by decide +kernel
theorem dX12_laysFrames_16 : decode cX12_laysFrames 16 = .ok (.if_icmp .ge 59, 3) := by decide +kernel
theorem dX12_laysFrames_19 : decode cX12_laysFrames 19 = .ok (.aload_n 0, 1) := by decide +kernel
theorem dX12_laysFrames_20 : decode cX12_laysFrames 20 = .ok (.getfield 16, 3) := by decide +kernel
theorem dX12_laysFrames_23 : decode cX12_laysFrames 23 = .ok (.iconst 1, 1) := by decide +kernel
theorem dX12_laysFrames_24 : decode cX12_laysFrames 24 = .ok (.iload_n 2, 1) := by decide +kernel
theorem dX12_laysFrames_25 : decode cX12_laysFrames 25 = .ok (.iadd, 1) := by decide +kernel
theorem dX12_laysFrames_26 : decode cX12_laysFrames 26 = .ok (.iaload, 1) := by decide +kernel
theorem dX12_laysFrames_27 : decode cX12_laysFrames 27 = .ok (.ifCond .ne 42, 3) := by decide +kernel
theorem dX12_laysFrames_30 : decode cX12_laysFrames 30 = .ok (.iload_n 2, 1) := by decide +kernel
theorem dX12_laysFrames_31 : decode cX12_laysFrames 31 = .ok (.iload_n 1, 1) := by decide +kernel
theorem dX12_laysFrames_32 : decode cX12_laysFrames 32 = .ok (.if_icmp .le 33, 3) := by decide +kernel
theorem dX12_laysFrames_35 : decode cX12_laysFrames 35 = .ok (.aload_n 0, 1) := by decide +kernel
theorem dX12_laysFrames_36 : decode cX12_laysFrames 36 = .ok (.getfield 51, 3) := by decide +kernel
theorem dX12_laysFrames_39 : decode cX12_laysFrames 39 = .ok (.aload_n 0, 1) := by decide +kernel
theorem dX12_laysFrames_40 : decode cX12_laysFrames 40 = .ok (.getfield 383, 3) := by decide +kernel
theorem dX12_laysFrames_43 : decode cX12_laysFrames 43 = .ok (.iload_n 1, 1) := by decide +kernel
theorem dX12_laysFrames_44 : decode cX12_laysFrames 44 = .ok (.iastore, 1) := by decide +kernel
theorem dX12_laysFrames_45 : decode cX12_laysFrames 45 = .ok (.aload_n 0, 1) := by decide +kernel
theorem dX12_laysFrames_46 : decode cX12_laysFrames 46 = .ok (.getfield 54, 3) := by decide +kernel
theorem dX12_laysFrames_49 : decode cX12_laysFrames 49 = .ok (.aload_n 0, 1) := by decide +kernel
theorem dX12_laysFrames_50 : decode cX12_laysFrames 50 = .ok (.getfield 383, 3) := by decide +kernel
theorem dX12_laysFrames_53 : decode cX12_laysFrames 53 = .ok (.iload_n 2, 1) := by decide +kernel
theorem dX12_laysFrames_54 : decode cX12_laysFrames 54 = .ok (.iastore, 1) := by decide +kernel
theorem dX12_laysFrames_55 : decode cX12_laysFrames 55 = .ok (.aload_n 0, 1) := by decide +kernel
theorem dX12_laysFrames_56 : decode cX12_laysFrames 56 = .ok (.dup, 1) := by decide +kernel
theorem dX12_laysFrames_57 : decode cX12_laysFrames 57 = .ok (.getfield 383, 3) := by decide +kernel
theorem dX12_laysFrames_60 : decode cX12_laysFrames 60 = .ok (.iconst 1, 1) := by decide +kernel
theorem dX12_laysFrames_61 : decode cX12_laysFrames 61 = .ok (.iadd, 1) := by decide +kernel
theorem dX12_laysFrames_62 : decode cX12_laysFrames 62 = .ok (.putfield 383, 3) := by decide +kernel
theorem dX12_laysFrames_65 : decode cX12_laysFrames 65 = .ok (.iload_n 2, 1) := by decide +kernel
theorem dX12_laysFrames_66 : decode cX12_laysFrames 66 = .ok (.iconst 1, 1) := by decide +kernel
theorem dX12_laysFrames_67 : decode cX12_laysFrames 67 = .ok (.iadd, 1) := by decide +kernel
theorem dX12_laysFrames_68 : decode cX12_laysFrames 68 = .ok (.istore_n 1, 1) := by decide +kernel
theorem dX12_laysFrames_69 : decode cX12_laysFrames 69 = .ok (.iinc 2 1, 3) := by decide +kernel
theorem dX12_laysFrames_72 : decode cX12_laysFrames 72 = .ok (.goto (-63), 3) := by decide +kernel
theorem dX12_laysFrames_75 : decode cX12_laysFrames 75 = .ok (.aload_n 0, 1) := by decide +kernel
theorem dX12_laysFrames_76 : decode cX12_laysFrames 76 = .ok (.getfield 383, 3) := by decide +kernel
theorem dX12_laysFrames_79 : decode cX12_laysFrames 79 = .ok (.ireturn, 1) := by decide +kernel
theorem dX12_frameAt_0 : decode cX12_frameAt 0 = .ok (.aload_n 0, 1) := by decide +kernel
theorem dX12_frameAt_1 : decode cX12_frameAt 1 = .ok (.sipush 200, 3) := by decide +kernel
theorem dX12_frameAt_4 : decode cX12_frameAt 4 = .ok (.aload_n 0, 1) := by decide +kernel
theorem dX12_frameAt_5 : decode cX12_frameAt 5 = .ok (.getfield 54, 3) := by decide +kernel
theorem dX12_frameAt_8 : decode cX12_frameAt 8 = .ok (.iload_n 1, 1) := by decide +kernel
theorem dX12_frameAt_9 : decode cX12_frameAt 9 = .ok (.iaload, 1) := by decide +kernel
theorem dX12_frameAt_10 : decode cX12_frameAt 10 = .ok (.aload_n 0, 1) := by decide +kernel
theorem dX12_frameAt_11 : decode cX12_frameAt 11 = .ok (.getfield 51, 3) := by decide +kernel
theorem dX12_frameAt_14 : decode cX12_frameAt 14 = .ok (.iload_n 1, 1) := by decide +kernel
theorem dX12_frameAt_15 : decode cX12_frameAt 15 = .ok (.iaload, 1) := by decide +kernel
theorem dX12_frameAt_16 : decode cX12_frameAt 16 = .ok (.isub, 1) := by decide +kernel
theorem dX12_frameAt_17 : decode cX12_frameAt 17 = .ok (.invokestatic 97, 3) := by decide +kernel
theorem dX12_frameAt_20 : decode cX12_frameAt 20 = .ok (.putfield 214, 3) := by decide +kernel
theorem dX12_frameAt_23 : decode cX12_frameAt 23 = .ok (.iconst 0, 1) := by decide +kernel
theorem dX12_frameAt_24 : decode cX12_frameAt 24 = .ok (.istore_n 2, 1) := by decide +kernel
theorem dX12_frameAt_25 : decode cX12_frameAt 25 = .ok (.iload_n 2, 1) := by decide +kernel
theorem dX12_frameAt_26 : decode cX12_frameAt 26 = .ok (.aload_n 0, 1) := by decide +kernel
theorem dX12_frameAt_27 : decode cX12_frameAt 27 = .ok (.getfield 214, 3) := by decide +kernel
theorem dX12_frameAt_30 : decode cX12_frameAt 30 = .ok (.if_icmp .ge 30, 3) := by decide +kernel
theorem dX12_frameAt_33 : decode cX12_frameAt 33 = .ok (.aload_n 0, 1) := by decide +kernel
theorem dX12_frameAt_34 : decode cX12_frameAt 34 = .ok (.getfield 32, 3) := by decide +kernel
theorem dX12_frameAt_37 : decode cX12_frameAt 37 = .ok (.iload_n 2, 1) := by decide +kernel
theorem dX12_frameAt_38 : decode cX12_frameAt 38 = .ok (.aload_n 0, 1) := by decide +kernel
theorem dX12_frameAt_39 : decode cX12_frameAt 39 = .ok (.getfield 16, 3) := by decide +kernel
theorem dX12_frameAt_42 : decode cX12_frameAt 42 = .ok (.iconst 1, 1) := by decide +kernel
theorem dX12_frameAt_43 : decode cX12_frameAt 43 = .ok (.aload_n 0, 1) := by decide +kernel
theorem dX12_frameAt_44 : decode cX12_frameAt 44 = .ok (.getfield 51, 3) := by decide +kernel
theorem dX12_frameAt_47 : decode cX12_frameAt 47 = .ok (.iload_n 1, 1) := by decide +kernel
theorem dX12_frameAt_48 : decode cX12_frameAt 48 = .ok (.iaload, 1) := by decide +kernel
theorem dX12_frameAt_49 : decode cX12_frameAt 49 = .ok (.iadd, 1) := by decide +kernel
theorem dX12_frameAt_50 : decode cX12_frameAt 50 = .ok (.iload_n 2, 1) := by decide +kernel
theorem dX12_frameAt_51 : decode cX12_frameAt 51 = .ok (.iadd, 1) := by decide +kernel
theorem dX12_frameAt_52 : decode cX12_frameAt 52 = .ok (.iaload, 1) := by decide +kernel
theorem dX12_frameAt_53 : decode cX12_frameAt 53 = .ok (.iastore, 1) := by decide +kernel
theorem dX12_frameAt_54 : decode cX12_frameAt 54 = .ok (.iinc 2 1, 3) := by decide +kernel
theorem dX12_frameAt_57 : decode cX12_frameAt 57 = .ok (.goto (-32), 3) := by decide +kernel
theorem dX12_frameAt_60 : decode cX12_frameAt 60 = .ok (.aload_n 0, 1) := by decide +kernel
theorem dX12_frameAt_61 : decode cX12_frameAt 61 = .ok (.aload_n 0, 1) := by decide +kernel
theorem dX12_frameAt_62 : decode cX12_frameAt 62 = .ok (.getfield 54, 3) := by decide +kernel
theorem dX12_frameAt_65 : decode cX12_frameAt 65 = .ok (.iload_n 1, 1) := by decide +kernel
theorem dX12_frameAt_66 : decode cX12_frameAt 66 = .ok (.iaload, 1) := by decide +kernel
theorem dX12_frameAt_67 : decode cX12_frameAt 67 = .ok (.aload_n 0, 1) := by decide +kernel
theorem dX12_frameAt_68 : decode cX12_frameAt 68 = .ok (.getfield 51, 3) := by decide +kernel
theorem dX12_frameAt_71 : decode cX12_frameAt 71 = .ok (.iload_n 1, 1) := by decide +kernel
theorem dX12_frameAt_72 : decode cX12_frameAt 72 = .ok (.iaload, 1) := by decide +kernel
theorem dX12_frameAt_73 : decode cX12_frameAt 73 = .ok (.isub, 1) := by decide +kernel
theorem dX12_frameAt_74 : decode cX12_frameAt 74 = .ok (.sipush 200, 3) := by decide +kernel
theorem dX12_frameAt_77 : decode cX12_frameAt 77 = .ok (.if_icmp .le 7, 3) := by decide +kernel
theorem dX12_frameAt_80 : decode cX12_frameAt 80 = .ok (.iconst 1, 1) := by decide +kernel
theorem dX12_frameAt_81 : decode cX12_frameAt 81 = .ok (.goto 4, 3) := by decide +kernel
theorem dX12_frameAt_84 : decode cX12_frameAt 84 = .ok (.iconst 0, 1) := by decide +kernel
theorem dX12_frameAt_85 : decode cX12_frameAt 85 = .ok (.invokevirtual 357, 3) := by decide +kernel
theorem dX12_frameAt_88 : decode cX12_frameAt 88 = .ok (.ireturn, 1) := by decide +kernel
theorem dX12_frame_0 : decode cX12_frame 0 = .ok (.aload_n 0, 1) := by decide +kernel
theorem dX12_frame_1 : decode cX12_frame 1 = .ok (.iconst 0, 1) := by decide +kernel
theorem dX12_frame_2 : decode cX12_frame 2 = .ok (.putfield 60, 3) := by decide +kernel
theorem dX12_frame_5 : decode cX12_frame 5 = .ok (.aload_n 0, 1) := by decide +kernel
theorem dX12_frame_6 : decode cX12_frame 6 = .ok (.getfield 188, 3) := by decide +kernel
theorem dX12_frame_9 : decode cX12_frame 9 = .ok (.ifCond .eq 31, 3) := by decide +kernel
theorem dX12_frame_12 : decode cX12_frame 12 = .ok (.iload_n 1, 1) := by decide +kernel
theorem dX12_frame_13 : decode cX12_frame 13 = .ok (.i2l, 1) := by decide +kernel
theorem dX12_frame_14 : decode cX12_frame 14 = .ok (.lconst 0, 1) := by decide +kernel
theorem dX12_frame_15 : decode cX12_frame 15 = .ok (.aload_n 0, 1) := by decide +kernel
theorem dX12_frame_16 : decode cX12_frame 16 = .ok (.invokevirtual 386, 3) := by decide +kernel
theorem dX12_frame_19 : decode cX12_frame 19 = .ok (.iconst 1, 1) := by decide +kernel
theorem dX12_frame_20 : decode cX12_frame 20 = .ok (.isub, 1) := by decide +kernel
theorem dX12_frame_21 : decode cX12_frame 21 = .ok (.i2l, 1) := by decide +kernel
theorem dX12_frame_22 : decode cX12_frame 22 = .ok (.invokestatic 70, 3) := by decide +kernel
theorem dX12_frame_25 : decode cX12_frame 25 = .ok (.ifCond .eq 15, 3) := by decide +kernel
theorem dX12_frame_28 : decode cX12_frame 28 = .ok (.iload_n 2, 1) := by decide +kernel
theorem dX12_frame_29 : decode cX12_frame 29 = .ok (.i2l, 1) := by decide +kernel
theorem dX12_frame_30 : decode cX12_frame 30 = .ok (.lconst 0, 1) := by decide +kernel
theorem dX12_frame_31 : decode cX12_frame 31 = .ok (.ldc2_w 379, 3) := by decide +kernel
theorem dX12_frame_34 : decode cX12_frame 34 = .ok (.invokestatic 70, 3) := by decide +kernel
theorem dX12_frame_37 : decode cX12_frame 37 = .ok (.ifCond .ne 5, 3) := by decide +kernel
theorem dX12_frame_40 : decode cX12_frame 40 = .ok (.iconst (-1), 1) := by decide +kernel
theorem dX12_frame_41 : decode cX12_frame 41 = .ok (.ireturn, 1) := by decide +kernel
theorem dX12_frame_42 : decode cX12_frame 42 = .ok (.iload_n 2, 1) := by decide +kernel
theorem dX12_frame_43 : decode cX12_frame 43 = .ok (.iconst 2, 1) := by decide +kernel
theorem dX12_frame_44 : decode cX12_frame 44 = .ok (.if_icmp .ge 30, 3) := by decide +kernel
theorem dX12_frame_47 : decode cX12_frame 47 = .ok (.iload_n 2, 1) := by decide +kernel
theorem dX12_frame_48 : decode cX12_frame 48 = .ok (.ifCond .ne 12, 3) := by decide +kernel
theorem dX12_frame_51 : decode cX12_frame 51 = .ok (.aload_n 0, 1) := by decide +kernel
theorem dX12_frame_52 : decode cX12_frame 52 = .ok (.getfield 51, 3) := by decide +kernel
theorem dX12_frame_55 : decode cX12_frame 55 = .ok (.iload_n 1, 1) := by decide +kernel
theorem dX12_frame_56 : decode cX12_frame 56 = .ok (.iaload, 1) := by decide +kernel
theorem dX12_frame_57 : decode cX12_frame 57 = .ok (.goto 16, 3) := by decide +kernel
theorem dX12_frame_60 : decode cX12_frame 60 = .ok (.aload_n 0, 1) := by decide +kernel
theorem dX12_frame_61 : decode cX12_frame 61 = .ok (.getfield 54, 3) := by decide +kernel
theorem dX12_frame_64 : decode cX12_frame 64 = .ok (.iload_n 1, 1) := by decide +kernel
theorem dX12_frame_65 : decode cX12_frame 65 = .ok (.iaload, 1) := by decide +kernel
theorem dX12_frame_66 : decode cX12_frame 66 = .ok (.aload_n 0, 1) := by decide +kernel
theorem dX12_frame_67 : decode cX12_frame 67 = .ok (.getfield 51, 3) := by decide +kernel
theorem dX12_frame_70 : decode cX12_frame 70 = .ok (.iload_n 1, 1) := by decide +kernel
theorem dX12_frame_71 : decode cX12_frame 71 = .ok (.iaload, 1) := by decide +kernel
theorem dX12_frame_72 : decode cX12_frame 72 = .ok (.isub, 1) := by decide +kernel
theorem dX12_frame_73 : decode cX12_frame 73 = .ok (.ireturn, 1) := by decide +kernel
theorem dX12_frame_74 : decode cX12_frame 74 = .ok (.aload_n 0, 1) := by decide +kernel
theorem dX12_frame_75 : decode cX12_frame 75 = .ok (.iload_n 1, 1) := by decide +kernel
theorem dX12_frame_76 : decode cX12_frame 76 = .ok (.invokevirtual 389, 3) := by decide +kernel
theorem dX12_frame_79 : decode cX12_frame 79 = .ok (.istore_n 3, 1) := by decide +kernel
theorem dX12_frame_80 : decode cX12_frame 80 = .ok (.iload_n 3, 1) := by decide +kernel
theorem dX12_frame_81 : decode cX12_frame 81 = .ok (.iconst 2, 1) := by decide +kernel
theorem dX12_frame_82 : decode cX12_frame 82 = .ok (.if_icmp .eq 12, 3) := by decide +kernel
theorem dX12_frame_85 : decode cX12_frame 85 = .ok (.iload_n 3, 1) := by decide +kernel
theorem dX12_frame_86 : decode cX12_frame 86 = .ok (.iconst 3, 1) := by decide +kernel
theorem dX12_frame_87 : decode cX12_frame 87 = .ok (.if_icmp .eq 7, 3) := by decide +kernel
theorem dX12_frame_90 : decode cX12_frame 90 = .ok (.iconst 1, 1) := by decide +kernel
theorem dX12_frame_91 : decode cX12_frame 91 = .ok (.goto 4, 3) := by decide +kernel
theorem dX12_frame_94 : decode cX12_frame 94 = .ok (.iconst 0, 1) := by decide +kernel
theorem dX12_frame_95 : decode cX12_frame 95 = .ok (.istore 4, 2) := by decide +kernel
theorem dX12_frame_97 : decode cX12_frame 97 = .ok (.iload_n 2, 1) := by decide +kernel
theorem dX12_frame_98 : decode cX12_frame 98 = .ok (.iconst 2, 1) := by decide +kernel
theorem dX12_frame_99 : decode cX12_frame 99 = .ok (.if_icmp .ne 7, 3) := by decide +kernel
theorem dX12_frame_102 : decode cX12_frame 102 = .ok (.iload_n 3, 1) := by decide +kernel
theorem dX12_frame_103 : decode cX12_frame 103 = .ok (.goto 38, 3) := by decide +kernel
theorem dX12_frame_106 : decode cX12_frame 106 = .ok (.iload 4, 2) := by decide +kernel
theorem dX12_frame_108 : decode cX12_frame 108 = .ok (.ifCond .ne 7, 3) := by decide +kernel
theorem dX12_frame_111 : decode cX12_frame 111 = .ok (.iconst (-1), 1) := by decide +kernel
theorem dX12_frame_112 : decode cX12_frame 112 = .ok (.goto 29, 3) := by decide +kernel
theorem dX12_frame_115 : decode cX12_frame 115 = .ok (.iload_n 2, 1) := by decide +kernel
theorem dX12_frame_116 : decode cX12_frame 116 = .ok (.iconst 3, 1) := by decide +kernel
theorem dX12_frame_117 : decode cX12_frame 117 = .ok (.if_icmp .ne 15, 3) := by decide +kernel
theorem dX12_frame_120 : decode cX12_frame 120 = .ok (.aload_n 0, 1) := by decide +kernel
theorem dX12_frame_121 : decode cX12_frame 121 = .ok (.getfield 29, 3) := by decide +kernel
theorem dX12_frame_124 : decode cX12_frame 124 = .ok (.iconst 0, 1) := by decide +kernel
theorem dX12_frame_125 : decode cX12_frame 125 = .ok (.iaload, 1) := by decide +kernel
theorem dX12_frame_126 : decode cX12_frame 126 = .ok (.bipush 64, 2) := by decide +kernel
theorem dX12_frame_128 : decode cX12_frame 128 = .ok (.idiv, 1) := by decide +kernel
theorem dX12_frame_129 : decode cX12_frame 129 = .ok (.goto 12, 3) := by decide +kernel
theorem dX12_frame_132 : decode cX12_frame 132 = .ok (.aload_n 0, 1) := by decide +kernel
theorem dX12_frame_133 : decode cX12_frame 133 = .ok (.getfield 29, 3) := by decide +kernel
theorem dX12_frame_136 : decode cX12_frame 136 = .ok (.iconst 0, 1) := by decide +kernel
theorem dX12_frame_137 : decode cX12_frame 137 = .ok (.iaload, 1) := by decide +kernel
theorem dX12_frame_138 : decode cX12_frame 138 = .ok (.bipush 16, 2) := by decide +kernel
theorem dX12_frame_140 : decode cX12_frame 140 = .ok (.irem, 1) := by decide +kernel
theorem dX12_frame_141 : decode cX12_frame 141 = .ok (.ireturn, 1) := by decide +kernel
theorem dX12_blind_0 : decode cX12_blind 0 = .ok (.aload_n 0, 1) := by decide +kernel
theorem dX12_blind_1 : decode cX12_blind 1 = .ok (.iconst 0, 1) := by decide +kernel
theorem dX12_blind_2 : decode cX12_blind 2 = .ok (.putfield 60, 3) := by decide +kernel
theorem dX12_blind_5 : decode cX12_blind 5 = .ok (.aload_n 0, 1) := by decide +kernel
theorem dX12_blind_6 : decode cX12_blind 6 = .ok (.getfield 188, 3) := by decide +kernel
theorem dX12_blind_9 : decode cX12_blind 9 = .ok (.ifCond .eq 19, 3) := by decide +kernel
theorem dX12_blind_12 : decode cX12_blind 12 = .ok (.iload_n 1, 1) := by decide +kernel
theorem dX12_blind_13 : decode cX12_blind 13 = .ok (.i2l, 1) := by decide +kernel
theorem dX12_blind_14 : decode cX12_blind 14 = .ok (.lconst 0, 1) := by decide +kernel
theorem dX12_blind_15 : decode cX12_blind 15 = .ok (.aload_n 0, 1) := by decide +kernel
theorem dX12_blind_16 : decode cX12_blind 16 = .ok (.invokevirtual 386, 3) := by decide +kernel
theorem dX12_blind_19 : decode cX12_blind 19 = .ok (.iconst 1, 1) := by decide +kernel
theorem dX12_blind_20 : decode cX12_blind 20 = .ok (.isub, 1) := by decide +kernel
theorem dX12_blind_21 : decode cX12_blind 21 = .ok (.i2l, 1) := by decide +kernel
theorem dX12_blind_22 : decode cX12_blind 22 = .ok (.invokestatic 70, 3) := by decide +kernel
theorem dX12_blind_25 : decode cX12_blind 25 = .ok (.ifCond .ne 5, 3) := by decide +kernel
theorem dX12_blind_28 : decode cX12_blind 28 = .ok (.iconst (-1), 1) := by decide +kernel
theorem dX12_blind_29 : decode cX12_blind 29 = .ok (.ireturn, 1) := by decide +kernel
theorem dX12_blind_30 : decode cX12_blind 30 = .ok (.aload_n 0, 1) := by decide +kernel
theorem dX12_blind_31 : decode cX12_blind 31 = .ok (.iload_n 1, 1) := by decide +kernel
theorem dX12_blind_32 : decode cX12_blind 32 = .ok (.invokevirtual 389, 3) := by decide +kernel
theorem dX12_blind_35 : decode cX12_blind 35 = .ok (.ifCond .eq 6, 3) := by decide +kernel
theorem dX12_blind_38 : decode cX12_blind 38 = .ok (.bipush (-2), 2) := by decide +kernel
theorem dX12_blind_40 : decode cX12_blind 40 = .ok (.ireturn, 1) := by decide +kernel
theorem dX12_blind_41 : decode cX12_blind 41 = .ok (.iconst 0, 1) := by decide +kernel
theorem dX12_blind_42 : decode cX12_blind 42 = .ok (.istore_n 2, 1) := by decide +kernel
theorem dX12_blind_43 : decode cX12_blind 43 = .ok (.aload_n 0, 1) := by decide +kernel
theorem dX12_blind_44 : decode cX12_blind 44 = .ok (.getfield 51, 3) := by decide +kernel
theorem dX12_blind_47 : decode cX12_blind 47 = .ok (.iload_n 1, 1) := by decide +kernel
theorem dX12_blind_48 : decode cX12_blind 48 = .ok (.iaload, 1) := by decide +kernel
theorem dX12_blind_49 : decode cX12_blind 49 = .ok (.istore_n 3, 1) := by decide +kernel
theorem dX12_blind_50 : decode cX12_blind 50 = .ok (.iload_n 3, 1) := by decide +kernel
theorem dX12_blind_51 : decode cX12_blind 51 = .ok (.aload_n 0, 1) := by decide +kernel
theorem dX12_blind_52 : decode cX12_blind 52 = .ok (.getfield 54, 3) := by decide +kernel
theorem dX12_blind_55 : decode cX12_blind 55 = .ok (.iload_n 1, 1) := by decide +kernel
theorem dX12_blind_56 : decode cX12_blind 56 = .ok (.iaload, 1) := by decide +kernel
theorem dX12_blind_57 : decode cX12_blind 57 = .ok (.if_icmp .ge 83, 3) := by decide +kernel
theorem dX12_blind_60 : decode cX12_blind 60 = .ok (.aload_n 0, 1) := by decide +kernel
theorem dX12_blind_61 : decode cX12_blind 61 = .ok (.getfield 16, 3) := by decide +kernel
theorem dX12_blind_64 : decode cX12_blind 64 = .ok (.iconst 1, 1) := by decide +kernel
theorem dX12_blind_65 : decode cX12_blind 65 = .ok (.iload_n 3, 1) := by decide +kernel
theorem dX12_blind_66 : decode cX12_blind 66 = .ok (.iadd, 1) := by decide +kernel
theorem dX12_blind_67 : decode cX12_blind 67 = .ok (.iaload, 1) := by decide +kernel
theorem dX12_blind_68 : decode cX12_blind 68 = .ok (.istore 4, 2) := by decide +kernel
theorem dX12_blind_70 : decode cX12_blind 70 = .ok (.iconst 1, 1) := by decide +kernel
theorem dX12_blind_71 : decode cX12_blind 71 = .ok (.istore 5, 2) := by decide +kernel
theorem dX12_blind_73 : decode cX12_blind 73 = .ok (.iload 5, 2) := by decide +kernel
theorem dX12_blind_75 : decode cX12_blind 75 = .ok (.sipush 256, 3) := by decide +kernel
theorem dX12_blind_78 : decode cX12_blind 78 = .ok (.if_icmp .ge 46, 3) := by decide +kernel
theorem dX12_blind_81 : decode cX12_blind 81 = .ok (.iload 4, 2) := by decide +kernel
theorem dX12_blind_83 : decode cX12_blind 83 = .ok (.iload 5, 2) := by decide +kernel
theorem dX12_blind_85 : decode cX12_blind 85 = .ok (.ixor, 1) := by decide +kernel
theorem dX12_blind_86 : decode cX12_blind 86 = .ok (.ifCond .eq 32, 3) := by decide +kernel
theorem dX12_blind_89 : decode cX12_blind 89 = .ok (.aload_n 0, 1) := by decide +kernel
theorem dX12_blind_90 : decode cX12_blind 90 = .ok (.getfield 16, 3) := by decide +kernel
theorem dX12_blind_93 : decode cX12_blind 93 = .ok (.iconst 1, 1) := by decide +kernel
theorem dX12_blind_94 : decode cX12_blind 94 = .ok (.iload_n 3, 1) := by decide +kernel
theorem dX12_blind_95 : decode cX12_blind 95 = .ok (.iadd, 1) := by decide +kernel
theorem dX12_blind_96 : decode cX12_blind 96 = .ok (.iload 4, 2) := by decide +kernel
theorem dX12_blind_98 : decode cX12_blind 98 = .ok (.iload 5, 2) := by decide +kernel
theorem dX12_blind_100 : decode cX12_blind 100 = .ok (.ixor, 1) := by decide +kernel
theorem dX12_blind_101 : decode cX12_blind 101 = .ok (.iastore, 1) := by decide +kernel
theorem dX12_blind_102 : decode cX12_blind 102 = .ok (.iload_n 2, 1) := by decide +kernel
theorem dX12_blind_103 : decode cX12_blind 103 = .ok (.aload_n 0, 1) := by decide +kernel
theorem dX12_blind_104 : decode cX12_blind 104 = .ok (.iload_n 1, 1) := by decide +kernel
theorem dX12_blind_105 : decode cX12_blind 105 = .ok (.invokevirtual 389, 3) := by decide +kernel
theorem dX12_blind_108 : decode cX12_blind 108 = .ok (.ifCond .ne 7, 3) := by decide +kernel
theorem dX12_blind_111 : decode cX12_blind 111 = .ok (.iconst 1, 1) := by decide +kernel
theorem dX12_blind_112 : decode cX12_blind 112 = .ok (.goto 4, 3) := by decide +kernel
theorem dX12_blind_115 : decode cX12_blind 115 = .ok (.iconst 0, 1) := by decide +kernel
theorem dX12_blind_116 : decode cX12_blind 116 = .ok (.iadd, 1) := by decide +kernel
theorem dX12_blind_117 : decode cX12_blind 117 = .ok (.istore_n 2, 1) := by decide +kernel
theorem dX12_blind_118 : decode cX12_blind 118 = .ok (.iinc 5 1, 3) := by decide +kernel
theorem dX12_blind_121 : decode cX12_blind 121 = .ok (.goto (-48), 3) := by decide +kernel
theorem dX12_blind_124 : decode cX12_blind 124 = .ok (.aload_n 0, 1) := by decide +kernel
theorem dX12_blind_125 : decode cX12_blind 125 = .ok (.getfield 16, 3) := by decide +kernel
theorem dX12_blind_128 : decode cX12_blind 128 = .ok (.iconst 1, 1) := by decide +kernel
theorem dX12_blind_129 : decode cX12_blind 129 = .ok (.iload_n 3, 1) := by decide +kernel
theorem dX12_blind_130 : decode cX12_blind 130 = .ok (.iadd, 1) := by decide +kernel
theorem dX12_blind_131 : decode cX12_blind 131 = .ok (.iload 4, 2) := by decide +kernel
theorem dX12_blind_133 : decode cX12_blind 133 = .ok (.iastore, 1) := by decide +kernel
theorem dX12_blind_134 : decode cX12_blind 134 = .ok (.iinc 3 1, 3) := by decide +kernel
theorem dX12_blind_137 : decode cX12_blind 137 = .ok (.goto (-87), 3) := by decide +kernel
theorem dX12_blind_140 : decode cX12_blind 140 = .ok (.iload_n 2, 1) := by decide +kernel
theorem dX12_blind_141 : decode cX12_blind 141 = .ok (.ireturn, 1) := by decide +kernel
theorem dX12_thereAll_0 : decode cX12_thereAll 0 = .ok (.iconst 0, 1) := by decide +kernel
theorem dX12_thereAll_1 : decode cX12_thereAll 1 = .ok (.istore_n 1, 1) := by decide +kernel
theorem dX12_thereAll_2 : decode cX12_thereAll 2 = .ok (.iconst 0, 1) := by decide +kernel
theorem dX12_thereAll_3 : decode cX12_thereAll 3 = .ok (.istore_n 2, 1) := by decide +kernel
theorem dX12_thereAll_4 : decode cX12_thereAll 4 = .ok (.iload_n 2, 1) := by decide +kernel
theorem dX12_thereAll_5 : decode cX12_thereAll 5 = .ok (.aload_n 0, 1) := by decide +kernel
theorem dX12_thereAll_6 : decode cX12_thereAll 6 = .ok (.getfield 198, 3) := by decide +kernel
theorem dX12_thereAll_9 : decode cX12_thereAll 9 = .ok (.if_icmp .ge 19, 3) := by decide +kernel
theorem dX12_thereAll_12 : decode cX12_thereAll 12 = .ok (.iload_n 1, 1) := by decide +kernel
theorem dX12_thereAll_13 : decode cX12_thereAll 13 = .ok (.aload_n 0, 1) := by decide +kernel
theorem dX12_thereAll_14 : decode cX12_thereAll 14 = .ok (.iload_n 2, 1) := by decide +kernel
theorem dX12_thereAll_15 : decode cX12_thereAll 15 = .ok (.bipush 7, 2) := by decide +kernel
theorem dX12_thereAll_17 : decode cX12_thereAll 17 = .ok (.invokevirtual 286, 3) := by decide +kernel
theorem dX12_thereAll_20 : decode cX12_thereAll 20 = .ok (.iadd, 1) := by decide +kernel
theorem dX12_thereAll_21 : decode cX12_thereAll 21 = .ok (.istore_n 1, 1) := by decide +kernel
theorem dX12_thereAll_22 : decode cX12_thereAll 22 = .ok (.iinc 2 1, 3) := by decide +kernel
theorem dX12_thereAll_25 : decode cX12_thereAll 25 = .ok (.goto (-21), 3) := by decide +kernel
theorem dX12_thereAll_28 : decode cX12_thereAll 28 = .ok (.iload_n 1, 1) := by decide +kernel
theorem dX12_thereAll_29 : decode cX12_thereAll 29 = .ok (.ireturn, 1) := by decide +kernel
theorem dX12_sumOf_0 : decode cX12_sumOf 0 = .ok (.iconst 0, 1) := by decide +kernel
theorem dX12_sumOf_1 : decode cX12_sumOf 1 = .ok (.istore_n 2, 1) := by decide +kernel
theorem dX12_sumOf_2 : decode cX12_sumOf 2 = .ok (.iconst 0, 1) := by decide +kernel
theorem dX12_sumOf_3 : decode cX12_sumOf 3 = .ok (.istore_n 3, 1) := by decide +kernel
theorem dX12_sumOf_4 : decode cX12_sumOf 4 = .ok (.iload_n 3, 1) := by decide +kernel
theorem dX12_sumOf_5 : decode cX12_sumOf 5 = .ok (.aload_n 0, 1) := by decide +kernel
theorem dX12_sumOf_6 : decode cX12_sumOf 6 = .ok (.getfield 198, 3) := by decide +kernel
theorem dX12_sumOf_9 : decode cX12_sumOf 9 = .ok (.if_icmp .ge 18, 3) := by decide +kernel
theorem dX12_sumOf_12 : decode cX12_sumOf 12 = .ok (.iload_n 2, 1) := by decide +kernel
theorem dX12_sumOf_13 : decode cX12_sumOf 13 = .ok (.aload_n 0, 1) := by decide +kernel
theorem dX12_sumOf_14 : decode cX12_sumOf 14 = .ok (.iload_n 3, 1) := by decide +kernel
theorem dX12_sumOf_15 : decode cX12_sumOf 15 = .ok (.iload_n 1, 1) := by decide +kernel
theorem dX12_sumOf_16 : decode cX12_sumOf 16 = .ok (.invokevirtual 286, 3) := by decide +kernel
theorem dX12_sumOf_19 : decode cX12_sumOf 19 = .ok (.iadd, 1) := by decide +kernel
theorem dX12_sumOf_20 : decode cX12_sumOf 20 = .ok (.istore_n 2, 1) := by decide +kernel
theorem dX12_sumOf_21 : decode cX12_sumOf 21 = .ok (.iinc 3 1, 3) := by decide +kernel
theorem dX12_sumOf_24 : decode cX12_sumOf 24 = .ok (.goto (-20), 3) := by decide +kernel
theorem dX12_sumOf_27 : decode cX12_sumOf 27 = .ok (.iload_n 2, 1) := by decide +kernel
theorem dX12_sumOf_28 : decode cX12_sumOf 28 = .ok (.ireturn, 1) := by decide +kernel
theorem dX12_harm_0 : decode cX12_harm 0 = .ok (.aload_n 0, 1) := by decide +kernel
theorem dX12_harm_1 : decode cX12_harm 1 = .ok (.iconst 0, 1) := by decide +kernel
theorem dX12_harm_2 : decode cX12_harm 2 = .ok (.putfield 60, 3) := by decide +kernel
theorem dX12_harm_5 : decode cX12_harm 5 = .ok (.aload_n 0, 1) := by decide +kernel
theorem dX12_harm_6 : decode cX12_harm 6 = .ok (.iload_n 1, 1) := by decide +kernel
theorem dX12_harm_7 : decode cX12_harm 7 = .ok (.invokevirtual 315, 3) := by decide +kernel
theorem dX12_harm_10 : decode cX12_harm 10 = .ok (.ifCond .eq 15, 3) := by decide +kernel
theorem dX12_harm_13 : decode cX12_harm 13 = .ok (.iload_n 2, 1) := by decide +kernel
theorem dX12_harm_14 : decode cX12_harm 14 = .ok (.i2l, 1) := by decide +kernel
theorem dX12_harm_15 : decode cX12_harm 15 = .ok (.lconst 1, 1) := by decide +kernel
theorem dX12_harm_16 : decode cX12_harm 16 = .ok (.ldc2_w 318, 3) := by decide +kernel
theorem dX12_harm_19 : decode cX12_harm 19 = .ok (.invokestatic 70, 3) := by decide +kernel
theorem dX12_harm_22 : decode cX12_harm 22 = .ok (.ifCond .ne 7, 3) := by decide +kernel
theorem dX12_harm_25 : decode cX12_harm 25 = .ok (.ldc_w 392, 3) := by decide +kernel
theorem dX12_harm_28 : decode cX12_harm 28 = .ok (.ireturn, 1) := by decide +kernel
theorem dX12_harm_29 : decode cX12_harm 29 = .ok (.aload_n 0, 1) := by decide +kernel
theorem dX12_harm_30 : decode cX12_harm 30 = .ok (.invokevirtual 340, 3) := by decide +kernel
theorem dX12_harm_33 : decode cX12_harm 33 = .ok (.aload_n 0, 1) := by decide +kernel
theorem dX12_harm_34 : decode cX12_harm 34 = .ok (.aload_n 0, 1) := by decide +kernel
theorem dX12_harm_35 : decode cX12_harm 35 = .ok (.getfield 16, 3) := by decide +kernel
theorem dX12_harm_38 : decode cX12_harm 38 = .ok (.iconst 0, 1) := by decide +kernel
theorem dX12_harm_39 : decode cX12_harm 39 = .ok (.iaload, 1) := by decide +kernel
theorem dX12_harm_40 : decode cX12_harm 40 = .ok (.invokevirtual 376, 3) := by decide +kernel
theorem dX12_harm_43 : decode cX12_harm 43 = .ok (.aload_n 0, 1) := by decide +kernel
theorem dX12_harm_44 : decode cX12_harm 44 = .ok (.invokevirtual 393, 3) := by decide +kernel
theorem dX12_harm_47 : decode cX12_harm 47 = .ok (.istore_n 3, 1) := by decide +kernel
theorem dX12_harm_48 : decode cX12_harm 48 = .ok (.aload_n 0, 1) := by decide +kernel
theorem dX12_harm_49 : decode cX12_harm 49 = .ok (.invokevirtual 396, 3) := by decide +kernel
theorem dX12_harm_52 : decode cX12_harm 52 = .ok (.aload_n 0, 1) := by decide +kernel
theorem dX12_harm_53 : decode cX12_harm 53 = .ok (.getfield 16, 3) := by decide +kernel
theorem dX12_harm_56 : decode cX12_harm 56 = .ok (.iconst 1, 1) := by decide +kernel
theorem dX12_harm_57 : decode cX12_harm 57 = .ok (.iload_n 1, 1) := by decide +kernel
theorem dX12_harm_58 : decode cX12_harm 58 = .ok (.iadd, 1) := by decide +kernel
theorem dX12_harm_59 : decode cX12_harm 59 = .ok (.dup2, 1) := by decide +kernel
theorem dX12_harm_60 : decode cX12_harm 60 = .ok (.iaload, 1) := by decide +kernel
theorem dX12_harm_61 : decode cX12_harm 61 = .ok (.iload_n 2, 1) := by decide +kernel
theorem dX12_harm_62 : decode cX12_harm 62 = .ok (.ixor, 1) := by decide +kernel
theorem dX12_harm_63 : decode cX12_harm 63 = .ok (.iastore, 1) := by decide +kernel
theorem dX12_harm_64 : decode cX12_harm 64 = .ok (.aload_n 0, 1) := by decide +kernel
theorem dX12_harm_65 : decode cX12_harm 65 = .ok (.aload_n 0, 1) := by decide +kernel
theorem dX12_harm_66 : decode cX12_harm 66 = .ok (.getfield 16, 3) := by decide +kernel
theorem dX12_harm_69 : decode cX12_harm 69 = .ok (.iconst 0, 1) := by decide +kernel
theorem dX12_harm_70 : decode cX12_harm 70 = .ok (.iaload, 1) := by decide +kernel
theorem dX12_harm_71 : decode cX12_harm 71 = .ok (.invokevirtual 376, 3) := by decide +kernel
theorem dX12_harm_74 : decode cX12_harm 74 = .ok (.aload_n 0, 1) := by decide +kernel
theorem dX12_harm_75 : decode cX12_harm 75 = .ok (.invokevirtual 393, 3) := by decide +kernel
theorem dX12_harm_78 : decode cX12_harm 78 = .ok (.istore 4, 2) := by decide +kernel
theorem dX12_harm_80 : decode cX12_harm 80 = .ok (.aload_n 0, 1) := by decide +kernel
theorem dX12_harm_81 : decode cX12_harm 81 = .ok (.invokevirtual 396, 3) := by decide +kernel
theorem dX12_harm_84 : decode cX12_harm 84 = .ok (.iload_n 3, 1) := by decide +kernel
theorem dX12_harm_85 : decode cX12_harm 85 = .ok (.iload 4, 2) := by decide +kernel
theorem dX12_harm_87 : decode cX12_harm 87 = .ok (.isub, 1) := by decide +kernel
theorem dX12_harm_88 : decode cX12_harm 88 = .ok (.ireturn, 1) := by decide +kernel
theorem dX12_cost_0 : decode cX12_cost 0 = .ok (.aload_n 0, 1) := by decide +kernel
theorem dX12_cost_1 : decode cX12_cost 1 = .ok (.iconst 0, 1) := by decide +kernel
theorem dX12_cost_2 : decode cX12_cost 2 = .ok (.putfield 60, 3) := by decide +kernel
theorem dX12_cost_5 : decode cX12_cost 5 = .ok (.aload_n 0, 1) := by decide +kernel
theorem dX12_cost_6 : decode cX12_cost 6 = .ok (.getfield 188, 3) := by decide +kernel
theorem dX12_cost_9 : decode cX12_cost 9 = .ok (.ifCond .eq 25, 3) := by decide +kernel
theorem dX12_cost_12 : decode cX12_cost 12 = .ok (.iload_n 1, 1) := by decide +kernel
theorem dX12_cost_13 : decode cX12_cost 13 = .ok (.i2l, 1) := by decide +kernel
theorem dX12_cost_14 : decode cX12_cost 14 = .ok (.lconst 0, 1) := by decide +kernel
theorem dX12_cost_15 : decode cX12_cost 15 = .ok (.ldc2_w 399, 3) := by decide +kernel
theorem dX12_cost_18 : decode cX12_cost 18 = .ok (.invokestatic 70, 3) := by decide +kernel
theorem dX12_cost_21 : decode cX12_cost 21 = .ok (.ifCond .eq 13, 3) := by decide +kernel
theorem dX12_cost_24 : decode cX12_cost 24 = .ok (.iload_n 2, 1) := by decide +kernel
theorem dX12_cost_25 : decode cX12_cost 25 = .ok (.i2l, 1) := by decide +kernel
theorem dX12_cost_26 : decode cX12_cost 26 = .ok (.lconst 0, 1) := by decide +kernel
theorem dX12_cost_27 : decode cX12_cost 27 = .ok (.lconst 1, 1) := by decide +kernel
theorem dX12_cost_28 : decode cX12_cost 28 = .ok (.invokestatic 70, 3) := by decide +kernel
theorem dX12_cost_31 : decode cX12_cost 31 = .ok (.ifCond .ne 5, 3) := by decide +kernel
theorem dX12_cost_34 : decode cX12_cost 34 = .ok (.iconst (-1), 1) := by decide +kernel
theorem dX12_cost_35 : decode cX12_cost 35 = .ok (.ireturn, 1) := by decide +kernel
theorem dX12_cost_36 : decode cX12_cost 36 = .ok (.iconst 0, 1) := by decide +kernel
theorem dX12_cost_37 : decode cX12_cost 37 = .ok (.istore_n 3, 1) := by decide +kernel
theorem dX12_cost_38 : decode cX12_cost 38 = .ok (.iconst 0, 1) := by decide +kernel
theorem dX12_cost_39 : decode cX12_cost 39 = .ok (.istore 4, 2) := by decide +kernel
theorem dX12_cost_41 : decode cX12_cost 41 = .ok (.iload_n 1, 1) := by decide +kernel
theorem dX12_cost_42 : decode cX12_cost 42 = .ok (.istore 5, 2) := by decide +kernel
theorem dX12_cost_44 : decode cX12_cost 44 = .ok (.aload_n 0, 1) := by decide +kernel
theorem dX12_cost_45 : decode cX12_cost 45 = .ok (.getfield 196, 3) := by decide +kernel
theorem dX12_cost_48 : decode cX12_cost 48 = .ok (.iload 5, 2) := by decide +kernel
theorem dX12_cost_50 : decode cX12_cost 50 = .ok (.invokestatic 97, 3) := by decide +kernel
theorem dX12_cost_53 : decode cX12_cost 53 = .ok (.istore 6, 2) := by decide +kernel
theorem dX12_cost_55 : decode cX12_cost 55 = .ok (.iinc 3 1, 3) := by decide +kernel
theorem dX12_cost_58 : decode cX12_cost 58 = .ok (.iload 4, 2) := by decide +kernel
theorem dX12_cost_60 : decode cX12_cost 60 = .ok (.aload_n 0, 1) := by decide +kernel
theorem dX12_cost_61 : decode cX12_cost 61 = .ok (.iconst 1, 1) := by decide +kernel
theorem dX12_cost_62 : decode cX12_cost 62 = .ok (.iload 6, 2) := by decide +kernel
theorem dX12_cost_64 : decode cX12_cost 64 = .ok (.iadd, 1) := by decide +kernel
theorem dX12_cost_65 : decode cX12_cost 65 = .ok (.aload_n 0, 1) := by decide +kernel
theorem dX12_cost_66 : decode cX12_cost 66 = .ok (.invokevirtual 268, 3) := by decide +kernel
theorem dX12_cost_69 : decode cX12_cost 69 = .ok (.iadd, 1) := by decide +kernel
theorem dX12_cost_70 : decode cX12_cost 70 = .ok (.invokevirtual 265, 3) := by decide +kernel
theorem dX12_cost_73 : decode cX12_cost 73 = .ok (.iconst 1, 1) := by decide +kernel
theorem dX12_cost_74 : decode cX12_cost 74 = .ok (.iadd, 1) := by decide +kernel
theorem dX12_cost_75 : decode cX12_cost 75 = .ok (.iadd, 1) := by decide +kernel
theorem dX12_cost_76 : decode cX12_cost 76 = .ok (.istore 4, 2) := by decide +kernel
theorem dX12_cost_78 : decode cX12_cost 78 = .ok (.iload 5, 2) := by decide +kernel
theorem dX12_cost_80 : decode cX12_cost 80 = .ok (.iload 6, 2) := by decide +kernel
theorem dX12_cost_82 : decode cX12_cost 82 = .ok (.isub, 1) := by decide +kernel
theorem dX12_cost_83 : decode cX12_cost 83 = .ok (.istore 5, 2) := by decide +kernel
theorem dX12_cost_85 : decode cX12_cost 85 = .ok (.iload 5, 2) := by decide +kernel
theorem dX12_cost_87 : decode cX12_cost 87 = .ok (.ifCond .gt (-43), 3) := by decide +kernel
theorem dX12_cost_90 : decode cX12_cost 90 = .ok (.iload_n 2, 1) := by decide +kernel
theorem dX12_cost_91 : decode cX12_cost 91 = .ok (.ifCond .ne 7, 3) := by decide +kernel
theorem dX12_cost_94 : decode cX12_cost 94 = .ok (.iload_n 3, 1) := by decide +kernel
theorem dX12_cost_95 : decode cX12_cost 95 = .ok (.goto 5, 3) := by decide +kernel
theorem dX12_cost_98 : decode cX12_cost 98 = .ok (.iload 4, 2) := by decide +kernel
theorem dX12_cost_100 : decode cX12_cost 100 = .ok (.ireturn, 1) := by decide +kernel
theorem dX12_share_0 : decode cX12_share 0 = .ok (.aload_n 0, 1) := by decide +kernel
theorem dX12_share_1 : decode cX12_share 1 = .ok (.iconst 0, 1) := by decide +kernel
theorem dX12_share_2 : decode cX12_share 2 = .ok (.putfield 60, 3) := by decide +kernel
theorem dX12_share_5 : decode cX12_share 5 = .ok (.aload_n 0, 1) := by decide +kernel
theorem dX12_share_6 : decode cX12_share 6 = .ok (.iload_n 1, 1) := by decide +kernel
theorem dX12_share_7 : decode cX12_share 7 = .ok (.invokevirtual 283, 3) := by decide +kernel
theorem dX12_share_10 : decode cX12_share 10 = .ok (.ifCond .eq 15, 3) := by decide +kernel
theorem dX12_share_13 : decode cX12_share 13 = .ok (.iload_n 2, 1) := by decide +kernel
theorem dX12_share_14 : decode cX12_share 14 = .ok (.i2l, 1) := by decide +kernel
theorem dX12_share_15 : decode cX12_share 15 = .ok (.lconst 0, 1) := by decide +kernel
theorem dX12_share_16 : decode cX12_share 16 = .ok (.ldc2_w 278, 3) := by decide +kernel
theorem dX12_share_19 : decode cX12_share 19 = .ok (.invokestatic 70, 3) := by decide +kernel
theorem dX12_share_22 : decode cX12_share 22 = .ok (.ifCond .ne 5, 3) := by decide +kernel
theorem dX12_share_25 : decode cX12_share 25 = .ok (.iconst (-1), 1) := by decide +kernel
theorem dX12_share_26 : decode cX12_share 26 = .ok (.ireturn, 1) := by decide +kernel
theorem dX12_share_27 : decode cX12_share 27 = .ok (.iconst 0, 1) := by decide +kernel
theorem dX12_share_28 : decode cX12_share 28 = .ok (.istore_n 3, 1) := by decide +kernel
theorem dX12_share_29 : decode cX12_share 29 = .ok (.iconst 0, 1) := by decide +kernel
theorem dX12_share_30 : decode cX12_share 30 = .ok (.istore 4, 2) := by decide +kernel
theorem dX12_share_32 : decode cX12_share 32 = .ok (.iconst 0, 1) := by decide +kernel
theorem dX12_share_33 : decode cX12_share 33 = .ok (.istore 5, 2) := by decide +kernel
theorem dX12_share_35 : decode cX12_share 35 = .ok (.iconst 0, 1) := by decide +kernel
theorem dX12_share_36 : decode cX12_share 36 = .ok (.istore 6, 2) := by decide +kernel
theorem dX12_share_38 : decode cX12_share 38 = .ok (.iconst (-1), 1) := by decide +kernel
theorem dX12_share_39 : decode cX12_share 39 = .ok (.istore 7, 2) := by decide +kernel
theorem dX12_share_41 : decode cX12_share 41 = .ok (.aload_n 0, 1) := by decide +kernel
theorem dX12_share_42 : decode cX12_share 42 = .ok (.invokevirtual 386, 3) := by decide +kernel
theorem dX12_share_45 : decode cX12_share 45 = .ok (.pop, 1) := by decide +kernel
theorem dX12_share_46 : decode cX12_share 46 = .ok (.iconst 0, 1) := by decide +kernel
theorem dX12_share_47 : decode cX12_share 47 = .ok (.istore 8, 2) := by decide +kernel
theorem dX12_share_49 : decode cX12_share 49 = .ok (.iload 8, 2) := by decide +kernel
theorem dX12_share_51 : decode cX12_share 51 = .ok (.aload_n 0, 1) := by decide +kernel
theorem dX12_share_52 : decode cX12_share 52 = .ok (.getfield 383, 3) := by decide +kernel
theorem dX12_share_55 : decode cX12_share 55 = .ok (.if_icmp .ge 108, 3) := by decide +kernel
theorem dX12_share_58 : decode cX12_share 58 = .ok (.aload_n 0, 1) := by decide +kernel
theorem dX12_share_59 : decode cX12_share 59 = .ok (.iload 8, 2) := by decide +kernel
theorem dX12_share_61 : decode cX12_share 61 = .ok (.invokevirtual 389, 3) := by decide +kernel
theorem dX12_share_64 : decode cX12_share 64 = .ok (.ifCond .ne 93, 3) := by decide +kernel
theorem dX12_share_67 : decode cX12_share 67 = .ok (.aload_n 0, 1) := by decide +kernel
theorem dX12_share_68 : decode cX12_share 68 = .ok (.getfield 29, 3) := by decide +kernel
theorem dX12_share_71 : decode cX12_share 71 = .ok (.iconst 0, 1) := by decide +kernel
theorem dX12_share_72 : decode cX12_share 72 = .ok (.iaload, 1) := by decide +kernel
theorem dX12_share_73 : decode cX12_share 73 = .ok (.bipush 64, 2) := by decide +kernel
theorem dX12_share_75 : decode cX12_share 75 = .ok (.idiv, 1) := by decide +kernel
theorem dX12_share_76 : decode cX12_share 76 = .ok (.iload_n 1, 1) := by decide +kernel
theorem dX12_share_77 : decode cX12_share 77 = .ok (.if_icmp .ne 80, 3) := by decide +kernel
theorem dX12_share_80 : decode cX12_share 80 = .ok (.aload_n 0, 1) := by decide +kernel
theorem dX12_share_81 : decode cX12_share 81 = .ok (.getfield 29, 3) := by decide +kernel
theorem dX12_share_84 : decode cX12_share 84 = .ok (.iconst 0, 1) := by decide +kernel
theorem dX12_share_85 : decode cX12_share 85 = .ok (.iaload, 1) := by decide +kernel
theorem dX12_share_86 : decode cX12_share 86 = .ok (.bipush 16, 2) := by decide +kernel
theorem dX12_share_88 : decode cX12_share 88 = .ok (.irem, 1) := by decide +kernel
theorem dX12_share_89 : decode cX12_share 89 = .ok (.istore 9, 2) := by decide +kernel
theorem dX12_share_91 : decode cX12_share 91 = .ok (.iinc 3 1, 3) := by decide +kernel
theorem dX12_share_94 : decode cX12_share 94 = .ok (.iload 4, 2) := by decide +kernel
theorem dX12_share_96 : decode cX12_share 96 = .ok (.aload_n 0, 1) := by decide +kernel
theorem dX12_share_97 : decode cX12_share 97 = .ok (.getfield 54, 3) := by decide +kernel
theorem dX12_share_100 : decode cX12_share 100 = .ok (.iload 8, 2) := by decide +kernel
theorem dX12_share_102 : decode cX12_share 102 = .ok (.iaload, 1) := by decide +kernel
theorem dX12_share_103 : decode cX12_share 103 = .ok (.aload_n 0, 1) := by decide +kernel
theorem dX12_share_104 : decode cX12_share 104 = .ok (.getfield 51, 3) := by decide +kernel
theorem dX12_share_107 : decode cX12_share 107 = .ok (.iload 8, 2) := by decide +kernel
theorem dX12_share_109 : decode cX12_share 109 = .ok (.iaload, 1) := by decide +kernel
theorem dX12_share_110 : decode cX12_share 110 = .ok (.isub, 1) := by decide +kernel
theorem dX12_share_111 : decode cX12_share 111 = .ok (.iconst 1, 1) := by decide +kernel
theorem dX12_share_112 : decode cX12_share 112 = .ok (.iadd, 1) := by decide +kernel
theorem dX12_share_113 : decode cX12_share 113 = .ok (.iadd, 1) := by decide +kernel
theorem dX12_share_114 : decode cX12_share 114 = .ok (.istore 4, 2) := by decide +kernel
theorem dX12_share_116 : decode cX12_share 116 = .ok (.iload 6, 2) := by decide +kernel
theorem dX12_share_118 : decode cX12_share 118 = .ok (.aload_n 0, 1) := by decide +kernel
theorem dX12_share_119 : decode cX12_share 119 = .ok (.invokevirtual 352, 3) := by decide +kernel
theorem dX12_share_122 : decode cX12_share 122 = .ok (.iadd, 1) := by decide +kernel
theorem dX12_share_123 : decode cX12_share 123 = .ok (.istore 6, 2) := by decide +kernel
theorem dX12_share_125 : decode cX12_share 125 = .ok (.iload 5, 2) := by decide +kernel
theorem dX12_share_127 : decode cX12_share 127 = .ok (.iload 7, 2) := by decide +kernel
theorem dX12_share_129 : decode cX12_share 129 = .ok (.iconst (-1), 1) := by decide +kernel
theorem dX12_share_130 : decode cX12_share 130 = .ok (.if_icmp .ne 7, 3) := by decide +kernel
theorem dX12_share_133 : decode cX12_share 133 = .ok (.iconst 0, 1) := by decide +kernel
theorem dX12_share_134 : decode cX12_share 134 = .ok (.goto 16, 3) := by decide +kernel
theorem dX12_share_137 : decode cX12_share 137 = .ok (.iload 9, 2) := by decide +kernel
theorem dX12_share_139 : decode cX12_share 139 = .ok (.iload 7, 2) := by decide +kernel
theorem dX12_share_141 : decode cX12_share 141 = .ok (.isub, 1) := by decide +kernel
theorem dX12_share_142 : decode cX12_share 142 = .ok (.iconst 1, 1) := by decide +kernel
theorem dX12_share_143 : decode cX12_share 143 = .ok (.isub, 1) := by decide +kernel
theorem dX12_share_144 : decode cX12_share 144 = .ok (.bipush 32, 2) := by decide +kernel
theorem dX12_share_146 : decode cX12_share 146 = .ok (.iadd, 1) := by decide +kernel
theorem dX12_share_147 : decode cX12_share 147 = .ok (.bipush 16, 2) := by decide +kernel
theorem dX12_share_149 : decode cX12_share 149 = .ok (.irem, 1) := by decide +kernel
theorem dX12_share_150 : decode cX12_share 150 = .ok (.iadd, 1) := by decide +kernel
theorem dX12_share_151 : decode cX12_share 151 = .ok (.istore 5, 2) := by decide +kernel
theorem dX12_share_153 : decode cX12_share 153 = .ok (.iload 9, 2) := by decide +kernel
theorem dX12_share_155 : decode cX12_share 155 = .ok (.istore 7, 2) := by decide +kernel
theorem dX12_share_157 : decode cX12_share 157 = .ok (.iinc 8 1, 3) := by decide +kernel
theorem dX12_share_160 : decode cX12_share 160 = .ok (.goto (-111), 3) := by decide +kernel
theorem dX12_share_163 : decode cX12_share 163 = .ok (.iload_n 2, 1) := by decide +kernel
theorem dX12_share_164 : decode cX12_share 164 = .ok (.ifCond .ne 7, 3) := by decide +kernel
theorem dX12_share_167 : decode cX12_share 167 = .ok (.iload_n 3, 1) := by decide +kernel
theorem dX12_share_168 : decode cX12_share 168 = .ok (.goto 25, 3) := by decide +kernel
theorem dX12_share_171 : decode cX12_share 171 = .ok (.iload_n 2, 1) := by decide +kernel
theorem dX12_share_172 : decode cX12_share 172 = .ok (.iconst 1, 1) := by decide +kernel
theorem dX12_share_173 : decode cX12_share 173 = .ok (.if_icmp .ne 8, 3) := by decide +kernel
theorem dX12_share_176 : decode cX12_share 176 = .ok (.iload 4, 2) := by decide +kernel
theorem dX12_share_178 : decode cX12_share 178 = .ok (.goto 15, 3) := by decide +kernel
theorem dX12_share_181 : decode cX12_share 181 = .ok (.iload_n 2, 1) := by decide +kernel
theorem dX12_share_182 : decode cX12_share 182 = .ok (.iconst 2, 1) := by decide +kernel
theorem dX12_share_183 : decode cX12_share 183 = .ok (.if_icmp .ne 8, 3) := by decide +kernel
theorem dX12_share_186 : decode cX12_share 186 = .ok (.iload 5, 2) := by decide +kernel
theorem dX12_share_188 : decode cX12_share 188 = .ok (.goto 5, 3) := by decide +kernel
theorem dX12_share_191 : decode cX12_share 191 = .ok (.iload 6, 2) := by decide +kernel
theorem dX12_share_193 : decode cX12_share 193 = .ok (.ireturn, 1) := by decide +kernel
theorem dX12_flushed_0 : decode cX12_flushed 0 = .ok (.aload_n 0, 1) := by decide +kernel
theorem dX12_flushed_1 : decode cX12_flushed 1 = .ok (.iconst 0, 1) := by decide +kernel
theorem dX12_flushed_2 : decode cX12_flushed 2 = .ok (.putfield 60, 3) := by decide +kernel
theorem dX12_flushed_5 : decode cX12_flushed 5 = .ok (.aload_n 0, 1) := by decide +kernel
theorem dX12_flushed_6 : decode cX12_flushed 6 = .ok (.getfield 188, 3) := by decide +kernel
theorem dX12_flushed_9 : decode cX12_flushed 9 = .ok (.ifCond .eq 15, 3) := by decide +kernel
theorem dX12_flushed_12 : decode cX12_flushed 12 = .ok (.iload_n 1, 1) := by decide +kernel
theorem dX12_flushed_13 : decode cX12_flushed 13 = .ok (.i2l, 1) := by decide +kernel
theorem dX12_flushed_14 : decode cX12_flushed 14 = .ok (.lconst 0, 1) := by decide +kernel
theorem dX12_flushed_15 : decode cX12_flushed 15 = .ok (.ldc2_w 379, 3) := by decide +kernel
theorem dX12_flushed_18 : decode cX12_flushed 18 = .ok (.invokestatic 70, 3) := by decide +kernel
theorem dX12_flushed_21 : decode cX12_flushed 21 = .ok (.ifCond .ne 5, 3) := by decide +kernel
theorem dX12_flushed_24 : decode cX12_flushed 24 = .ok (.iconst (-1), 1) := by decide +kernel
theorem dX12_flushed_25 : decode cX12_flushed 25 = .ok (.ireturn, 1) := by decide +kernel
theorem dX12_flushed_26 : decode cX12_flushed 26 = .ok (.aload_n 0, 1) := by decide +kernel
theorem dX12_flushed_27 : decode cX12_flushed 27 = .ok (.invokevirtual 340, 3) := by decide +kernel
theorem dX12_flushed_30 : decode cX12_flushed 30 = .ok (.aload_n 0, 1) := by decide +kernel
theorem dX12_flushed_31 : decode cX12_flushed 31 = .ok (.getfield 16, 3) := by decide +kernel
theorem dX12_flushed_34 : decode cX12_flushed 34 = .ok (.sipush 804, 3) := by decide +kernel
theorem dX12_flushed_37 : decode cX12_flushed 37 = .ok (.iaload, 1) := by decide +kernel
theorem dX12_flushed_38 : decode cX12_flushed 38 = .ok (.istore_n 2, 1) := by decide +kernel
theorem dX12_flushed_39 : decode cX12_flushed 39 = .ok (.iconst 1, 1) := by decide +kernel
theorem dX12_flushed_40 : decode cX12_flushed 40 = .ok (.istore_n 3, 1) := by decide +kernel
theorem dX12_flushed_41 : decode cX12_flushed 41 = .ok (.iload_n 3, 1) := by decide +kernel
theorem dX12_flushed_42 : decode cX12_flushed 42 = .ok (.ifCond .eq 48, 3) := by decide +kernel
theorem dX12_flushed_45 : decode cX12_flushed 45 = .ok (.iconst 1, 1) := by decide +kernel
theorem dX12_flushed_46 : decode cX12_flushed 46 = .ok (.istore 4, 2) := by decide +kernel
theorem dX12_flushed_48 : decode cX12_flushed 48 = .ok (.iload 4, 2) := by decide +kernel
theorem dX12_flushed_50 : decode cX12_flushed 50 = .ok (.ifCond .eq 12, 3) := by decide +kernel
theorem dX12_flushed_53 : decode cX12_flushed 53 = .ok (.aload_n 0, 1) := by decide +kernel
theorem dX12_flushed_54 : decode cX12_flushed 54 = .ok (.invokevirtual 312, 3) := by decide +kernel
theorem dX12_flushed_57 : decode cX12_flushed 57 = .ok (.istore 4, 2) := by decide +kernel
theorem dX12_flushed_59 : decode cX12_flushed 59 = .ok (.goto (-11), 3) := by decide +kernel
theorem dX12_flushed_62 : decode cX12_flushed 62 = .ok (.aload_n 0, 1) := by decide +kernel
theorem dX12_flushed_63 : decode cX12_flushed 63 = .ok (.getfield 16, 3) := by decide +kernel
theorem dX12_flushed_66 : decode cX12_flushed 66 = .ok (.iconst 0, 1) := by decide +kernel
theorem dX12_flushed_67 : decode cX12_flushed 67 = .ok (.iaload, 1) := by decide +kernel
theorem dX12_flushed_68 : decode cX12_flushed 68 = .ok (.ifCond .le 7, 3) := by decide +kernel
theorem dX12_flushed_71 : decode cX12_flushed 71 = .ok (.iconst 1, 1) := by decide +kernel
theorem dX12_flushed_72 : decode cX12_flushed 72 = .ok (.goto 4, 3) := by decide +kernel
theorem dX12_flushed_75 : decode cX12_flushed 75 = .ok (.iconst 0, 1) := by decide +kernel
theorem dX12_flushed_76 : decode cX12_flushed 76 = .ok (.istore_n 3, 1) := by decide +kernel
theorem dX12_flushed_77 : decode cX12_flushed 77 = .ok (.aload_n 0, 1) := by decide +kernel
theorem dX12_flushed_78 : decode cX12_flushed 78 = .ok (.aload_n 0, 1) := by decide +kernel
theorem dX12_flushed_79 : decode cX12_flushed 79 = .ok (.getfield 16, 3) := by decide +kernel
theorem dX12_flushed_82 : decode cX12_flushed 82 = .ok (.iconst 0, 1) := by decide +kernel
theorem dX12_flushed_83 : decode cX12_flushed 83 = .ok (.iaload, 1) := by decide +kernel
theorem dX12_flushed_84 : decode cX12_flushed 84 = .ok (.invokevirtual 376, 3) := by decide +kernel
theorem dX12_flushed_87 : decode cX12_flushed 87 = .ok (.goto (-46), 3) := by decide +kernel
theorem dX12_flushed_90 : decode cX12_flushed 90 = .ok (.iload_n 1, 1) := by decide +kernel
theorem dX12_flushed_91 : decode cX12_flushed 91 = .ok (.ifCond .ne 12, 3) := by decide +kernel
theorem dX12_flushed_94 : decode cX12_flushed 94 = .ok (.aload_n 0, 1) := by decide +kernel
theorem dX12_flushed_95 : decode cX12_flushed 95 = .ok (.bipush 7, 2) := by decide +kernel
theorem dX12_flushed_97 : decode cX12_flushed 97 = .ok (.invokevirtual 401, 3) := by decide +kernel
theorem dX12_flushed_100 : decode cX12_flushed 100 = .ok (.goto 53, 3) := by decide +kernel
theorem dX12_flushed_103 : decode cX12_flushed 103 = .ok (.iload_n 1, 1) := by decide +kernel
theorem dX12_flushed_104 : decode cX12_flushed 104 = .ok (.iconst 1, 1) := by decide +kernel
theorem dX12_flushed_105 : decode cX12_flushed 105 = .ok (.if_icmp .ne 11, 3) := by decide +kernel
theorem dX12_flushed_108 : decode cX12_flushed 108 = .ok (.aload_n 0, 1) := by decide +kernel
theorem dX12_flushed_109 : decode cX12_flushed 109 = .ok (.iconst 5, 1) := by decide +kernel
theorem dX12_flushed_110 : decode cX12_flushed 110 = .ok (.invokevirtual 401, 3) := by decide +kernel
theorem dX12_flushed_113 : decode cX12_flushed 113 = .ok (.goto 40, 3) := by decide +kernel
theorem dX12_flushed_116 : decode cX12_flushed 116 = .ok (.iload_n 1, 1) := by decide +kernel
theorem dX12_flushed_117 : decode cX12_flushed 117 = .ok (.iconst 2, 1) := by decide +kernel
theorem dX12_flushed_118 : decode cX12_flushed 118 = .ok (.if_icmp .ne 12, 3) := by decide +kernel
theorem dX12_flushed_121 : decode cX12_flushed 121 = .ok (.aload_n 0, 1) := by decide +kernel
theorem dX12_flushed_122 : decode cX12_flushed 122 = .ok (.bipush 6, 2) := by decide +kernel
theorem dX12_flushed_124 : decode cX12_flushed 124 = .ok (.invokevirtual 401, 3) := by decide +kernel
theorem dX12_flushed_127 : decode cX12_flushed 127 = .ok (.goto 26, 3) := by decide +kernel
theorem dX12_flushed_130 : decode cX12_flushed 130 = .ok (.iload_n 1, 1) := by decide +kernel
theorem dX12_flushed_131 : decode cX12_flushed 131 = .ok (.iconst 3, 1) := by decide +kernel
theorem dX12_flushed_132 : decode cX12_flushed 132 = .ok (.if_icmp .ne 11, 3) := by decide +kernel
theorem dX12_flushed_135 : decode cX12_flushed 135 = .ok (.aload_n 0, 1) := by decide +kernel
theorem dX12_flushed_136 : decode cX12_flushed 136 = .ok (.iconst 1, 1) := by decide +kernel
theorem dX12_flushed_137 : decode cX12_flushed 137 = .ok (.invokevirtual 401, 3) := by decide +kernel
theorem dX12_flushed_140 : decode cX12_flushed 140 = .ok (.goto 13, 3) := by decide +kernel
theorem dX12_flushed_143 : decode cX12_flushed 143 = .ok (.aload_n 0, 1) := by decide +kernel
theorem dX12_flushed_144 : decode cX12_flushed 144 = .ok (.getfield 16, 3) := by decide +kernel
theorem dX12_flushed_147 : decode cX12_flushed 147 = .ok (.sipush 804, 3) := by decide +kernel
theorem dX12_flushed_150 : decode cX12_flushed 150 = .ok (.iaload, 1) := by decide +kernel
theorem dX12_flushed_151 : decode cX12_flushed 151 = .ok (.iload_n 2, 1) := by decide +kernel
theorem dX12_flushed_152 : decode cX12_flushed 152 = .ok (.isub, 1) := by decide +kernel
theorem dX12_flushed_153 : decode cX12_flushed 153 = .ok (.istore 4, 2) := by decide +kernel
theorem dX12_flushed_155 : decode cX12_flushed 155 = .ok (.aload_n 0, 1) := by decide +kernel
theorem dX12_flushed_156 : decode cX12_flushed 156 = .ok (.invokevirtual 396, 3) := by decide +kernel
theorem dX12_flushed_159 : decode cX12_flushed 159 = .ok (.iload 4, 2) := by decide +kernel
theorem dX12_flushed_161 : decode cX12_flushed 161 = .ok (.ireturn, 1) := by decide +kernel
theorem dX12_image_0 : decode cX12_image 0 = .ok (.aload_n 0, 1) := by decide +kernel
theorem dX12_image_1 : decode cX12_image 1 = .ok (.iconst 0, 1) := by decide +kernel
theorem dX12_image_2 : decode cX12_image 2 = .ok (.putfield 60, 3) := by decide +kernel
theorem dX12_image_5 : decode cX12_image 5 = .ok (.aload_n 0, 1) := by decide +kernel
theorem dX12_image_6 : decode cX12_image 6 = .ok (.getfield 188, 3) := by decide +kernel
theorem dX12_image_9 : decode cX12_image 9 = .ok (.ifCond .ne 5, 3) := by decide +kernel
theorem dX12_image_12 : decode cX12_image 12 = .ok (.iconst (-1), 1) := by decide +kernel
theorem dX12_image_13 : decode cX12_image 13 = .ok (.ireturn, 1) := by decide +kernel
theorem dX12_image_14 : decode cX12_image 14 = .ok (.iconst 0, 1) := by decide +kernel
theorem dX12_image_15 : decode cX12_image 15 = .ok (.istore_n 1, 1) := by decide +kernel
theorem dX12_image_16 : decode cX12_image 16 = .ok (.iload_n 1, 1) := by decide +kernel
theorem dX12_image_17 : decode cX12_image 17 = .ok (.sipush 9309, 3) := by decide +kernel
theorem dX12_image_20 : decode cX12_image 20 = .ok (.if_icmp .ge 21, 3) := by decide +kernel
theorem dX12_image_23 : decode cX12_image 23 = .ok (.aload_n 0, 1) := by decide +kernel
theorem dX12_image_24 : decode cX12_image 24 = .ok (.getfield 57, 3) := by decide +kernel
theorem dX12_image_27 : decode cX12_image 27 = .ok (.iload_n 1, 1) := by decide +kernel
theorem dX12_image_28 : decode cX12_image 28 = .ok (.aload_n 0, 1) := by decide +kernel
theorem dX12_image_29 : decode cX12_image 29 = .ok (.getfield 16, 3) := by decide +kernel
theorem dX12_image_32 : decode cX12_image 32 = .ok (.iload_n 1, 1) := by decide +kernel
theorem dX12_image_33 : decode cX12_image 33 = .ok (.iaload, 1) := by decide +kernel
theorem dX12_image_34 : decode cX12_image 34 = .ok (.iastore, 1) := by decide +kernel
theorem dX12_image_35 : decode cX12_image 35 = .ok (.iinc 1 1, 3) := by decide +kernel
theorem dX12_image_38 : decode cX12_image 38 = .ok (.goto (-22), 3) := by decide +kernel
theorem dX12_image_41 : decode cX12_image 41 = .ok (.aload_n 0, 1) := by decide +kernel
theorem dX12_image_42 : decode cX12_image 42 = .ok (.iconst 1, 1) := by decide +kernel
theorem dX12_image_43 : decode cX12_image 43 = .ok (.putfield 208, 3) := by decide +kernel
theorem dX12_image_46 : decode cX12_image 46 = .ok (.aload_n 0, 1) := by decide +kernel
theorem dX12_image_47 : decode cX12_image 47 = .ok (.getfield 16, 3) := by decide +kernel
theorem dX12_image_50 : decode cX12_image 50 = .ok (.iconst 0, 1) := by decide +kernel
theorem dX12_image_51 : decode cX12_image 51 = .ok (.iaload, 1) := by decide +kernel
theorem dX12_image_52 : decode cX12_image 52 = .ok (.ireturn, 1) := by decide +kernel
theorem dX12_back_0 : decode cX12_back 0 = .ok (.aload_n 0, 1) := by decide +kernel
theorem dX12_back_1 : decode cX12_back 1 = .ok (.iconst 0, 1) := by decide +kernel
theorem dX12_back_2 : decode cX12_back 2 = .ok (.putfield 60, 3) := by decide +kernel
theorem dX12_back_5 : decode cX12_back 5 = .ok (.aload_n 0, 1) := by decide +kernel
theorem dX12_back_6 : decode cX12_back 6 = .ok (.getfield 208, 3) := by decide +kernel
theorem dX12_back_9 : decode cX12_back 9 = .ok (.ifCond .ne 5, 3) := by decide +kernel
theorem dX12_back_12 : decode cX12_back 12 = .ok (.iconst (-1), 1) := by decide +kernel
theorem dX12_back_13 : decode cX12_back 13 = .ok (.ireturn, 1) := by decide +kernel
theorem dX12_back_14 : decode cX12_back 14 = .ok (.iconst 0, 1) := by decide +kernel
theorem dX12_back_15 : decode cX12_back 15 = .ok (.istore_n 1, 1) := by decide +kernel
theorem dX12_back_16 : decode cX12_back 16 = .ok (.iload_n 1, 1) := by decide +kernel
theorem dX12_back_17 : decode cX12_back 17 = .ok (.sipush 9309, 3) := by decide +kernel
theorem dX12_back_20 : decode cX12_back 20 = .ok (.if_icmp .ge 21, 3) := by decide +kernel
theorem dX12_back_23 : decode cX12_back 23 = .ok (.aload_n 0, 1) := by decide +kernel
theorem dX12_back_24 : decode cX12_back 24 = .ok (.getfield 16, 3) := by decide +kernel
theorem dX12_back_27 : decode cX12_back 27 = .ok (.iload_n 1, 1) := by decide +kernel
theorem dX12_back_28 : decode cX12_back 28 = .ok (.aload_n 0, 1) := by decide +kernel
theorem dX12_back_29 : decode cX12_back 29 = .ok (.getfield 57, 3) := by decide +kernel
theorem dX12_back_32 : decode cX12_back 32 = .ok (.iload_n 1, 1) := by decide +kernel
theorem dX12_back_33 : decode cX12_back 33 = .ok (.iaload, 1) := by decide +kernel
theorem dX12_back_34 : decode cX12_back 34 = .ok (.iastore, 1) := by decide +kernel
theorem dX12_back_35 : decode cX12_back 35 = .ok (.iinc 1 1, 3) := by decide +kernel
theorem dX12_back_38 : decode cX12_back 38 = .ok (.goto (-22), 3) := by decide +kernel
theorem dX12_back_41 : decode cX12_back 41 = .ok (.aload_n 0, 1) := by decide +kernel
theorem dX12_back_42 : decode cX12_back 42 = .ok (.iconst 0, 1) := by decide +kernel
theorem dX12_back_43 : decode cX12_back 43 = .ok (.putfield 205, 3) := by decide +kernel
theorem dX12_back_46 : decode cX12_back 46 = .ok (.aload_n 0, 1) := by decide +kernel
theorem dX12_back_47 : decode cX12_back 47 = .ok (.getfield 16, 3) := by decide +kernel
theorem dX12_back_50 : decode cX12_back 50 = .ok (.iconst 0, 1) := by decide +kernel
theorem dX12_back_51 : decode cX12_back 51 = .ok (.iaload, 1) := by decide +kernel
theorem dX12_back_52 : decode cX12_back 52 = .ok (.ireturn, 1) := by decide +kernel
theorem dX12_rule_0 : decode cX12_rule 0 = .ok (.aload_n 0, 1) := by decide +kernel
theorem dX12_rule_1 : decode cX12_rule 1 = .ok (.iconst 0, 1) := by decide +kernel
theorem dX12_rule_2 : decode cX12_rule 2 = .ok (.putfield 60, 3) := by decide +kernel
theorem dX12_rule_5 : decode cX12_rule 5 = .ok (.aload_n 0, 1) := by decide +kernel
theorem dX12_rule_6 : decode cX12_rule 6 = .ok (.getfield 188, 3) := by decide +kernel
theorem dX12_rule_9 : decode cX12_rule 9 = .ok (.ifCond .ne 7, 3) := by decide +kernel
theorem dX12_rule_12 : decode cX12_rule 12 = .ok (.ldc_w 392, 3) := by decide +kernel
theorem dX12_rule_15 : decode cX12_rule 15 = .ok (.ireturn, 1) := by decide +kernel
theorem dX12_rule_16 : decode cX12_rule 16 = .ok (.iload_n 1, 1) := by decide +kernel
theorem dX12_rule_17 : decode cX12_rule 17 = .ok (.tableswitch 150 0 11 #[63, 68, 73, 78, 83, 88, 93, 100, 105, 114, 123, 132], 63) := by decide +kernel
theorem dX12_rule_80 : decode cX12_rule 80 = .ok (.aload_n 0, 1) := by decide +kernel
theorem dX12_rule_81 : decode cX12_rule 81 = .ok (.getfield 192, 3) := by decide +kernel
theorem dX12_rule_84 : decode cX12_rule 84 = .ok (.ireturn, 1) := by decide +kernel
theorem dX12_rule_85 : decode cX12_rule 85 = .ok (.aload_n 0, 1) := by decide +kernel
theorem dX12_rule_86 : decode cX12_rule 86 = .ok (.getfield 19, 3) := by decide +kernel
theorem dX12_rule_89 : decode cX12_rule 89 = .ok (.ireturn, 1) := by decide +kernel
theorem dX12_rule_90 : decode cX12_rule 90 = .ok (.aload_n 0, 1) := by decide +kernel
theorem dX12_rule_91 : decode cX12_rule 91 = .ok (.getfield 23, 3) := by decide +kernel
theorem dX12_rule_94 : decode cX12_rule 94 = .ok (.ireturn, 1) := by decide +kernel
theorem dX12_rule_95 : decode cX12_rule 95 = .ok (.aload_n 0, 1) := by decide +kernel
theorem dX12_rule_96 : decode cX12_rule 96 = .ok (.getfield 194, 3) := by decide +kernel
theorem dX12_rule_99 : decode cX12_rule 99 = .ok (.ireturn, 1) := by decide +kernel
theorem dX12_rule_100 : decode cX12_rule 100 = .ok (.aload_n 0, 1) := by decide +kernel
theorem dX12_rule_101 : decode cX12_rule 101 = .ok (.getfield 196, 3) := by decide +kernel
theorem dX12_rule_104 : decode cX12_rule 104 = .ok (.ireturn, 1) := by decide +kernel
theorem dX12_rule_105 : decode cX12_rule 105 = .ok (.aload_n 0, 1) := by decide +kernel
theorem dX12_rule_106 : decode cX12_rule 106 = .ok (.getfield 198, 3) := by decide +kernel
theorem dX12_rule_109 : decode cX12_rule 109 = .ok (.ireturn, 1) := by decide +kernel
theorem dX12_rule_110 : decode cX12_rule 110 = .ok (.aload_n 0, 1) := by decide +kernel
theorem dX12_rule_111 : decode cX12_rule 111 = .ok (.getfield 16, 3) := by decide +kernel
theorem dX12_rule_114 : decode cX12_rule 114 = .ok (.iconst 0, 1) := by decide +kernel
theorem dX12_rule_115 : decode cX12_rule 115 = .ok (.iaload, 1) := by decide +kernel
theorem dX12_rule_116 : decode cX12_rule 116 = .ok (.ireturn, 1) := by decide +kernel
theorem dX12_rule_117 : decode cX12_rule 117 = .ok (.aload_n 0, 1) := by decide +kernel
theorem dX12_rule_118 : decode cX12_rule 118 = .ok (.invokevirtual 386, 3) := by decide +kernel
theorem dX12_rule_121 : decode cX12_rule 121 = .ok (.ireturn, 1) := by decide +kernel
theorem dX12_rule_122 : decode cX12_rule 122 = .ok (.aload_n 0, 1) := by decide +kernel
theorem dX12_rule_123 : decode cX12_rule 123 = .ok (.getfield 16, 3) := by decide +kernel
theorem dX12_rule_126 : decode cX12_rule 126 = .ok (.sipush 601, 3) := by decide +kernel
theorem dX12_rule_129 : decode cX12_rule 129 = .ok (.iaload, 1) := by decide +kernel
theorem dX12_rule_130 : decode cX12_rule 130 = .ok (.ireturn, 1) := by decide +kernel
theorem dX12_rule_131 : decode cX12_rule 131 = .ok (.aload_n 0, 1) := by decide +kernel
theorem dX12_rule_132 : decode cX12_rule 132 = .ok (.getfield 16, 3) := by decide +kernel
theorem dX12_rule_135 : decode cX12_rule 135 = .ok (.sipush 804, 3) := by decide +kernel
theorem dX12_rule_138 : decode cX12_rule 138 = .ok (.iaload, 1) := by decide +kernel
theorem dX12_rule_139 : decode cX12_rule 139 = .ok (.ireturn, 1) := by decide +kernel
theorem dX12_rule_140 : decode cX12_rule 140 = .ok (.aload_n 0, 1) := by decide +kernel
theorem dX12_rule_141 : decode cX12_rule 141 = .ok (.getfield 16, 3) := by decide +kernel
theorem dX12_rule_144 : decode cX12_rule 144 = .ok (.sipush 803, 3) := by decide +kernel
theorem dX12_rule_147 : decode cX12_rule 147 = .ok (.iaload, 1) := by decide +kernel
theorem dX12_rule_148 : decode cX12_rule 148 = .ok (.ireturn, 1) := by decide +kernel
theorem dX12_rule_149 : decode cX12_rule 149 = .ok (.aload_n 0, 1) := by decide +kernel
theorem dX12_rule_150 : decode cX12_rule 150 = .ok (.iconst 1, 1) := by decide +kernel
theorem dX12_rule_151 : decode cX12_rule 151 = .ok (.aload_n 0, 1) := by decide +kernel
theorem dX12_rule_152 : decode cX12_rule 152 = .ok (.getfield 196, 3) := by decide +kernel
theorem dX12_rule_155 : decode cX12_rule 155 = .ok (.iadd, 1) := by decide +kernel
theorem dX12_rule_156 : decode cX12_rule 156 = .ok (.aload_n 0, 1) := by decide +kernel
theorem dX12_rule_157 : decode cX12_rule 157 = .ok (.invokevirtual 268, 3) := by decide +kernel
theorem dX12_rule_160 : decode cX12_rule 160 = .ok (.iadd, 1) := by decide +kernel
theorem dX12_rule_161 : decode cX12_rule 161 = .ok (.invokevirtual 265, 3) := by decide +kernel
theorem dX12_rule_164 : decode cX12_rule 164 = .ok (.iconst 1, 1) := by decide +kernel
theorem dX12_rule_165 : decode cX12_rule 165 = .ok (.iadd, 1) := by decide +kernel
theorem dX12_rule_166 : decode cX12_rule 166 = .ok (.ireturn, 1) := by decide +kernel
theorem dX12_rule_167 : decode cX12_rule 167 = .ok (.ldc_w 392, 3) := by decide +kernel
theorem dX12_rule_170 : decode cX12_rule 170 = .ok (.ireturn, 1) := by decide +kernel
theorem dX12_mostLost_0 : decode cX12_mostLost 0 = .ok (.iconst 0, 1) := by decide +kernel
theorem dX12_mostLost_1 : decode cX12_mostLost 1 = .ok (.istore_n 1, 1) := by decide +kernel
theorem dX12_mostLost_2 : decode cX12_mostLost 2 = .ok (.iconst 1, 1) := by decide +kernel
theorem dX12_mostLost_3 : decode cX12_mostLost 3 = .ok (.istore_n 2, 1) := by decide +kernel
theorem dX12_mostLost_4 : decode cX12_mostLost 4 = .ok (.iload_n 2, 1) := by decide +kernel
theorem dX12_mostLost_5 : decode cX12_mostLost 5 = .ok (.aload_n 0, 1) := by decide +kernel
theorem dX12_mostLost_6 : decode cX12_mostLost 6 = .ok (.getfield 198, 3) := by decide +kernel
theorem dX12_mostLost_9 : decode cX12_mostLost 9 = .ok (.if_icmp .ge 30, 3) := by decide +kernel
theorem dX12_mostLost_12 : decode cX12_mostLost 12 = .ok (.aload_n 0, 1) := by decide +kernel
theorem dX12_mostLost_13 : decode cX12_mostLost 13 = .ok (.iload_n 2, 1) := by decide +kernel
theorem dX12_mostLost_14 : decode cX12_mostLost 14 = .ok (.iconst 5, 1) := by decide +kernel
theorem dX12_mostLost_15 : decode cX12_mostLost 15 = .ok (.invokevirtual 286, 3) := by decide +kernel
theorem dX12_mostLost_18 : decode cX12_mostLost 18 = .ok (.aload_n 0, 1) := by decide +kernel
theorem dX12_mostLost_19 : decode cX12_mostLost 19 = .ok (.iload_n 1, 1) := by decide +kernel
theorem dX12_mostLost_20 : decode cX12_mostLost 20 = .ok (.iconst 5, 1) := by decide +kernel
theorem dX12_mostLost_21 : decode cX12_mostLost 21 = .ok (.invokevirtual 286, 3) := by decide +kernel
theorem dX12_mostLost_24 : decode cX12_mostLost 24 = .ok (.if_icmp .le 7, 3) := by decide +kernel
theorem dX12_mostLost_27 : decode cX12_mostLost 27 = .ok (.iload_n 2, 1) := by decide +kernel
theorem dX12_mostLost_28 : decode cX12_mostLost 28 = .ok (.goto 4, 3) := by decide +kernel
theorem dX12_mostLost_31 : decode cX12_mostLost 31 = .ok (.iload_n 1, 1) := by decide +kernel
theorem dX12_mostLost_32 : decode cX12_mostLost 32 = .ok (.istore_n 1, 1) := by decide +kernel
theorem dX12_mostLost_33 : decode cX12_mostLost 33 = .ok (.iinc 2 1, 3) := by decide +kernel
theorem dX12_mostLost_36 : decode cX12_mostLost 36 = .ok (.goto (-32), 3) := by decide +kernel
theorem dX12_mostLost_39 : decode cX12_mostLost 39 = .ok (.iload_n 1, 1) := by decide +kernel
theorem dX12_mostLost_40 : decode cX12_mostLost 40 = .ok (.ireturn, 1) := by decide +kernel
theorem dX12_broken_0 : decode cX12_broken 0 = .ok (.iconst 0, 1) := by decide +kernel
theorem dX12_broken_1 : decode cX12_broken 1 = .ok (.istore_n 1, 1) := by decide +kernel
theorem dX12_broken_2 : decode cX12_broken 2 = .ok (.iconst 0, 1) := by decide +kernel
theorem dX12_broken_3 : decode cX12_broken 3 = .ok (.istore_n 2, 1) := by decide +kernel
theorem dX12_broken_4 : decode cX12_broken 4 = .ok (.iload_n 2, 1) := by decide +kernel
theorem dX12_broken_5 : decode cX12_broken 5 = .ok (.bipush 40, 2) := by decide +kernel
theorem dX12_broken_7 : decode cX12_broken 7 = .ok (.aload_n 0, 1) := by decide +kernel
theorem dX12_broken_8 : decode cX12_broken 8 = .ok (.getfield 16, 3) := by decide +kernel
theorem dX12_broken_11 : decode cX12_broken 11 = .ok (.sipush 804, 3) := by decide +kernel
theorem dX12_broken_14 : decode cX12_broken 14 = .ok (.iaload, 1) := by decide +kernel
theorem dX12_broken_15 : decode cX12_broken 15 = .ok (.invokestatic 97, 3) := by decide +kernel
theorem dX12_broken_18 : decode cX12_broken 18 = .ok (.if_icmp .ge 49, 3) := by decide +kernel
theorem dX12_broken_21 : decode cX12_broken 21 = .ok (.iload_n 1, 1) := by decide +kernel
theorem dX12_broken_22 : decode cX12_broken 22 = .ok (.aload_n 0, 1) := by decide +kernel
theorem dX12_broken_23 : decode cX12_broken 23 = .ok (.getfield 16, 3) := by decide +kernel
theorem dX12_broken_26 : decode cX12_broken 26 = .ok (.sipush 805, 3) := by decide +kernel
theorem dX12_broken_29 : decode cX12_broken 29 = .ok (.iconst 5, 1) := by decide +kernel
theorem dX12_broken_30 : decode cX12_broken 30 = .ok (.iload_n 2, 1) := by decide +kernel
theorem dX12_broken_31 : decode cX12_broken 31 = .ok (.imul, 1) := by decide +kernel
theorem dX12_broken_32 : decode cX12_broken 32 = .ok (.iadd, 1) := by decide +kernel
theorem dX12_broken_33 : decode cX12_broken 33 = .ok (.iaload, 1) := by decide +kernel
theorem dX12_broken_34 : decode cX12_broken 34 = .ok (.iconst 2, 1) := by decide +kernel
theorem dX12_broken_35 : decode cX12_broken 35 = .ok (.if_icmp .eq 19, 3) := by decide +kernel
theorem dX12_broken_38 : decode cX12_broken 38 = .ok (.aload_n 0, 1) := by decide +kernel
theorem dX12_broken_39 : decode cX12_broken 39 = .ok (.getfield 16, 3) := by decide +kernel
theorem dX12_broken_42 : decode cX12_broken 42 = .ok (.sipush 805, 3) := by decide +kernel
theorem dX12_broken_45 : decode cX12_broken 45 = .ok (.iconst 5, 1) := by decide +kernel
theorem dX12_broken_46 : decode cX12_broken 46 = .ok (.iload_n 2, 1) := by decide +kernel
theorem dX12_broken_47 : decode cX12_broken 47 = .ok (.imul, 1) := by decide +kernel
theorem dX12_broken_48 : decode cX12_broken 48 = .ok (.iadd, 1) := by decide +kernel
theorem dX12_broken_49 : decode cX12_broken 49 = .ok (.iaload, 1) := by decide +kernel
theorem dX12_broken_50 : decode cX12_broken 50 = .ok (.iconst 3, 1) := by decide +kernel
theorem dX12_broken_51 : decode cX12_broken 51 = .ok (.if_icmp .ne 7, 3) := by decide +kernel
theorem dX12_broken_54 : decode cX12_broken 54 = .ok (.iconst 1, 1) := by decide +kernel
theorem dX12_broken_55 : decode cX12_broken 55 = .ok (.goto 4, 3) := by decide +kernel
theorem dX12_broken_58 : decode cX12_broken 58 = .ok (.iconst 0, 1) := by decide +kernel
theorem dX12_broken_59 : decode cX12_broken 59 = .ok (.iadd, 1) := by decide +kernel
theorem dX12_broken_60 : decode cX12_broken 60 = .ok (.istore_n 1, 1) := by decide +kernel
theorem dX12_broken_61 : decode cX12_broken 61 = .ok (.iinc 2 1, 3) := by decide +kernel
theorem dX12_broken_64 : decode cX12_broken 64 = .ok (.goto (-60), 3) := by decide +kernel
theorem dX12_broken_67 : decode cX12_broken 67 = .ok (.iload_n 1, 1) := by decide +kernel
theorem dX12_broken_68 : decode cX12_broken 68 = .ok (.ireturn, 1) := by decide +kernel
theorem dX12_longestFrame_0 : decode cX12_longestFrame 0 = .ok (.iconst 0, 1) := by decide +kernel
theorem dX12_longestFrame_1 : decode cX12_longestFrame 1 = .ok (.istore_n 1, 1) := by decide +kernel
theorem dX12_longestFrame_2 : decode cX12_longestFrame 2 = .ok (.aload_n 0, 1) := by decide +kernel
theorem dX12_longestFrame_3 : decode cX12_longestFrame 3 = .ok (.invokevirtual 386, 3) := by decide +kernel
theorem dX12_longestFrame_6 : decode cX12_longestFrame 6 = .ok (.pop, 1) := by decide +kernel
theorem dX12_longestFrame_7 : decode cX12_longestFrame 7 = .ok (.iconst 0, 1) := by decide +kernel
theorem dX12_longestFrame_8 : decode cX12_longestFrame 8 = .ok (.istore_n 2, 1) := by decide +kernel
theorem dX12_longestFrame_9 : decode cX12_longestFrame 9 = .ok (.iload_n 2, 1) := by decide +kernel
theorem dX12_longestFrame_10 : decode cX12_longestFrame 10 = .ok (.aload_n 0, 1) := by decide +kernel
theorem dX12_longestFrame_11 : decode cX12_longestFrame 11 = .ok (.getfield 383, 3) := by decide +kernel
theorem dX12_longestFrame_14 : decode cX12_longestFrame 14 = .ok (.if_icmp .ge 27, 3) := by decide +kernel
theorem dX12_longestFrame_17 : decode cX12_longestFrame 17 = .ok (.iload_n 1, 1) := by decide +kernel
theorem dX12_longestFrame_18 : decode cX12_longestFrame 18 = .ok (.aload_n 0, 1) := by decide +kernel
theorem dX12_longestFrame_19 : decode cX12_longestFrame 19 = .ok (.getfield 54, 3) := by decide +kernel
theorem dX12_longestFrame_22 : decode cX12_longestFrame 22 = .ok (.iload_n 2, 1) := by decide +kernel
theorem dX12_longestFrame_23 : decode cX12_longestFrame 23 = .ok (.iaload, 1) := by decide +kernel
theorem dX12_longestFrame_24 : decode cX12_longestFrame 24 = .ok (.aload_n 0, 1) := by decide +kernel
theorem dX12_longestFrame_25 : decode cX12_longestFrame 25 = .ok (.getfield 51, 3) := by decide +kernel
theorem dX12_longestFrame_28 : decode cX12_longestFrame 28 = .ok (.iload_n 2, 1) := by decide +kernel
theorem dX12_longestFrame_29 : decode cX12_longestFrame 29 = .ok (.iaload, 1) := by decide +kernel
theorem dX12_longestFrame_30 : decode cX12_longestFrame 30 = .ok (.isub, 1) := by decide +kernel
theorem dX12_longestFrame_31 : decode cX12_longestFrame 31 = .ok (.invokestatic 260, 3) := by decide +kernel
theorem dX12_longestFrame_34 : decode cX12_longestFrame 34 = .ok (.istore_n 1, 1) := by decide +kernel
theorem dX12_longestFrame_35 : decode cX12_longestFrame 35 = .ok (.iinc 2 1, 3) := by decide +kernel
theorem dX12_longestFrame_38 : decode cX12_longestFrame 38 = .ok (.goto (-29), 3) := by decide +kernel
theorem dX12_longestFrame_41 : decode cX12_longestFrame 41 = .ok (.iload_n 1, 1) := by decide +kernel
theorem dX12_longestFrame_42 : decode cX12_longestFrame 42 = .ok (.ireturn, 1) := by decide +kernel
theorem dX12_waitingBytes_0 : decode cX12_waitingBytes 0 = .ok (.iconst 0, 1) := by decide +kernel
theorem dX12_waitingBytes_1 : decode cX12_waitingBytes 1 = .ok (.istore_n 1, 1) := by decide +kernel
theorem dX12_waitingBytes_2 : decode cX12_waitingBytes 2 = .ok (.iconst 0, 1) := by decide +kernel
theorem dX12_waitingBytes_3 : decode cX12_waitingBytes 3 = .ok (.istore_n 2, 1) := by decide +kernel
theorem dX12_waitingBytes_4 : decode cX12_waitingBytes 4 = .ok (.iload_n 2, 1) := by decide +kernel
theorem dX12_waitingBytes_5 : decode cX12_waitingBytes 5 = .ok (.aload_n 0, 1) := by decide +kernel
theorem dX12_waitingBytes_6 : decode cX12_waitingBytes 6 = .ok (.getfield 198, 3) := by decide +kernel
theorem dX12_waitingBytes_9 : decode cX12_waitingBytes 9 = .ok (.if_icmp .ge 48, 3) := by decide +kernel
theorem dX12_waitingBytes_12 : decode cX12_waitingBytes 12 = .ok (.iload_n 1, 1) := by decide +kernel
theorem dX12_waitingBytes_13 : decode cX12_waitingBytes 13 = .ok (.aload_n 0, 1) := by decide +kernel
theorem dX12_waitingBytes_14 : decode cX12_waitingBytes 14 = .ok (.iload_n 2, 1) := by decide +kernel
theorem dX12_waitingBytes_15 : decode cX12_waitingBytes 15 = .ok (.iconst 2, 1) := by decide +kernel
theorem dX12_waitingBytes_16 : decode cX12_waitingBytes 16 = .ok (.invokevirtual 286, 3) := by decide +kernel
theorem dX12_waitingBytes_19 : decode cX12_waitingBytes 19 = .ok (.isub, 1) := by decide +kernel
theorem dX12_waitingBytes_20 : decode cX12_waitingBytes 20 = .ok (.istore_n 1, 1) := by decide +kernel
theorem dX12_waitingBytes_21 : decode cX12_waitingBytes 21 = .ok (.iconst 0, 1) := by decide +kernel
theorem dX12_waitingBytes_22 : decode cX12_waitingBytes 22 = .ok (.istore_n 3, 1) := by decide +kernel
theorem dX12_waitingBytes_23 : decode cX12_waitingBytes 23 = .ok (.iload_n 3, 1) := by decide +kernel
theorem dX12_waitingBytes_24 : decode cX12_waitingBytes 24 = .ok (.aload_n 0, 1) := by decide +kernel
theorem dX12_waitingBytes_25 : decode cX12_waitingBytes 25 = .ok (.iload_n 2, 1) := by decide +kernel
theorem dX12_waitingBytes_26 : decode cX12_waitingBytes 26 = .ok (.iconst 1, 1) := by decide +kernel
theorem dX12_waitingBytes_27 : decode cX12_waitingBytes 27 = .ok (.invokevirtual 286, 3) := by decide +kernel
theorem dX12_waitingBytes_30 : decode cX12_waitingBytes 30 = .ok (.if_icmp .ge 21, 3) := by decide +kernel
theorem dX12_waitingBytes_33 : decode cX12_waitingBytes 33 = .ok (.iload_n 1, 1) := by decide +kernel
theorem dX12_waitingBytes_34 : decode cX12_waitingBytes 34 = .ok (.aload_n 0, 1) := by decide +kernel
theorem dX12_waitingBytes_35 : decode cX12_waitingBytes 35 = .ok (.iload_n 2, 1) := by decide +kernel
theorem dX12_waitingBytes_36 : decode cX12_waitingBytes 36 = .ok (.iload_n 3, 1) := by decide +kernel
theorem dX12_waitingBytes_37 : decode cX12_waitingBytes 37 = .ok (.invokestatic 292, 3) := by decide +kernel
theorem dX12_waitingBytes_40 : decode cX12_waitingBytes 40 = .ok (.invokevirtual 286, 3) := by decide +kernel
theorem dX12_waitingBytes_43 : decode cX12_waitingBytes 43 = .ok (.iadd, 1) := by decide +kernel
theorem dX12_waitingBytes_44 : decode cX12_waitingBytes 44 = .ok (.istore_n 1, 1) := by decide +kernel
theorem dX12_waitingBytes_45 : decode cX12_waitingBytes 45 = .ok (.iinc 3 1, 3) := by decide +kernel
theorem dX12_waitingBytes_48 : decode cX12_waitingBytes 48 = .ok (.goto (-25), 3) := by decide +kernel
theorem dX12_waitingBytes_51 : decode cX12_waitingBytes 51 = .ok (.iinc 2 1, 3) := by decide +kernel
theorem dX12_waitingBytes_54 : decode cX12_waitingBytes 54 = .ok (.goto (-50), 3) := by decide +kernel
theorem dX12_waitingBytes_57 : decode cX12_waitingBytes 57 = .ok (.iload_n 1, 1) := by decide +kernel
theorem dX12_waitingBytes_58 : decode cX12_waitingBytes 58 = .ok (.ireturn, 1) := by decide +kernel
theorem dX12_greatestByte_0 : decode cX12_greatestByte 0 = .ok (.iconst (-1), 1) := by decide +kernel
theorem dX12_greatestByte_1 : decode cX12_greatestByte 1 = .ok (.istore_n 1, 1) := by decide +kernel
theorem dX12_greatestByte_2 : decode cX12_greatestByte 2 = .ok (.iconst 0, 1) := by decide +kernel
theorem dX12_greatestByte_3 : decode cX12_greatestByte 3 = .ok (.istore_n 2, 1) := by decide +kernel
theorem dX12_greatestByte_4 : decode cX12_greatestByte 4 = .ok (.iload_n 2, 1) := by decide +kernel
theorem dX12_greatestByte_5 : decode cX12_greatestByte 5 = .ok (.aload_n 0, 1) := by decide +kernel
theorem dX12_greatestByte_6 : decode cX12_greatestByte 6 = .ok (.getfield 16, 3) := by decide +kernel
theorem dX12_greatestByte_9 : decode cX12_greatestByte 9 = .ok (.iconst 0, 1) := by decide +kernel
theorem dX12_greatestByte_10 : decode cX12_greatestByte 10 = .ok (.iaload, 1) := by decide +kernel
theorem dX12_greatestByte_11 : decode cX12_greatestByte 11 = .ok (.if_icmp .ge 22, 3) := by decide +kernel
theorem dX12_greatestByte_14 : decode cX12_greatestByte 14 = .ok (.iload_n 1, 1) := by decide +kernel
theorem dX12_greatestByte_15 : decode cX12_greatestByte 15 = .ok (.aload_n 0, 1) := by decide +kernel
theorem dX12_greatestByte_16 : decode cX12_greatestByte 16 = .ok (.getfield 16, 3) := by decide +kernel
theorem dX12_greatestByte_19 : decode cX12_greatestByte 19 = .ok (.iconst 1, 1) := by decide +kernel
theorem dX12_greatestByte_20 : decode cX12_greatestByte 20 = .ok (.iload_n 2, 1) := by decide +kernel
theorem dX12_greatestByte_21 : decode cX12_greatestByte 21 = .ok (.iadd, 1) := by decide +kernel
theorem dX12_greatestByte_22 : decode cX12_greatestByte 22 = .ok (.iaload, 1) := by decide +kernel
theorem dX12_greatestByte_23 : decode cX12_greatestByte 23 = .ok (.invokestatic 260, 3) := by decide +kernel
theorem dX12_greatestByte_26 : decode cX12_greatestByte 26 = .ok (.istore_n 1, 1) := by decide +kernel
theorem dX12_greatestByte_27 : decode cX12_greatestByte 27 = .ok (.iinc 2 1, 3) := by decide +kernel
theorem dX12_greatestByte_30 : decode cX12_greatestByte 30 = .ok (.goto (-26), 3) := by decide +kernel
theorem dX12_greatestByte_33 : decode cX12_greatestByte 33 = .ok (.iload_n 1, 1) := by decide +kernel
theorem dX12_greatestByte_34 : decode cX12_greatestByte 34 = .ok (.ireturn, 1) := by decide +kernel
theorem dX12_most_0 : decode cX12_most 0 = .ok (.aload_n 0, 1) := by decide +kernel
theorem dX12_most_1 : decode cX12_most 1 = .ok (.iconst 0, 1) := by decide +kernel
theorem dX12_most_2 : decode cX12_most 2 = .ok (.putfield 60, 3) := by decide +kernel
theorem dX12_most_5 : decode cX12_most 5 = .ok (.aload_n 0, 1) := by decide +kernel
theorem dX12_most_6 : decode cX12_most 6 = .ok (.getfield 188, 3) := by decide +kernel
theorem dX12_most_9 : decode cX12_most 9 = .ok (.ifCond .ne 7, 3) := by decide +kernel
theorem dX12_most_12 : decode cX12_most 12 = .ok (.ldc_w 392, 3) := by decide +kernel
theorem dX12_most_15 : decode cX12_most 15 = .ok (.ireturn, 1) := by decide +kernel
theorem dX12_most_16 : decode cX12_most 16 = .ok (.iload_n 1, 1) := by decide +kernel
theorem dX12_most_17 : decode cX12_most 17 = .ok (.tableswitch 69 0 5 #[39, 44, 49, 54, 59, 64], 39) := by decide +kernel
theorem dX12_most_56 : decode cX12_most 56 = .ok (.aload_n 0, 1) := by decide +kernel
theorem dX12_most_57 : decode cX12_most 57 = .ok (.invokevirtual 404, 3) := by decide +kernel
theorem dX12_most_60 : decode cX12_most 60 = .ok (.ireturn, 1) := by decide +kernel
theorem dX12_most_61 : decode cX12_most 61 = .ok (.aload_n 0, 1) := by decide +kernel
theorem dX12_most_62 : decode cX12_most 62 = .ok (.invokevirtual 298, 3) := by decide +kernel
theorem dX12_most_65 : decode cX12_most 65 = .ok (.ireturn, 1) := by decide +kernel
theorem dX12_most_66 : decode cX12_most 66 = .ok (.aload_n 0, 1) := by decide +kernel
theorem dX12_most_67 : decode cX12_most 67 = .ok (.invokevirtual 407, 3) := by decide +kernel
theorem dX12_most_70 : decode cX12_most 70 = .ok (.ireturn, 1) := by decide +kernel
theorem dX12_most_71 : decode cX12_most 71 = .ok (.aload_n 0, 1) := by decide +kernel
theorem dX12_most_72 : decode cX12_most 72 = .ok (.invokevirtual 410, 3) := by decide +kernel
theorem dX12_most_75 : decode cX12_most 75 = .ok (.ireturn, 1) := by decide +kernel
theorem dX12_most_76 : decode cX12_most 76 = .ok (.aload_n 0, 1) := by decide +kernel
theorem dX12_most_77 : decode cX12_most 77 = .ok (.invokevirtual 413, 3) := by decide +kernel
theorem dX12_most_80 : decode cX12_most 80 = .ok (.ireturn, 1) := by decide +kernel
theorem dX12_most_81 : decode cX12_most 81 = .ok (.aload_n 0, 1) := by decide +kernel
theorem dX12_most_82 : decode cX12_most 82 = .ok (.invokevirtual 416, 3) := by decide +kernel
theorem dX12_most_85 : decode cX12_most 85 = .ok (.ireturn, 1) := by decide +kernel
theorem dX12_most_86 : decode cX12_most 86 = .ok (.ldc_w 392, 3) := by decide +kernel
theorem dX12_most_89 : decode cX12_most 89 = .ok (.ireturn, 1) := by decide +kernel
theorem dX12_count_0 : decode cX12_count 0 = .ok (.aload_n 0, 1) := by decide +kernel
theorem dX12_count_1 : decode cX12_count 1 = .ok (.iconst 0, 1) := by decide +kernel
theorem dX12_count_2 : decode cX12_count 2 = .ok (.putfield 60, 3) := by decide +kernel
theorem dX12_count_5 : decode cX12_count 5 = .ok (.iload_n 1, 1) := by decide +kernel
theorem dX12_count_6 : decode cX12_count 6 = .ok (.tableswitch 50 0 3 #[30, 35, 40, 45], 30) := by decide +kernel
theorem dX12_count_36 : decode cX12_count 36 = .ok (.aload_n 0, 1) := by decide +kernel
theorem dX12_count_37 : decode cX12_count 37 = .ok (.getfield 63, 3) := by decide +kernel
theorem dX12_count_40 : decode cX12_count 40 = .ok (.ireturn, 1) := by decide +kernel
theorem dX12_count_41 : decode cX12_count 41 = .ok (.aload_n 0, 1) := by decide +kernel
theorem dX12_count_42 : decode cX12_count 42 = .ok (.getfield 205, 3) := by decide +kernel
theorem dX12_count_45 : decode cX12_count 45 = .ok (.ireturn, 1) := by decide +kernel
theorem dX12_count_46 : decode cX12_count 46 = .ok (.aload_n 0, 1) := by decide +kernel
theorem dX12_count_47 : decode cX12_count 47 = .ok (.getfield 254, 3) := by decide +kernel
theorem dX12_count_50 : decode cX12_count 50 = .ok (.ireturn, 1) := by decide +kernel
theorem dX12_count_51 : decode cX12_count 51 = .ok (.aload_n 0, 1) := by decide +kernel
theorem dX12_count_52 : decode cX12_count 52 = .ok (.getfield 211, 3) := by decide +kernel
theorem dX12_count_55 : decode cX12_count 55 = .ok (.ireturn, 1) := by decide +kernel
theorem dX12_count_56 : decode cX12_count 56 = .ok (.iconst (-1), 1) := by decide +kernel
theorem dX12_count_57 : decode cX12_count 57 = .ok (.ireturn, 1) := by decide +kernel
theorem dL_channel_0 : decode cL_channel 0 = .ok (.aload_n 3, 1) := by decide +kernel
theorem dL_channel_1 : decode cL_channel 1 = .ok (.iconst 0, 1) := by decide +kernel
theorem dL_channel_2 : decode cL_channel 2 = .ok (.aload_n 0, 1) := by decide +kernel
theorem dL_channel_3 : decode cL_channel 3 = .ok (.iload_n 1, 1) := by decide +kernel
theorem dL_channel_4 : decode cL_channel 4 = .ok (.iload_n 2, 1) := by decide +kernel
theorem dL_channel_5 : decode cL_channel 5 = .ok (.invokevirtual 7, 3) := by decide +kernel
theorem dL_channel_8 : decode cL_channel 8 = .ok (.i2l, 1) := by decide +kernel
theorem dL_channel_9 : decode cL_channel 9 = .ok (.lastore, 1) := by decide +kernel
theorem dL_channel_10 : decode cL_channel 10 = .ok (.goto 7, 3) := by decide +kernel
theorem dL_channel_13 : decode cL_channel 13 = .ok (.astore 4, 2) := by decide +kernel
theorem dL_channel_15 : decode cL_channel 15 = .ok (.iconst 1, 1) := by decide +kernel
theorem dL_channel_16 : decode cL_channel 16 = .ok (.ireturn, 1) := by decide +kernel
theorem dL_channel_17 : decode cL_channel 17 = .ok (.iconst 0, 1) := by decide +kernel
theorem dL_channel_18 : decode cL_channel 18 = .ok (.ireturn, 1) := by decide +kernel
theorem dL_law_0 : decode cL_law 0 = .ok (.new 8, 3) := by decide +kernel
theorem dL_law_3 : decode cL_law 3 = .ok (.dup, 1) := by decide +kernel
theorem dL_law_4 : decode cL_law 4 = .ok (.invokespecial 15, 3) := by decide +kernel
theorem dL_law_7 : decode cL_law 7 = .ok (.astore_n 1, 1) := by decide +kernel
theorem dL_law_8 : decode cL_law 8 = .ok (.new 16, 3) := by decide +kernel
theorem dL_law_11 : decode cL_law 11 = .ok (.dup, 1) := by decide +kernel
theorem dL_law_12 : decode cL_law 12 = .ok (.invokespecial 18, 3) := by decide +kernel
theorem dL_law_15 : decode cL_law 15 = .ok (.astore_n 2, 1) := by decide +kernel
theorem dL_law_16 : decode cL_law 16 = .ok (.iconst 1, 1) := by decide +kernel
theorem dL_law_17 : decode cL_law 17 = .ok (.newarray .long, 2) := by decide +kernel
theorem dL_law_19 : decode cL_law 19 = .ok (.astore_n 3, 1) := by decide +kernel
theorem dL_law_20 : decode cL_law 20 = .ok (.iconst 0, 1) := by decide +kernel
theorem dL_law_21 : decode cL_law 21 = .ok (.istore 4, 2) := by decide +kernel
theorem dL_law_23 : decode cL_law 23 = .ok (.iload 4, 2) := by decide +kernel
theorem dL_law_25 : decode cL_law 25 = .ok (.aload_n 0, 1) := by decide +kernel
theorem dL_law_26 : decode cL_law 26 = .ok (.arraylength, 1) := by decide +kernel
theorem dL_law_27 : decode cL_law 27 = .ok (.bipush 6, 2) := by decide +kernel
theorem dL_law_29 : decode cL_law 29 = .ok (.isub, 1) := by decide +kernel
theorem dL_law_30 : decode cL_law 30 = .ok (.if_icmp .gt 1194, 3) := by decide +kernel
theorem dL_law_33 : decode cL_law 33 = .ok (.aload_n 0, 1) := by decide +kernel
theorem dL_law_34 : decode cL_law 34 = .ok (.iload 4, 2) := by decide +kernel
theorem dL_law_36 : decode cL_law 36 = .ok (.iaload, 1) := by decide +kernel
theorem dL_law_37 : decode cL_law 37 = .ok (.bipush 63, 2) := by decide +kernel
theorem dL_law_39 : decode cL_law 39 = .ok (.iand, 1) := by decide +kernel
theorem dL_law_40 : decode cL_law 40 = .ok (.tableswitch 1178 0 34 #[156, 229, 254, 267, 280, 305, 330, 355, 380, 417, 442, 479, 548, 573, 598, 623, 648, 716, 753, 778, 803, 828, 841, 866, 903, 940, 965, 1002, 1039, 1064, 1077, 1090, 1103, 1128, 1153], 156) := by decide +kernel
theorem dL_law_196 : decode cL_law 196 = .ok (.aload_n 1, 1) := by decide +kernel
theorem dL_law_197 : decode cL_law 197 = .ok (.aload_n 0, 1) := by decide +kernel
theorem dL_law_198 : decode cL_law 198 = .ok (.iload 4, 2) := by decide +kernel
theorem dL_law_200 : decode cL_law 200 = .ok (.iconst 1, 1) := by decide +kernel
theorem dL_law_201 : decode cL_law 201 = .ok (.iadd, 1) := by decide +kernel
theorem dL_law_202 : decode cL_law 202 = .ok (.iaload, 1) := by decide +kernel
theorem dL_law_203 : decode cL_law 203 = .ok (.aload_n 0, 1) := by decide +kernel
theorem dL_law_204 : decode cL_law 204 = .ok (.iload 4, 2) := by decide +kernel
theorem dL_law_206 : decode cL_law 206 = .ok (.iconst 2, 1) := by decide +kernel
theorem dL_law_207 : decode cL_law 207 = .ok (.iadd, 1) := by decide +kernel
theorem dL_law_208 : decode cL_law 208 = .ok (.iaload, 1) := by decide +kernel
theorem dL_law_209 : decode cL_law 209 = .ok (.aload_n 0, 1) := by decide +kernel
theorem dL_law_210 : decode cL_law 210 = .ok (.iload 4, 2) := by decide +kernel
theorem dL_law_212 : decode cL_law 212 = .ok (.iconst 3, 1) := by decide +kernel
theorem dL_law_213 : decode cL_law 213 = .ok (.iadd, 1) := by decide +kernel
theorem dL_law_214 : decode cL_law 214 = .ok (.iaload, 1) := by decide +kernel
theorem dL_law_215 : decode cL_law 215 = .ok (.aload_n 0, 1) := by decide +kernel
theorem dL_law_216 : decode cL_law 216 = .ok (.iload 4, 2) := by decide +kernel
theorem dL_law_218 : decode cL_law 218 = .ok (.iconst 4, 1) := by decide +kernel
theorem dL_law_219 : decode cL_law 219 = .ok (.iadd, 1) := by decide +kernel
theorem dL_law_220 : decode cL_law 220 = .ok (.iaload, 1) := by decide +kernel
theorem dL_law_221 : decode cL_law 221 = .ok (.aload_n 0, 1) := by decide +kernel
theorem dL_law_222 : decode cL_law 222 = .ok (.iload 4, 2) := by decide +kernel
theorem dL_law_224 : decode cL_law 224 = .ok (.iconst 5, 1) := by decide +kernel
theorem dL_law_225 : decode cL_law 225 = .ok (.iadd, 1) := by decide +kernel
theorem dL_law_226 : decode cL_law 226 = .ok (.iaload, 1) := by decide +kernel
theorem dL_law_227 : decode cL_law 227 = .ok (.invokevirtual 19, 3) := by decide +kernel
theorem dL_law_230 : decode cL_law 230 = .ok (.aload_n 2, 1) := by decide +kernel
theorem dL_law_231 : decode cL_law 231 = .ok (.aload_n 0, 1) := by decide +kernel
theorem dL_law_232 : decode cL_law 232 = .ok (.iload 4, 2) := by decide +kernel
theorem dL_law_234 : decode cL_law 234 = .ok (.iconst 1, 1) := by decide +kernel
theorem dL_law_235 : decode cL_law 235 = .ok (.iadd, 1) := by decide +kernel
theorem dL_law_236 : decode cL_law 236 = .ok (.iaload, 1) := by decide +kernel
theorem dL_law_237 : decode cL_law 237 = .ok (.aload_n 0, 1) := by decide +kernel
theorem dL_law_238 : decode cL_law 238 = .ok (.iload 4, 2) := by decide +kernel
theorem dL_law_240 : decode cL_law 240 = .ok (.iconst 2, 1) := by decide +kernel
theorem dL_law_241 : decode cL_law 241 = .ok (.iadd, 1) := by decide +kernel
theorem dL_law_242 : decode cL_law 242 = .ok (.iaload, 1) := by decide +kernel
theorem dL_law_243 : decode cL_law 243 = .ok (.aload_n 0, 1) := by decide +kernel
theorem dL_law_244 : decode cL_law 244 = .ok (.iload 4, 2) := by decide +kernel
theorem dL_law_246 : decode cL_law 246 = .ok (.iconst 3, 1) := by decide +kernel
theorem dL_law_247 : decode cL_law 247 = .ok (.iadd, 1) := by decide +kernel
theorem dL_law_248 : decode cL_law 248 = .ok (.iaload, 1) := by decide +kernel
theorem dL_law_249 : decode cL_law 249 = .ok (.aload_n 0, 1) := by decide +kernel
theorem dL_law_250 : decode cL_law 250 = .ok (.iload 4, 2) := by decide +kernel
theorem dL_law_252 : decode cL_law 252 = .ok (.iconst 4, 1) := by decide +kernel
theorem dL_law_253 : decode cL_law 253 = .ok (.iadd, 1) := by decide +kernel
theorem dL_law_254 : decode cL_law 254 = .ok (.iaload, 1) := by decide +kernel
theorem dL_law_255 : decode cL_law 255 = .ok (.aload_n 0, 1) := by decide +kernel
theorem dL_law_256 : decode cL_law 256 = .ok (.iload 4, 2) := by decide +kernel
theorem dL_law_258 : decode cL_law 258 = .ok (.iconst 5, 1) := by decide +kernel
theorem dL_law_259 : decode cL_law 259 = .ok (.iadd, 1) := by decide +kernel
theorem dL_law_260 : decode cL_law 260 = .ok (.iaload, 1) := by decide +kernel
theorem dL_law_261 : decode cL_law 261 = .ok (.invokevirtual 23, 3) := by decide +kernel
theorem dL_law_264 : decode cL_law 264 = .ok (.if_icmp .eq 954, 3) := by decide +kernel
theorem dL_law_267 : decode cL_law 267 = .ok (.iconst 0, 1) := by decide +kernel
theorem dL_law_268 : decode cL_law 268 = .ok (.ireturn, 1) := by decide +kernel
theorem dL_law_269 : decode cL_law 269 = .ok (.aload_n 1, 1) := by decide +kernel
theorem dL_law_270 : decode cL_law 270 = .ok (.aload_n 0, 1) := by decide +kernel
theorem dL_law_271 : decode cL_law 271 = .ok (.iload 4, 2) := by decide +kernel
theorem dL_law_273 : decode cL_law 273 = .ok (.iconst 1, 1) := by decide +kernel
theorem dL_law_274 : decode cL_law 274 = .ok (.iadd, 1) := by decide +kernel
theorem dL_law_275 : decode cL_law 275 = .ok (.iaload, 1) := by decide +kernel
theorem dL_law_276 : decode cL_law 276 = .ok (.invokevirtual 24, 3) := by decide +kernel
theorem dL_law_279 : decode cL_law 279 = .ok (.aload_n 2, 1) := by decide +kernel
theorem dL_law_280 : decode cL_law 280 = .ok (.aload_n 0, 1) := by decide +kernel
theorem dL_law_281 : decode cL_law 281 = .ok (.iload 4, 2) := by decide +kernel
theorem dL_law_283 : decode cL_law 283 = .ok (.iconst 1, 1) := by decide +kernel
theorem dL_law_284 : decode cL_law 284 = .ok (.iadd, 1) := by decide +kernel
theorem dL_law_285 : decode cL_law 285 = .ok (.iaload, 1) := by decide +kernel
theorem dL_law_286 : decode cL_law 286 = .ok (.invokevirtual 28, 3) := by decide +kernel
theorem dL_law_289 : decode cL_law 289 = .ok (.if_icmp .eq 929, 3) := by decide +kernel
theorem dL_law_292 : decode cL_law 292 = .ok (.iconst 0, 1) := by decide +kernel
theorem dL_law_293 : decode cL_law 293 = .ok (.ireturn, 1) := by decide +kernel
theorem dL_law_294 : decode cL_law 294 = .ok (.aload_n 1, 1) := by decide +kernel
theorem dL_law_295 : decode cL_law 295 = .ok (.invokevirtual 29, 3) := by decide +kernel
theorem dL_law_298 : decode cL_law 298 = .ok (.aload_n 2, 1) := by decide +kernel
theorem dL_law_299 : decode cL_law 299 = .ok (.invokevirtual 33, 3) := by decide +kernel
theorem dL_law_302 : decode cL_law 302 = .ok (.if_icmp .eq 916, 3) := by decide +kernel
theorem dL_law_305 : decode cL_law 305 = .ok (.iconst 0, 1) := by decide +kernel
theorem dL_law_306 : decode cL_law 306 = .ok (.ireturn, 1) := by decide +kernel
theorem dL_law_307 : decode cL_law 307 = .ok (.aload_n 1, 1) := by decide +kernel
theorem dL_law_308 : decode cL_law 308 = .ok (.invokevirtual 34, 3) := by decide +kernel
theorem dL_law_311 : decode cL_law 311 = .ok (.aload_n 2, 1) := by decide +kernel
theorem dL_law_312 : decode cL_law 312 = .ok (.invokevirtual 37, 3) := by decide +kernel
theorem dL_law_315 : decode cL_law 315 = .ok (.if_icmp .eq 903, 3) := by decide +kernel
theorem dL_law_318 : decode cL_law 318 = .ok (.iconst 0, 1) := by decide +kernel
theorem dL_law_319 : decode cL_law 319 = .ok (.ireturn, 1) := by decide +kernel
theorem dL_law_320 : decode cL_law 320 = .ok (.aload_n 1, 1) := by decide +kernel
theorem dL_law_321 : decode cL_law 321 = .ok (.aload_n 0, 1) := by decide +kernel
theorem dL_law_322 : decode cL_law 322 = .ok (.iload 4, 2) := by decide +kernel
theorem dL_law_324 : decode cL_law 324 = .ok (.iconst 1, 1) := by decide +kernel
theorem dL_law_325 : decode cL_law 325 = .ok (.iadd, 1) := by decide +kernel
theorem dL_law_326 : decode cL_law 326 = .ok (.iaload, 1) := by decide +kernel
theorem dL_law_327 : decode cL_law 327 = .ok (.invokevirtual 38, 3) := by decide +kernel
theorem dL_law_330 : decode cL_law 330 = .ok (.aload_n 2, 1) := by decide +kernel
theorem dL_law_331 : decode cL_law 331 = .ok (.aload_n 0, 1) := by decide +kernel
theorem dL_law_332 : decode cL_law 332 = .ok (.iload 4, 2) := by decide +kernel
theorem dL_law_334 : decode cL_law 334 = .ok (.iconst 1, 1) := by decide +kernel
theorem dL_law_335 : decode cL_law 335 = .ok (.iadd, 1) := by decide +kernel
theorem dL_law_336 : decode cL_law 336 = .ok (.iaload, 1) := by decide +kernel
theorem dL_law_337 : decode cL_law 337 = .ok (.invokevirtual 42, 3) := by decide +kernel
theorem dL_law_340 : decode cL_law 340 = .ok (.if_icmp .eq 878, 3) := by decide +kernel
theorem dL_law_343 : decode cL_law 343 = .ok (.iconst 0, 1) := by decide +kernel
theorem dL_law_344 : decode cL_law 344 = .ok (.ireturn, 1) := by decide +kernel
theorem dL_law_345 : decode cL_law 345 = .ok (.aload_n 1, 1) := by decide +kernel
theorem dL_law_346 : decode cL_law 346 = .ok (.aload_n 0, 1) := by decide +kernel
theorem dL_law_347 : decode cL_law 347 = .ok (.iload 4, 2) := by decide +kernel
theorem dL_law_349 : decode cL_law 349 = .ok (.iconst 1, 1) := by decide +kernel
theorem dL_law_350 : decode cL_law 350 = .ok (.iadd, 1) := by decide +kernel
theorem dL_law_351 : decode cL_law 351 = .ok (.iaload, 1) := by decide +kernel
theorem dL_law_352 : decode cL_law 352 = .ok (.invokevirtual 43, 3) := by decide +kernel
theorem dL_law_355 : decode cL_law 355 = .ok (.aload_n 2, 1) := by decide +kernel
theorem dL_law_356 : decode cL_law 356 = .ok (.aload_n 0, 1) := by decide +kernel
theorem dL_law_357 : decode cL_law 357 = .ok (.iload 4, 2) := by decide +kernel
theorem dL_law_359 : decode cL_law 359 = .ok (.iconst 1, 1) := by decide +kernel
theorem dL_law_360 : decode cL_law 360 = .ok (.iadd, 1) := by decide +kernel
theorem dL_law_361 : decode cL_law 361 = .ok (.iaload, 1) := by decide +kernel
theorem dL_law_362 : decode cL_law 362 = .ok (.invokevirtual 46, 3) := by decide +kernel
theorem dL_law_365 : decode cL_law 365 = .ok (.if_icmp .eq 853, 3) := by decide +kernel
theorem dL_law_368 : decode cL_law 368 = .ok (.iconst 0, 1) := by decide +kernel
theorem dL_law_369 : decode cL_law 369 = .ok (.ireturn, 1) := by decide +kernel
theorem dL_law_370 : decode cL_law 370 = .ok (.aload_n 1, 1) := by decide +kernel
theorem dL_law_371 : decode cL_law 371 = .ok (.aload_n 0, 1) := by decide +kernel
theorem dL_law_372 : decode cL_law 372 = .ok (.iload 4, 2) := by decide +kernel
theorem dL_law_374 : decode cL_law 374 = .ok (.iconst 1, 1) := by decide +kernel
theorem dL_law_375 : decode cL_law 375 = .ok (.iadd, 1) := by decide +kernel
theorem dL_law_376 : decode cL_law 376 = .ok (.iaload, 1) := by decide +kernel
theorem dL_law_377 : decode cL_law 377 = .ok (.invokevirtual 47, 3) := by decide +kernel
theorem dL_law_380 : decode cL_law 380 = .ok (.aload_n 2, 1) := by decide +kernel
theorem dL_law_381 : decode cL_law 381 = .ok (.aload_n 0, 1) := by decide +kernel
theorem dL_law_382 : decode cL_law 382 = .ok (.iload 4, 2) := by decide +kernel
theorem dL_law_384 : decode cL_law 384 = .ok (.iconst 1, 1) := by decide +kernel
theorem dL_law_385 : decode cL_law 385 = .ok (.iadd, 1) := by decide +kernel
theorem dL_law_386 : decode cL_law 386 = .ok (.iaload, 1) := by decide +kernel
theorem dL_law_387 : decode cL_law 387 = .ok (.invokevirtual 50, 3) := by decide +kernel
theorem dL_law_390 : decode cL_law 390 = .ok (.if_icmp .eq 828, 3) := by decide +kernel
theorem dL_law_393 : decode cL_law 393 = .ok (.iconst 0, 1) := by decide +kernel
theorem dL_law_394 : decode cL_law 394 = .ok (.ireturn, 1) := by decide +kernel
theorem dL_law_395 : decode cL_law 395 = .ok (.aload_n 1, 1) := by decide +kernel
theorem dL_law_396 : decode cL_law 396 = .ok (.aload_n 0, 1) := by decide +kernel
theorem dL_law_397 : decode cL_law 397 = .ok (.iload 4, 2) := by decide +kernel
theorem dL_law_399 : decode cL_law 399 = .ok (.iconst 1, 1) := by decide +kernel
theorem dL_law_400 : decode cL_law 400 = .ok (.iadd, 1) := by decide +kernel
theorem dL_law_401 : decode cL_law 401 = .ok (.iaload, 1) := by decide +kernel
theorem dL_law_402 : decode cL_law 402 = .ok (.invokevirtual 51, 3) := by decide +kernel
theorem dL_law_405 : decode cL_law 405 = .ok (.aload_n 2, 1) := by decide +kernel
theorem dL_law_406 : decode cL_law 406 = .ok (.aload_n 0, 1) := by decide +kernel
theorem dL_law_407 : decode cL_law 407 = .ok (.iload 4, 2) := by decide +kernel
theorem dL_law_409 : decode cL_law 409 = .ok (.iconst 1, 1) := by decide +kernel
theorem dL_law_410 : decode cL_law 410 = .ok (.iadd, 1) := by decide +kernel
theorem dL_law_411 : decode cL_law 411 = .ok (.iaload, 1) := by decide +kernel
theorem dL_law_412 : decode cL_law 412 = .ok (.invokevirtual 54, 3) := by decide +kernel
theorem dL_law_415 : decode cL_law 415 = .ok (.if_icmp .eq 803, 3) := by decide +kernel
theorem dL_law_418 : decode cL_law 418 = .ok (.iconst 0, 1) := by decide +kernel
theorem dL_law_419 : decode cL_law 419 = .ok (.ireturn, 1) := by decide +kernel
theorem dL_law_420 : decode cL_law 420 = .ok (.aload_n 1, 1) := by decide +kernel
theorem dL_law_421 : decode cL_law 421 = .ok (.aload_n 0, 1) := by decide +kernel
theorem dL_law_422 : decode cL_law 422 = .ok (.iload 4, 2) := by decide +kernel
theorem dL_law_424 : decode cL_law 424 = .ok (.iconst 1, 1) := by decide +kernel
theorem dL_law_425 : decode cL_law 425 = .ok (.iadd, 1) := by decide +kernel
theorem dL_law_426 : decode cL_law 426 = .ok (.iaload, 1) := by decide +kernel
theorem dL_law_427 : decode cL_law 427 = .ok (.aload_n 0, 1) := by decide +kernel
theorem dL_law_428 : decode cL_law 428 = .ok (.iload 4, 2) := by decide +kernel
theorem dL_law_430 : decode cL_law 430 = .ok (.iconst 2, 1) := by decide +kernel
theorem dL_law_431 : decode cL_law 431 = .ok (.iadd, 1) := by decide +kernel
theorem dL_law_432 : decode cL_law 432 = .ok (.iaload, 1) := by decide +kernel
theorem dL_law_433 : decode cL_law 433 = .ok (.invokevirtual 55, 3) := by decide +kernel
theorem dL_law_436 : decode cL_law 436 = .ok (.aload_n 2, 1) := by decide +kernel
theorem dL_law_437 : decode cL_law 437 = .ok (.aload_n 0, 1) := by decide +kernel
theorem dL_law_438 : decode cL_law 438 = .ok (.iload 4, 2) := by decide +kernel
theorem dL_law_440 : decode cL_law 440 = .ok (.iconst 1, 1) := by decide +kernel
theorem dL_law_441 : decode cL_law 441 = .ok (.iadd, 1) := by decide +kernel
theorem dL_law_442 : decode cL_law 442 = .ok (.iaload, 1) := by decide +kernel
theorem dL_law_443 : decode cL_law 443 = .ok (.aload_n 0, 1) := by decide +kernel
theorem dL_law_444 : decode cL_law 444 = .ok (.iload 4, 2) := by decide +kernel
theorem dL_law_446 : decode cL_law 446 = .ok (.iconst 2, 1) := by decide +kernel
theorem dL_law_447 : decode cL_law 447 = .ok (.iadd, 1) := by decide +kernel
theorem dL_law_448 : decode cL_law 448 = .ok (.iaload, 1) := by decide +kernel
theorem dL_law_449 : decode cL_law 449 = .ok (.invokevirtual 58, 3) := by decide +kernel
theorem dL_law_452 : decode cL_law 452 = .ok (.if_icmp .eq 766, 3) := by decide +kernel
theorem dL_law_455 : decode cL_law 455 = .ok (.iconst 0, 1) := by decide +kernel
theorem dL_law_456 : decode cL_law 456 = .ok (.ireturn, 1) := by decide +kernel
theorem dL_law_457 : decode cL_law 457 = .ok (.aload_n 1, 1) := by decide +kernel
theorem dL_law_458 : decode cL_law 458 = .ok (.aload_n 0, 1) := by decide +kernel
theorem dL_law_459 : decode cL_law 459 = .ok (.iload 4, 2) := by decide +kernel
theorem dL_law_461 : decode cL_law 461 = .ok (.iconst 1, 1) := by decide +kernel
theorem dL_law_462 : decode cL_law 462 = .ok (.iadd, 1) := by decide +kernel
theorem dL_law_463 : decode cL_law 463 = .ok (.iaload, 1) := by decide +kernel
theorem dL_law_464 : decode cL_law 464 = .ok (.invokevirtual 59, 3) := by decide +kernel
theorem dL_law_467 : decode cL_law 467 = .ok (.aload_n 2, 1) := by decide +kernel
theorem dL_law_468 : decode cL_law 468 = .ok (.aload_n 0, 1) := by decide +kernel
theorem dL_law_469 : decode cL_law 469 = .ok (.iload 4, 2) := by decide +kernel
theorem dL_law_471 : decode cL_law 471 = .ok (.iconst 1, 1) := by decide +kernel
theorem dL_law_472 : decode cL_law 472 = .ok (.iadd, 1) := by decide +kernel
theorem dL_law_473 : decode cL_law 473 = .ok (.iaload, 1) := by decide +kernel
theorem dL_law_474 : decode cL_law 474 = .ok (.invokevirtual 62, 3) := by decide +kernel
theorem dL_law_477 : decode cL_law 477 = .ok (.if_icmp .eq 741, 3) := by decide +kernel
theorem dL_law_480 : decode cL_law 480 = .ok (.iconst 0, 1) := by decide +kernel
theorem dL_law_481 : decode cL_law 481 = .ok (.ireturn, 1) := by decide +kernel
theorem dL_law_482 : decode cL_law 482 = .ok (.aload_n 1, 1) := by decide +kernel
theorem dL_law_483 : decode cL_law 483 = .ok (.aload_n 0, 1) := by decide +kernel
theorem dL_law_484 : decode cL_law 484 = .ok (.iload 4, 2) := by decide +kernel
theorem dL_law_486 : decode cL_law 486 = .ok (.iconst 1, 1) := by decide +kernel
theorem dL_law_487 : decode cL_law 487 = .ok (.iadd, 1) := by decide +kernel
theorem dL_law_488 : decode cL_law 488 = .ok (.iaload, 1) := by decide +kernel
theorem dL_law_489 : decode cL_law 489 = .ok (.aload_n 0, 1) := by decide +kernel
theorem dL_law_490 : decode cL_law 490 = .ok (.iload 4, 2) := by decide +kernel
theorem dL_law_492 : decode cL_law 492 = .ok (.iconst 2, 1) := by decide +kernel
theorem dL_law_493 : decode cL_law 493 = .ok (.iadd, 1) := by decide +kernel
theorem dL_law_494 : decode cL_law 494 = .ok (.iaload, 1) := by decide +kernel
theorem dL_law_495 : decode cL_law 495 = .ok (.invokevirtual 63, 3) := by decide +kernel
theorem dL_law_498 : decode cL_law 498 = .ok (.aload_n 2, 1) := by decide +kernel
theorem dL_law_499 : decode cL_law 499 = .ok (.aload_n 0, 1) := by decide +kernel
theorem dL_law_500 : decode cL_law 500 = .ok (.iload 4, 2) := by decide +kernel
theorem dL_law_502 : decode cL_law 502 = .ok (.iconst 1, 1) := by decide +kernel
theorem dL_law_503 : decode cL_law 503 = .ok (.iadd, 1) := by decide +kernel
theorem dL_law_504 : decode cL_law 504 = .ok (.iaload, 1) := by decide +kernel
theorem dL_law_505 : decode cL_law 505 = .ok (.aload_n 0, 1) := by decide +kernel
theorem dL_law_506 : decode cL_law 506 = .ok (.iload 4, 2) := by decide +kernel
theorem dL_law_508 : decode cL_law 508 = .ok (.iconst 2, 1) := by decide +kernel
theorem dL_law_509 : decode cL_law 509 = .ok (.iadd, 1) := by decide +kernel
theorem dL_law_510 : decode cL_law 510 = .ok (.iaload, 1) := by decide +kernel
theorem dL_law_511 : decode cL_law 511 = .ok (.invokevirtual 66, 3) := by decide +kernel
theorem dL_law_514 : decode cL_law 514 = .ok (.if_icmp .eq 704, 3) := by decide +kernel
theorem dL_law_517 : decode cL_law 517 = .ok (.iconst 0, 1) := by decide +kernel
theorem dL_law_518 : decode cL_law 518 = .ok (.ireturn, 1) := by decide +kernel
theorem dL_law_519 : decode cL_law 519 = .ok (.aload_n 1, 1) := by decide +kernel
theorem dL_law_520 : decode cL_law 520 = .ok (.aload_n 0, 1) := by decide +kernel
theorem dL_law_521 : decode cL_law 521 = .ok (.iload 4, 2) := by decide +kernel
theorem dL_law_523 : decode cL_law 523 = .ok (.iconst 1, 1) := by decide +kernel
theorem dL_law_524 : decode cL_law 524 = .ok (.iadd, 1) := by decide +kernel
theorem dL_law_525 : decode cL_law 525 = .ok (.iaload, 1) := by decide +kernel
theorem dL_law_526 : decode cL_law 526 = .ok (.aload_n 0, 1) := by decide +kernel
theorem dL_law_527 : decode cL_law 527 = .ok (.iload 4, 2) := by decide +kernel
theorem dL_law_529 : decode cL_law 529 = .ok (.iconst 2, 1) := by decide +kernel
theorem dL_law_530 : decode cL_law 530 = .ok (.iadd, 1) := by decide +kernel
theorem dL_law_531 : decode cL_law 531 = .ok (.iaload, 1) := by decide +kernel
theorem dL_law_532 : decode cL_law 532 = .ok (.i2l, 1) := by decide +kernel
theorem dL_law_533 : decode cL_law 533 = .ok (.bipush 32, 2) := by decide +kernel
theorem dL_law_535 : decode cL_law 535 = .ok (.lshl, 1) := by decide +kernel
theorem dL_law_536 : decode cL_law 536 = .ok (.aload_n 0, 1) := by decide +kernel
theorem dL_law_537 : decode cL_law 537 = .ok (.iload 4, 2) := by decide +kernel
theorem dL_law_539 : decode cL_law 539 = .ok (.iconst 3, 1) := by decide +kernel
theorem dL_law_540 : decode cL_law 540 = .ok (.iadd, 1) := by decide +kernel
theorem dL_law_541 : decode cL_law 541 = .ok (.iaload, 1) := by decide +kernel
theorem dL_law_542 : decode cL_law 542 = .ok (.i2l, 1) := by decide +kernel
theorem dL_law_543 : decode cL_law 543 = .ok (.ldc2_w 67, 3) := by decide +kernel
theorem dL_law_546 : decode cL_law 546 = .ok (.land, 1) := by decide +kernel
theorem dL_law_547 : decode cL_law 547 = .ok (.lor, 1) := by decide +kernel
theorem dL_law_548 : decode cL_law 548 = .ok (.invokevirtual 69, 3) := by decide +kernel
theorem dL_law_551 : decode cL_law 551 = .ok (.aload_n 2, 1) := by decide +kernel
theorem dL_law_552 : decode cL_law 552 = .ok (.aload_n 0, 1) := by decide +kernel
theorem dL_law_553 : decode cL_law 553 = .ok (.iload 4, 2) := by decide +kernel
theorem dL_law_555 : decode cL_law 555 = .ok (.iconst 1, 1) := by decide +kernel
theorem dL_law_556 : decode cL_law 556 = .ok (.iadd, 1) := by decide +kernel
theorem dL_law_557 : decode cL_law 557 = .ok (.iaload, 1) := by decide +kernel
theorem dL_law_558 : decode cL_law 558 = .ok (.aload_n 0, 1) := by decide +kernel
theorem dL_law_559 : decode cL_law 559 = .ok (.iload 4, 2) := by decide +kernel
theorem dL_law_561 : decode cL_law 561 = .ok (.iconst 2, 1) := by decide +kernel
theorem dL_law_562 : decode cL_law 562 = .ok (.iadd, 1) := by decide +kernel
theorem dL_law_563 : decode cL_law 563 = .ok (.iaload, 1) := by decide +kernel
theorem dL_law_564 : decode cL_law 564 = .ok (.i2l, 1) := by decide +kernel
theorem dL_law_565 : decode cL_law 565 = .ok (.bipush 32, 2) := by decide +kernel
theorem dL_law_567 : decode cL_law 567 = .ok (.lshl, 1) := by decide +kernel
theorem dL_law_568 : decode cL_law 568 = .ok (.aload_n 0, 1) := by decide +kernel
theorem dL_law_569 : decode cL_law 569 = .ok (.iload 4, 2) := by decide +kernel
theorem dL_law_571 : decode cL_law 571 = .ok (.iconst 3, 1) := by decide +kernel
theorem dL_law_572 : decode cL_law 572 = .ok (.iadd, 1) := by decide +kernel
theorem dL_law_573 : decode cL_law 573 = .ok (.iaload, 1) := by decide +kernel
theorem dL_law_574 : decode cL_law 574 = .ok (.i2l, 1) := by decide +kernel
theorem dL_law_575 : decode cL_law 575 = .ok (.ldc2_w 67, 3) := by decide +kernel
theorem dL_law_578 : decode cL_law 578 = .ok (.land, 1) := by decide +kernel
theorem dL_law_579 : decode cL_law 579 = .ok (.lor, 1) := by decide +kernel
theorem dL_law_580 : decode cL_law 580 = .ok (.invokevirtual 73, 3) := by decide +kernel
theorem dL_law_583 : decode cL_law 583 = .ok (.if_icmp .eq 635, 3) := by decide +kernel
theorem dL_law_586 : decode cL_law 586 = .ok (.iconst 0, 1) := by decide +kernel
theorem dL_law_587 : decode cL_law 587 = .ok (.ireturn, 1) := by decide +kernel
theorem dL_law_588 : decode cL_law 588 = .ok (.aload_n 1, 1) := by decide +kernel
theorem dL_law_589 : decode cL_law 589 = .ok (.aload_n 0, 1) := by decide +kernel
theorem dL_law_590 : decode cL_law 590 = .ok (.iload 4, 2) := by decide +kernel
theorem dL_law_592 : decode cL_law 592 = .ok (.iconst 1, 1) := by decide +kernel
theorem dL_law_593 : decode cL_law 593 = .ok (.iadd, 1) := by decide +kernel
theorem dL_law_594 : decode cL_law 594 = .ok (.iaload, 1) := by decide +kernel
theorem dL_law_595 : decode cL_law 595 = .ok (.invokevirtual 74, 3) := by decide +kernel
theorem dL_law_598 : decode cL_law 598 = .ok (.aload_n 2, 1) := by decide +kernel
theorem dL_law_599 : decode cL_law 599 = .ok (.aload_n 0, 1) := by decide +kernel
theorem dL_law_600 : decode cL_law 600 = .ok (.iload 4, 2) := by decide +kernel
theorem dL_law_602 : decode cL_law 602 = .ok (.iconst 1, 1) := by decide +kernel
theorem dL_law_603 : decode cL_law 603 = .ok (.iadd, 1) := by decide +kernel
theorem dL_law_604 : decode cL_law 604 = .ok (.iaload, 1) := by decide +kernel
theorem dL_law_605 : decode cL_law 605 = .ok (.invokevirtual 77, 3) := by decide +kernel
theorem dL_law_608 : decode cL_law 608 = .ok (.if_icmp .eq 610, 3) := by decide +kernel
theorem dL_law_611 : decode cL_law 611 = .ok (.iconst 0, 1) := by decide +kernel
theorem dL_law_612 : decode cL_law 612 = .ok (.ireturn, 1) := by decide +kernel
theorem dL_law_613 : decode cL_law 613 = .ok (.aload_n 1, 1) := by decide +kernel
theorem dL_law_614 : decode cL_law 614 = .ok (.aload_n 0, 1) := by decide +kernel
theorem dL_law_615 : decode cL_law 615 = .ok (.iload 4, 2) := by decide +kernel
theorem dL_law_617 : decode cL_law 617 = .ok (.iconst 1, 1) := by decide +kernel
theorem dL_law_618 : decode cL_law 618 = .ok (.iadd, 1) := by decide +kernel
theorem dL_law_619 : decode cL_law 619 = .ok (.iaload, 1) := by decide +kernel
theorem dL_law_620 : decode cL_law 620 = .ok (.invokevirtual 78, 3) := by decide +kernel
theorem dL_law_623 : decode cL_law 623 = .ok (.aload_n 2, 1) := by decide +kernel
theorem dL_law_624 : decode cL_law 624 = .ok (.aload_n 0, 1) := by decide +kernel
theorem dL_law_625 : decode cL_law 625 = .ok (.iload 4, 2) := by decide +kernel
theorem dL_law_627 : decode cL_law 627 = .ok (.iconst 1, 1) := by decide +kernel
theorem dL_law_628 : decode cL_law 628 = .ok (.iadd, 1) := by decide +kernel
theorem dL_law_629 : decode cL_law 629 = .ok (.iaload, 1) := by decide +kernel
theorem dL_law_630 : decode cL_law 630 = .ok (.invokevirtual 81, 3) := by decide +kernel
theorem dL_law_633 : decode cL_law 633 = .ok (.if_icmp .eq 585, 3) := by decide +kernel
theorem dL_law_636 : decode cL_law 636 = .ok (.iconst 0, 1) := by decide +kernel
theorem dL_law_637 : decode cL_law 637 = .ok (.ireturn, 1) := by decide +kernel
theorem dL_law_638 : decode cL_law 638 = .ok (.aload_n 1, 1) := by decide +kernel
theorem dL_law_639 : decode cL_law 639 = .ok (.aload_n 0, 1) := by decide +kernel
theorem dL_law_640 : decode cL_law 640 = .ok (.iload 4, 2) := by decide +kernel
theorem dL_law_642 : decode cL_law 642 = .ok (.iconst 1, 1) := by decide +kernel
theorem dL_law_643 : decode cL_law 643 = .ok (.iadd, 1) := by decide +kernel
theorem dL_law_644 : decode cL_law 644 = .ok (.iaload, 1) := by decide +kernel
theorem dL_law_645 : decode cL_law 645 = .ok (.invokevirtual 82, 3) := by decide +kernel
theorem dL_law_648 : decode cL_law 648 = .ok (.aload_n 2, 1) := by decide +kernel
theorem dL_law_649 : decode cL_law 649 = .ok (.aload_n 0, 1) := by decide +kernel
theorem dL_law_650 : decode cL_law 650 = .ok (.iload 4, 2) := by decide +kernel
theorem dL_law_652 : decode cL_law 652 = .ok (.iconst 1, 1) := by decide +kernel
theorem dL_law_653 : decode cL_law 653 = .ok (.iadd, 1) := by decide +kernel
theorem dL_law_654 : decode cL_law 654 = .ok (.iaload, 1) := by decide +kernel
theorem dL_law_655 : decode cL_law 655 = .ok (.invokevirtual 85, 3) := by decide +kernel
theorem dL_law_658 : decode cL_law 658 = .ok (.if_icmp .eq 560, 3) := by decide +kernel
theorem dL_law_661 : decode cL_law 661 = .ok (.iconst 0, 1) := by decide +kernel
theorem dL_law_662 : decode cL_law 662 = .ok (.ireturn, 1) := by decide +kernel
theorem dL_law_663 : decode cL_law 663 = .ok (.aload_n 1, 1) := by decide +kernel
theorem dL_law_664 : decode cL_law 664 = .ok (.aload_n 0, 1) := by decide +kernel
theorem dL_law_665 : decode cL_law 665 = .ok (.iload 4, 2) := by decide +kernel
theorem dL_law_667 : decode cL_law 667 = .ok (.iconst 1, 1) := by decide +kernel
theorem dL_law_668 : decode cL_law 668 = .ok (.iadd, 1) := by decide +kernel
theorem dL_law_669 : decode cL_law 669 = .ok (.iaload, 1) := by decide +kernel
theorem dL_law_670 : decode cL_law 670 = .ok (.invokevirtual 86, 3) := by decide +kernel
theorem dL_law_673 : decode cL_law 673 = .ok (.aload_n 2, 1) := by decide +kernel
theorem dL_law_674 : decode cL_law 674 = .ok (.aload_n 0, 1) := by decide +kernel
theorem dL_law_675 : decode cL_law 675 = .ok (.iload 4, 2) := by decide +kernel
theorem dL_law_677 : decode cL_law 677 = .ok (.iconst 1, 1) := by decide +kernel
theorem dL_law_678 : decode cL_law 678 = .ok (.iadd, 1) := by decide +kernel
theorem dL_law_679 : decode cL_law 679 = .ok (.iaload, 1) := by decide +kernel
theorem dL_law_680 : decode cL_law 680 = .ok (.invokevirtual 89, 3) := by decide +kernel
theorem dL_law_683 : decode cL_law 683 = .ok (.if_icmp .eq 535, 3) := by decide +kernel
theorem dL_law_686 : decode cL_law 686 = .ok (.iconst 0, 1) := by decide +kernel
theorem dL_law_687 : decode cL_law 687 = .ok (.ireturn, 1) := by decide +kernel
theorem dL_law_688 : decode cL_law 688 = .ok (.aload_n 1, 1) := by decide +kernel
theorem dL_law_689 : decode cL_law 689 = .ok (.aload_n 0, 1) := by decide +kernel
theorem dL_law_690 : decode cL_law 690 = .ok (.iload 4, 2) := by decide +kernel
theorem dL_law_692 : decode cL_law 692 = .ok (.iconst 1, 1) := by decide +kernel
theorem dL_law_693 : decode cL_law 693 = .ok (.iadd, 1) := by decide +kernel
theorem dL_law_694 : decode cL_law 694 = .ok (.iaload, 1) := by decide +kernel
theorem dL_law_695 : decode cL_law 695 = .ok (.aload_n 0, 1) := by decide +kernel
theorem dL_law_696 : decode cL_law 696 = .ok (.iload 4, 2) := by decide +kernel
theorem dL_law_698 : decode cL_law 698 = .ok (.iconst 2, 1) := by decide +kernel
theorem dL_law_699 : decode cL_law 699 = .ok (.iadd, 1) := by decide +kernel
theorem dL_law_700 : decode cL_law 700 = .ok (.iaload, 1) := by decide +kernel
theorem dL_law_701 : decode cL_law 701 = .ok (.aload_n 3, 1) := by decide +kernel
theorem dL_law_702 : decode cL_law 702 = .ok (.invokestatic 90, 3) := by decide +kernel
theorem dL_law_705 : decode cL_law 705 = .ok (.istore 5, 2) := by decide +kernel
theorem dL_law_707 : decode cL_law 707 = .ok (.aload_n 2, 1) := by decide +kernel
theorem dL_law_708 : decode cL_law 708 = .ok (.aload_n 0, 1) := by decide +kernel
theorem dL_law_709 : decode cL_law 709 = .ok (.iload 4, 2) := by decide +kernel
theorem dL_law_711 : decode cL_law 711 = .ok (.iconst 1, 1) := by decide +kernel
theorem dL_law_712 : decode cL_law 712 = .ok (.iadd, 1) := by decide +kernel
theorem dL_law_713 : decode cL_law 713 = .ok (.iaload, 1) := by decide +kernel
theorem dL_law_714 : decode cL_law 714 = .ok (.aload_n 0, 1) := by decide +kernel
theorem dL_law_715 : decode cL_law 715 = .ok (.iload 4, 2) := by decide +kernel
theorem dL_law_717 : decode cL_law 717 = .ok (.iconst 2, 1) := by decide +kernel
theorem dL_law_718 : decode cL_law 718 = .ok (.iadd, 1) := by decide +kernel
theorem dL_law_719 : decode cL_law 719 = .ok (.iaload, 1) := by decide +kernel
theorem dL_law_720 : decode cL_law 720 = .ok (.invokevirtual 95, 3) := by decide +kernel
theorem dL_law_723 : decode cL_law 723 = .ok (.istore 6, 2) := by decide +kernel
theorem dL_law_725 : decode cL_law 725 = .ok (.aload_n 2, 1) := by decide +kernel
theorem dL_law_726 : decode cL_law 726 = .ok (.invokevirtual 96, 3) := by decide +kernel
theorem dL_law_729 : decode cL_law 729 = .ok (.iload 5, 2) := by decide +kernel
theorem dL_law_731 : decode cL_law 731 = .ok (.if_icmp .eq 5, 3) := by decide +kernel
theorem dL_law_734 : decode cL_law 734 = .ok (.iconst 0, 1) := by decide +kernel
theorem dL_law_735 : decode cL_law 735 = .ok (.ireturn, 1) := by decide +kernel
theorem dL_law_736 : decode cL_law 736 = .ok (.iload 5, 2) := by decide +kernel
theorem dL_law_738 : decode cL_law 738 = .ok (.ifCond .ne 15, 3) := by decide +kernel
theorem dL_law_741 : decode cL_law 741 = .ok (.aload_n 3, 1) := by decide +kernel
theorem dL_law_742 : decode cL_law 742 = .ok (.iconst 0, 1) := by decide +kernel
theorem dL_law_743 : decode cL_law 743 = .ok (.laload, 1) := by decide +kernel
theorem dL_law_744 : decode cL_law 744 = .ok (.iload 6, 2) := by decide +kernel
theorem dL_law_746 : decode cL_law 746 = .ok (.i2l, 1) := by decide +kernel
theorem dL_law_747 : decode cL_law 747 = .ok (.lcmp, 1) := by decide +kernel
theorem dL_law_748 : decode cL_law 748 = .ok (.ifCond .eq 5, 3) := by decide +kernel
theorem dL_law_751 : decode cL_law 751 = .ok (.iconst 0, 1) := by decide +kernel
theorem dL_law_752 : decode cL_law 752 = .ok (.ireturn, 1) := by decide +kernel
theorem dL_law_753 : decode cL_law 753 = .ok (.goto 465, 3) := by decide +kernel
theorem dL_law_756 : decode cL_law 756 = .ok (.aload_n 1, 1) := by decide +kernel
theorem dL_law_757 : decode cL_law 757 = .ok (.aload_n 0, 1) := by decide +kernel
theorem dL_law_758 : decode cL_law 758 = .ok (.iload 4, 2) := by decide +kernel
theorem dL_law_760 : decode cL_law 760 = .ok (.iconst 1, 1) := by decide +kernel
theorem dL_law_761 : decode cL_law 761 = .ok (.iadd, 1) := by decide +kernel
theorem dL_law_762 : decode cL_law 762 = .ok (.iaload, 1) := by decide +kernel
theorem dL_law_763 : decode cL_law 763 = .ok (.aload_n 0, 1) := by decide +kernel
theorem dL_law_764 : decode cL_law 764 = .ok (.iload 4, 2) := by decide +kernel
theorem dL_law_766 : decode cL_law 766 = .ok (.iconst 2, 1) := by decide +kernel
theorem dL_law_767 : decode cL_law 767 = .ok (.iadd, 1) := by decide +kernel
theorem dL_law_768 : decode cL_law 768 = .ok (.iaload, 1) := by decide +kernel
theorem dL_law_769 : decode cL_law 769 = .ok (.invokevirtual 99, 3) := by decide +kernel
theorem dL_law_772 : decode cL_law 772 = .ok (.aload_n 2, 1) := by decide +kernel
theorem dL_law_773 : decode cL_law 773 = .ok (.aload_n 0, 1) := by decide +kernel
theorem dL_law_774 : decode cL_law 774 = .ok (.iload 4, 2) := by decide +kernel
theorem dL_law_776 : decode cL_law 776 = .ok (.iconst 1, 1) := by decide +kernel
theorem dL_law_777 : decode cL_law 777 = .ok (.iadd, 1) := by decide +kernel
theorem dL_law_778 : decode cL_law 778 = .ok (.iaload, 1) := by decide +kernel
theorem dL_law_779 : decode cL_law 779 = .ok (.aload_n 0, 1) := by decide +kernel
theorem dL_law_780 : decode cL_law 780 = .ok (.iload 4, 2) := by decide +kernel
theorem dL_law_782 : decode cL_law 782 = .ok (.iconst 2, 1) := by decide +kernel
theorem dL_law_783 : decode cL_law 783 = .ok (.iadd, 1) := by decide +kernel
theorem dL_law_784 : decode cL_law 784 = .ok (.iaload, 1) := by decide +kernel
theorem dL_law_785 : decode cL_law 785 = .ok (.invokevirtual 102, 3) := by decide +kernel
theorem dL_law_788 : decode cL_law 788 = .ok (.if_icmp .eq 430, 3) := by decide +kernel
theorem dL_law_791 : decode cL_law 791 = .ok (.iconst 0, 1) := by decide +kernel
theorem dL_law_792 : decode cL_law 792 = .ok (.ireturn, 1) := by decide +kernel
theorem dL_law_793 : decode cL_law 793 = .ok (.aload_n 1, 1) := by decide +kernel
theorem dL_law_794 : decode cL_law 794 = .ok (.aload_n 0, 1) := by decide +kernel
theorem dL_law_795 : decode cL_law 795 = .ok (.iload 4, 2) := by decide +kernel
theorem dL_law_797 : decode cL_law 797 = .ok (.iconst 1, 1) := by decide +kernel
theorem dL_law_798 : decode cL_law 798 = .ok (.iadd, 1) := by decide +kernel
theorem dL_law_799 : decode cL_law 799 = .ok (.iaload, 1) := by decide +kernel
theorem dL_law_800 : decode cL_law 800 = .ok (.invokevirtual 103, 3) := by decide +kernel
theorem dL_law_803 : decode cL_law 803 = .ok (.aload_n 2, 1) := by decide +kernel
theorem dL_law_804 : decode cL_law 804 = .ok (.aload_n 0, 1) := by decide +kernel
theorem dL_law_805 : decode cL_law 805 = .ok (.iload 4, 2) := by decide +kernel
theorem dL_law_807 : decode cL_law 807 = .ok (.iconst 1, 1) := by decide +kernel
theorem dL_law_808 : decode cL_law 808 = .ok (.iadd, 1) := by decide +kernel
theorem dL_law_809 : decode cL_law 809 = .ok (.iaload, 1) := by decide +kernel
theorem dL_law_810 : decode cL_law 810 = .ok (.invokevirtual 106, 3) := by decide +kernel
theorem dL_law_813 : decode cL_law 813 = .ok (.if_icmp .eq 405, 3) := by decide +kernel
theorem dL_law_816 : decode cL_law 816 = .ok (.iconst 0, 1) := by decide +kernel
theorem dL_law_817 : decode cL_law 817 = .ok (.ireturn, 1) := by decide +kernel
theorem dL_law_818 : decode cL_law 818 = .ok (.aload_n 1, 1) := by decide +kernel
theorem dL_law_819 : decode cL_law 819 = .ok (.aload_n 0, 1) := by decide +kernel
theorem dL_law_820 : decode cL_law 820 = .ok (.iload 4, 2) := by decide +kernel
theorem dL_law_822 : decode cL_law 822 = .ok (.iconst 1, 1) := by decide +kernel
theorem dL_law_823 : decode cL_law 823 = .ok (.iadd, 1) := by decide +kernel
theorem dL_law_824 : decode cL_law 824 = .ok (.iaload, 1) := by decide +kernel
theorem dL_law_825 : decode cL_law 825 = .ok (.invokevirtual 107, 3) := by decide +kernel
theorem dL_law_828 : decode cL_law 828 = .ok (.aload_n 2, 1) := by decide +kernel
theorem dL_law_829 : decode cL_law 829 = .ok (.aload_n 0, 1) := by decide +kernel
theorem dL_law_830 : decode cL_law 830 = .ok (.iload 4, 2) := by decide +kernel
theorem dL_law_832 : decode cL_law 832 = .ok (.iconst 1, 1) := by decide +kernel
theorem dL_law_833 : decode cL_law 833 = .ok (.iadd, 1) := by decide +kernel
theorem dL_law_834 : decode cL_law 834 = .ok (.iaload, 1) := by decide +kernel
theorem dL_law_835 : decode cL_law 835 = .ok (.invokevirtual 110, 3) := by decide +kernel
theorem dL_law_838 : decode cL_law 838 = .ok (.if_icmp .eq 380, 3) := by decide +kernel
theorem dL_law_841 : decode cL_law 841 = .ok (.iconst 0, 1) := by decide +kernel
theorem dL_law_842 : decode cL_law 842 = .ok (.ireturn, 1) := by decide +kernel
theorem dL_law_843 : decode cL_law 843 = .ok (.aload_n 1, 1) := by decide +kernel
theorem dL_law_844 : decode cL_law 844 = .ok (.aload_n 0, 1) := by decide +kernel
theorem dL_law_845 : decode cL_law 845 = .ok (.iload 4, 2) := by decide +kernel
theorem dL_law_847 : decode cL_law 847 = .ok (.iconst 1, 1) := by decide +kernel
theorem dL_law_848 : decode cL_law 848 = .ok (.iadd, 1) := by decide +kernel
theorem dL_law_849 : decode cL_law 849 = .ok (.iaload, 1) := by decide +kernel
theorem dL_law_850 : decode cL_law 850 = .ok (.invokevirtual 111, 3) := by decide +kernel
theorem dL_law_853 : decode cL_law 853 = .ok (.aload_n 2, 1) := by decide +kernel
theorem dL_law_854 : decode cL_law 854 = .ok (.aload_n 0, 1) := by decide +kernel
theorem dL_law_855 : decode cL_law 855 = .ok (.iload 4, 2) := by decide +kernel
theorem dL_law_857 : decode cL_law 857 = .ok (.iconst 1, 1) := by decide +kernel
theorem dL_law_858 : decode cL_law 858 = .ok (.iadd, 1) := by decide +kernel
theorem dL_law_859 : decode cL_law 859 = .ok (.iaload, 1) := by decide +kernel
theorem dL_law_860 : decode cL_law 860 = .ok (.invokevirtual 114, 3) := by decide +kernel
theorem dL_law_863 : decode cL_law 863 = .ok (.if_icmp .eq 355, 3) := by decide +kernel
theorem dL_law_866 : decode cL_law 866 = .ok (.iconst 0, 1) := by decide +kernel
theorem dL_law_867 : decode cL_law 867 = .ok (.ireturn, 1) := by decide +kernel
theorem dL_law_868 : decode cL_law 868 = .ok (.aload_n 1, 1) := by decide +kernel
theorem dL_law_869 : decode cL_law 869 = .ok (.invokevirtual 115, 3) := by decide +kernel
theorem dL_law_872 : decode cL_law 872 = .ok (.aload_n 2, 1) := by decide +kernel
theorem dL_law_873 : decode cL_law 873 = .ok (.invokevirtual 118, 3) := by decide +kernel
theorem dL_law_876 : decode cL_law 876 = .ok (.if_icmp .eq 342, 3) := by decide +kernel
theorem dL_law_879 : decode cL_law 879 = .ok (.iconst 0, 1) := by decide +kernel
theorem dL_law_880 : decode cL_law 880 = .ok (.ireturn, 1) := by decide +kernel
theorem dL_law_881 : decode cL_law 881 = .ok (.aload_n 1, 1) := by decide +kernel
theorem dL_law_882 : decode cL_law 882 = .ok (.aload_n 0, 1) := by decide +kernel
theorem dL_law_883 : decode cL_law 883 = .ok (.iload 4, 2) := by decide +kernel
theorem dL_law_885 : decode cL_law 885 = .ok (.iconst 1, 1) := by decide +kernel
theorem dL_law_886 : decode cL_law 886 = .ok (.iadd, 1) := by decide +kernel
theorem dL_law_887 : decode cL_law 887 = .ok (.iaload, 1) := by decide +kernel
theorem dL_law_888 : decode cL_law 888 = .ok (.invokevirtual 119, 3) := by decide +kernel
theorem dL_law_891 : decode cL_law 891 = .ok (.aload_n 2, 1) := by decide +kernel
theorem dL_law_892 : decode cL_law 892 = .ok (.aload_n 0, 1) := by decide +kernel
theorem dL_law_893 : decode cL_law 893 = .ok (.iload 4, 2) := by decide +kernel
theorem dL_law_895 : decode cL_law 895 = .ok (.iconst 1, 1) := by decide +kernel
theorem dL_law_896 : decode cL_law 896 = .ok (.iadd, 1) := by decide +kernel
theorem dL_law_897 : decode cL_law 897 = .ok (.iaload, 1) := by decide +kernel
theorem dL_law_898 : decode cL_law 898 = .ok (.invokevirtual 122, 3) := by decide +kernel
theorem dL_law_901 : decode cL_law 901 = .ok (.if_icmp .eq 317, 3) := by decide +kernel
theorem dL_law_904 : decode cL_law 904 = .ok (.iconst 0, 1) := by decide +kernel
theorem dL_law_905 : decode cL_law 905 = .ok (.ireturn, 1) := by decide +kernel
theorem dL_law_906 : decode cL_law 906 = .ok (.aload_n 1, 1) := by decide +kernel
theorem dL_law_907 : decode cL_law 907 = .ok (.aload_n 0, 1) := by decide +kernel
theorem dL_law_908 : decode cL_law 908 = .ok (.iload 4, 2) := by decide +kernel
theorem dL_law_910 : decode cL_law 910 = .ok (.iconst 1, 1) := by decide +kernel
theorem dL_law_911 : decode cL_law 911 = .ok (.iadd, 1) := by decide +kernel
theorem dL_law_912 : decode cL_law 912 = .ok (.iaload, 1) := by decide +kernel
theorem dL_law_913 : decode cL_law 913 = .ok (.aload_n 0, 1) := by decide +kernel
theorem dL_law_914 : decode cL_law 914 = .ok (.iload 4, 2) := by decide +kernel
theorem dL_law_916 : decode cL_law 916 = .ok (.iconst 2, 1) := by decide +kernel
theorem dL_law_917 : decode cL_law 917 = .ok (.iadd, 1) := by decide +kernel
theorem dL_law_918 : decode cL_law 918 = .ok (.iaload, 1) := by decide +kernel
theorem dL_law_919 : decode cL_law 919 = .ok (.invokevirtual 123, 3) := by decide +kernel
theorem dL_law_922 : decode cL_law 922 = .ok (.aload_n 2, 1) := by decide +kernel
theorem dL_law_923 : decode cL_law 923 = .ok (.aload_n 0, 1) := by decide +kernel
theorem dL_law_924 : decode cL_law 924 = .ok (.iload 4, 2) := by decide +kernel
theorem dL_law_926 : decode cL_law 926 = .ok (.iconst 1, 1) := by decide +kernel
theorem dL_law_927 : decode cL_law 927 = .ok (.iadd, 1) := by decide +kernel
theorem dL_law_928 : decode cL_law 928 = .ok (.iaload, 1) := by decide +kernel
theorem dL_law_929 : decode cL_law 929 = .ok (.aload_n 0, 1) := by decide +kernel
theorem dL_law_930 : decode cL_law 930 = .ok (.iload 4, 2) := by decide +kernel
theorem dL_law_932 : decode cL_law 932 = .ok (.iconst 2, 1) := by decide +kernel
theorem dL_law_933 : decode cL_law 933 = .ok (.iadd, 1) := by decide +kernel
theorem dL_law_934 : decode cL_law 934 = .ok (.iaload, 1) := by decide +kernel
theorem dL_law_935 : decode cL_law 935 = .ok (.invokevirtual 126, 3) := by decide +kernel
theorem dL_law_938 : decode cL_law 938 = .ok (.if_icmp .eq 280, 3) := by decide +kernel
theorem dL_law_941 : decode cL_law 941 = .ok (.iconst 0, 1) := by decide +kernel
theorem dL_law_942 : decode cL_law 942 = .ok (.ireturn, 1) := by decide +kernel
theorem dL_law_943 : decode cL_law 943 = .ok (.aload_n 1, 1) := by decide +kernel
theorem dL_law_944 : decode cL_law 944 = .ok (.aload_n 0, 1) := by decide +kernel
theorem dL_law_945 : decode cL_law 945 = .ok (.iload 4, 2) := by decide +kernel
theorem dL_law_947 : decode cL_law 947 = .ok (.iconst 1, 1) := by decide +kernel
theorem dL_law_948 : decode cL_law 948 = .ok (.iadd, 1) := by decide +kernel
theorem dL_law_949 : decode cL_law 949 = .ok (.iaload, 1) := by decide +kernel
theorem dL_law_950 : decode cL_law 950 = .ok (.aload_n 0, 1) := by decide +kernel
theorem dL_law_951 : decode cL_law 951 = .ok (.iload 4, 2) := by decide +kernel
theorem dL_law_953 : decode cL_law 953 = .ok (.iconst 2, 1) := by decide +kernel
theorem dL_law_954 : decode cL_law 954 = .ok (.iadd, 1) := by decide +kernel
theorem dL_law_955 : decode cL_law 955 = .ok (.iaload, 1) := by decide +kernel
theorem dL_law_956 : decode cL_law 956 = .ok (.invokevirtual 127, 3) := by decide +kernel
theorem dL_law_959 : decode cL_law 959 = .ok (.aload_n 2, 1) := by decide +kernel
theorem dL_law_960 : decode cL_law 960 = .ok (.aload_n 0, 1) := by decide +kernel
theorem dL_law_961 : decode cL_law 961 = .ok (.iload 4, 2) := by decide +kernel
theorem dL_law_963 : decode cL_law 963 = .ok (.iconst 1, 1) := by decide +kernel
theorem dL_law_964 : decode cL_law 964 = .ok (.iadd, 1) := by decide +kernel
theorem dL_law_965 : decode cL_law 965 = .ok (.iaload, 1) := by decide +kernel
theorem dL_law_966 : decode cL_law 966 = .ok (.aload_n 0, 1) := by decide +kernel
theorem dL_law_967 : decode cL_law 967 = .ok (.iload 4, 2) := by decide +kernel
theorem dL_law_969 : decode cL_law 969 = .ok (.iconst 2, 1) := by decide +kernel
theorem dL_law_970 : decode cL_law 970 = .ok (.iadd, 1) := by decide +kernel
theorem dL_law_971 : decode cL_law 971 = .ok (.iaload, 1) := by decide +kernel
theorem dL_law_972 : decode cL_law 972 = .ok (.invokevirtual 130, 3) := by decide +kernel
theorem dL_law_975 : decode cL_law 975 = .ok (.if_icmp .eq 243, 3) := by decide +kernel
theorem dL_law_978 : decode cL_law 978 = .ok (.iconst 0, 1) := by decide +kernel
theorem dL_law_979 : decode cL_law 979 = .ok (.ireturn, 1) := by decide +kernel
theorem dL_law_980 : decode cL_law 980 = .ok (.aload_n 1, 1) := by decide +kernel
theorem dL_law_981 : decode cL_law 981 = .ok (.aload_n 0, 1) := by decide +kernel
theorem dL_law_982 : decode cL_law 982 = .ok (.iload 4, 2) := by decide +kernel
theorem dL_law_984 : decode cL_law 984 = .ok (.iconst 1, 1) := by decide +kernel
theorem dL_law_985 : decode cL_law 985 = .ok (.iadd, 1) := by decide +kernel
theorem dL_law_986 : decode cL_law 986 = .ok (.iaload, 1) := by decide +kernel
theorem dL_law_987 : decode cL_law 987 = .ok (.invokevirtual 131, 3) := by decide +kernel
theorem dL_law_990 : decode cL_law 990 = .ok (.aload_n 2, 1) := by decide +kernel
theorem dL_law_991 : decode cL_law 991 = .ok (.aload_n 0, 1) := by decide +kernel
theorem dL_law_992 : decode cL_law 992 = .ok (.iload 4, 2) := by decide +kernel
theorem dL_law_994 : decode cL_law 994 = .ok (.iconst 1, 1) := by decide +kernel
theorem dL_law_995 : decode cL_law 995 = .ok (.iadd, 1) := by decide +kernel
theorem dL_law_996 : decode cL_law 996 = .ok (.iaload, 1) := by decide +kernel
theorem dL_law_997 : decode cL_law 997 = .ok (.invokevirtual 134, 3) := by decide +kernel
theorem dL_law_1000 : decode cL_law 1000 = .ok (.if_icmp .eq 218, 3) := by decide +kernel
theorem dL_law_1003 : decode cL_law 1003 = .ok (.iconst 0, 1) := by decide +kernel
theorem dL_law_1004 : decode cL_law 1004 = .ok (.ireturn, 1) := by decide +kernel
theorem dL_law_1005 : decode cL_law 1005 = .ok (.aload_n 1, 1) := by decide +kernel
theorem dL_law_1006 : decode cL_law 1006 = .ok (.aload_n 0, 1) := by decide +kernel
theorem dL_law_1007 : decode cL_law 1007 = .ok (.iload 4, 2) := by decide +kernel
theorem dL_law_1009 : decode cL_law 1009 = .ok (.iconst 1, 1) := by decide +kernel
theorem dL_law_1010 : decode cL_law 1010 = .ok (.iadd, 1) := by decide +kernel
theorem dL_law_1011 : decode cL_law 1011 = .ok (.iaload, 1) := by decide +kernel
theorem dL_law_1012 : decode cL_law 1012 = .ok (.aload_n 0, 1) := by decide +kernel
theorem dL_law_1013 : decode cL_law 1013 = .ok (.iload 4, 2) := by decide +kernel
theorem dL_law_1015 : decode cL_law 1015 = .ok (.iconst 2, 1) := by decide +kernel
theorem dL_law_1016 : decode cL_law 1016 = .ok (.iadd, 1) := by decide +kernel
theorem dL_law_1017 : decode cL_law 1017 = .ok (.iaload, 1) := by decide +kernel
theorem dL_law_1018 : decode cL_law 1018 = .ok (.invokevirtual 135, 3) := by decide +kernel
theorem dL_law_1021 : decode cL_law 1021 = .ok (.aload_n 2, 1) := by decide +kernel
theorem dL_law_1022 : decode cL_law 1022 = .ok (.aload_n 0, 1) := by decide +kernel
theorem dL_law_1023 : decode cL_law 1023 = .ok (.iload 4, 2) := by decide +kernel
theorem dL_law_1025 : decode cL_law 1025 = .ok (.iconst 1, 1) := by decide +kernel
theorem dL_law_1026 : decode cL_law 1026 = .ok (.iadd, 1) := by decide +kernel
theorem dL_law_1027 : decode cL_law 1027 = .ok (.iaload, 1) := by decide +kernel
theorem dL_law_1028 : decode cL_law 1028 = .ok (.aload_n 0, 1) := by decide +kernel
theorem dL_law_1029 : decode cL_law 1029 = .ok (.iload 4, 2) := by decide +kernel
theorem dL_law_1031 : decode cL_law 1031 = .ok (.iconst 2, 1) := by decide +kernel
theorem dL_law_1032 : decode cL_law 1032 = .ok (.iadd, 1) := by decide +kernel
theorem dL_law_1033 : decode cL_law 1033 = .ok (.iaload, 1) := by decide +kernel
theorem dL_law_1034 : decode cL_law 1034 = .ok (.invokevirtual 138, 3) := by decide +kernel
theorem dL_law_1037 : decode cL_law 1037 = .ok (.if_icmp .eq 181, 3) := by decide +kernel
theorem dL_law_1040 : decode cL_law 1040 = .ok (.iconst 0, 1) := by decide +kernel
theorem dL_law_1041 : decode cL_law 1041 = .ok (.ireturn, 1) := by decide +kernel
theorem dL_law_1042 : decode cL_law 1042 = .ok (.aload_n 1, 1) := by decide +kernel
theorem dL_law_1043 : decode cL_law 1043 = .ok (.aload_n 0, 1) := by decide +kernel
theorem dL_law_1044 : decode cL_law 1044 = .ok (.iload 4, 2) := by decide +kernel
theorem dL_law_1046 : decode cL_law 1046 = .ok (.iconst 1, 1) := by decide +kernel
theorem dL_law_1047 : decode cL_law 1047 = .ok (.iadd, 1) := by decide +kernel
theorem dL_law_1048 : decode cL_law 1048 = .ok (.iaload, 1) := by decide +kernel
theorem dL_law_1049 : decode cL_law 1049 = .ok (.aload_n 0, 1) := by decide +kernel
theorem dL_law_1050 : decode cL_law 1050 = .ok (.iload 4, 2) := by decide +kernel
theorem dL_law_1052 : decode cL_law 1052 = .ok (.iconst 2, 1) := by decide +kernel
theorem dL_law_1053 : decode cL_law 1053 = .ok (.iadd, 1) := by decide +kernel
theorem dL_law_1054 : decode cL_law 1054 = .ok (.iaload, 1) := by decide +kernel
theorem dL_law_1055 : decode cL_law 1055 = .ok (.invokevirtual 139, 3) := by decide +kernel
theorem dL_law_1058 : decode cL_law 1058 = .ok (.aload_n 2, 1) := by decide +kernel
theorem dL_law_1059 : decode cL_law 1059 = .ok (.aload_n 0, 1) := by decide +kernel
theorem dL_law_1060 : decode cL_law 1060 = .ok (.iload 4, 2) := by decide +kernel
theorem dL_law_1062 : decode cL_law 1062 = .ok (.iconst 1, 1) := by decide +kernel
theorem dL_law_1063 : decode cL_law 1063 = .ok (.iadd, 1) := by decide +kernel
theorem dL_law_1064 : decode cL_law 1064 = .ok (.iaload, 1) := by decide +kernel
theorem dL_law_1065 : decode cL_law 1065 = .ok (.aload_n 0, 1) := by decide +kernel
theorem dL_law_1066 : decode cL_law 1066 = .ok (.iload 4, 2) := by decide +kernel
theorem dL_law_1068 : decode cL_law 1068 = .ok (.iconst 2, 1) := by decide +kernel
theorem dL_law_1069 : decode cL_law 1069 = .ok (.iadd, 1) := by decide +kernel
theorem dL_law_1070 : decode cL_law 1070 = .ok (.iaload, 1) := by decide +kernel
theorem dL_law_1071 : decode cL_law 1071 = .ok (.invokevirtual 142, 3) := by decide +kernel
theorem dL_law_1074 : decode cL_law 1074 = .ok (.if_icmp .eq 144, 3) := by decide +kernel
theorem dL_law_1077 : decode cL_law 1077 = .ok (.iconst 0, 1) := by decide +kernel
theorem dL_law_1078 : decode cL_law 1078 = .ok (.ireturn, 1) := by decide +kernel
theorem dL_law_1079 : decode cL_law 1079 = .ok (.aload_n 1, 1) := by decide +kernel
theorem dL_law_1080 : decode cL_law 1080 = .ok (.aload_n 0, 1) := by decide +kernel
theorem dL_law_1081 : decode cL_law 1081 = .ok (.iload 4, 2) := by decide +kernel
theorem dL_law_1083 : decode cL_law 1083 = .ok (.iconst 1, 1) := by decide +kernel
theorem dL_law_1084 : decode cL_law 1084 = .ok (.iadd, 1) := by decide +kernel
theorem dL_law_1085 : decode cL_law 1085 = .ok (.iaload, 1) := by decide +kernel
theorem dL_law_1086 : decode cL_law 1086 = .ok (.invokevirtual 143, 3) := by decide +kernel
theorem dL_law_1089 : decode cL_law 1089 = .ok (.aload_n 2, 1) := by decide +kernel
theorem dL_law_1090 : decode cL_law 1090 = .ok (.aload_n 0, 1) := by decide +kernel
theorem dL_law_1091 : decode cL_law 1091 = .ok (.iload 4, 2) := by decide +kernel
theorem dL_law_1093 : decode cL_law 1093 = .ok (.iconst 1, 1) := by decide +kernel
theorem dL_law_1094 : decode cL_law 1094 = .ok (.iadd, 1) := by decide +kernel
theorem dL_law_1095 : decode cL_law 1095 = .ok (.iaload, 1) := by decide +kernel
theorem dL_law_1096 : decode cL_law 1096 = .ok (.invokevirtual 146, 3) := by decide +kernel
theorem dL_law_1099 : decode cL_law 1099 = .ok (.if_icmp .eq 119, 3) := by decide +kernel
theorem dL_law_1102 : decode cL_law 1102 = .ok (.iconst 0, 1) := by decide +kernel
theorem dL_law_1103 : decode cL_law 1103 = .ok (.ireturn, 1) := by decide +kernel
theorem dL_law_1104 : decode cL_law 1104 = .ok (.aload_n 1, 1) := by decide +kernel
theorem dL_law_1105 : decode cL_law 1105 = .ok (.invokevirtual 147, 3) := by decide +kernel
theorem dL_law_1108 : decode cL_law 1108 = .ok (.aload_n 2, 1) := by decide +kernel
theorem dL_law_1109 : decode cL_law 1109 = .ok (.invokevirtual 150, 3) := by decide +kernel
theorem dL_law_1112 : decode cL_law 1112 = .ok (.if_icmp .eq 106, 3) := by decide +kernel
theorem dL_law_1115 : decode cL_law 1115 = .ok (.iconst 0, 1) := by decide +kernel
theorem dL_law_1116 : decode cL_law 1116 = .ok (.ireturn, 1) := by decide +kernel
theorem dL_law_1117 : decode cL_law 1117 = .ok (.aload_n 1, 1) := by decide +kernel
theorem dL_law_1118 : decode cL_law 1118 = .ok (.invokevirtual 151, 3) := by decide +kernel
theorem dL_law_1121 : decode cL_law 1121 = .ok (.aload_n 2, 1) := by decide +kernel
theorem dL_law_1122 : decode cL_law 1122 = .ok (.invokevirtual 154, 3) := by decide +kernel
theorem dL_law_1125 : decode cL_law 1125 = .ok (.if_icmp .eq 93, 3) := by decide +kernel
theorem dL_law_1128 : decode cL_law 1128 = .ok (.iconst 0, 1) := by decide +kernel
theorem dL_law_1129 : decode cL_law 1129 = .ok (.ireturn, 1) := by decide +kernel
theorem dL_law_1130 : decode cL_law 1130 = .ok (.aload_n 1, 1) := by decide +kernel
theorem dL_law_1131 : decode cL_law 1131 = .ok (.invokevirtual 155, 3) := by decide +kernel
theorem dL_law_1134 : decode cL_law 1134 = .ok (.aload_n 2, 1) := by decide +kernel
theorem dL_law_1135 : decode cL_law 1135 = .ok (.invokevirtual 158, 3) := by decide +kernel
theorem dL_law_1138 : decode cL_law 1138 = .ok (.if_icmp .eq 80, 3) := by decide +kernel
theorem dL_law_1141 : decode cL_law 1141 = .ok (.iconst 0, 1) := by decide +kernel
theorem dL_law_1142 : decode cL_law 1142 = .ok (.ireturn, 1) := by decide +kernel
theorem dL_law_1143 : decode cL_law 1143 = .ok (.aload_n 1, 1) := by decide +kernel
theorem dL_law_1144 : decode cL_law 1144 = .ok (.aload_n 0, 1) := by decide +kernel
theorem dL_law_1145 : decode cL_law 1145 = .ok (.iload 4, 2) := by decide +kernel
theorem dL_law_1147 : decode cL_law 1147 = .ok (.iconst 1, 1) := by decide +kernel
theorem dL_law_1148 : decode cL_law 1148 = .ok (.iadd, 1) := by decide +kernel
theorem dL_law_1149 : decode cL_law 1149 = .ok (.iaload, 1) := by decide +kernel
theorem dL_law_1150 : decode cL_law 1150 = .ok (.invokevirtual 159, 3) := by decide +kernel
theorem dL_law_1153 : decode cL_law 1153 = .ok (.aload_n 2, 1) := by decide +kernel
theorem dL_law_1154 : decode cL_law 1154 = .ok (.aload_n 0, 1) := by decide +kernel
theorem dL_law_1155 : decode cL_law 1155 = .ok (.iload 4, 2) := by decide +kernel
theorem dL_law_1157 : decode cL_law 1157 = .ok (.iconst 1, 1) := by decide +kernel
theorem dL_law_1158 : decode cL_law 1158 = .ok (.iadd, 1) := by decide +kernel
theorem dL_law_1159 : decode cL_law 1159 = .ok (.iaload, 1) := by decide +kernel
theorem dL_law_1160 : decode cL_law 1160 = .ok (.invokevirtual 162, 3) := by decide +kernel
theorem dL_law_1163 : decode cL_law 1163 = .ok (.if_icmp .eq 55, 3) := by decide +kernel
theorem dL_law_1166 : decode cL_law 1166 = .ok (.iconst 0, 1) := by decide +kernel
theorem dL_law_1167 : decode cL_law 1167 = .ok (.ireturn, 1) := by decide +kernel
theorem dL_law_1168 : decode cL_law 1168 = .ok (.aload_n 1, 1) := by decide +kernel
theorem dL_law_1169 : decode cL_law 1169 = .ok (.aload_n 0, 1) := by decide +kernel
theorem dL_law_1170 : decode cL_law 1170 = .ok (.iload 4, 2) := by decide +kernel
theorem dL_law_1172 : decode cL_law 1172 = .ok (.iconst 1, 1) := by decide +kernel
theorem dL_law_1173 : decode cL_law 1173 = .ok (.iadd, 1) := by decide +kernel
theorem dL_law_1174 : decode cL_law 1174 = .ok (.iaload, 1) := by decide +kernel
theorem dL_law_1175 : decode cL_law 1175 = .ok (.invokevirtual 163, 3) := by decide +kernel
theorem dL_law_1178 : decode cL_law 1178 = .ok (.aload_n 2, 1) := by decide +kernel
theorem dL_law_1179 : decode cL_law 1179 = .ok (.aload_n 0, 1) := by decide +kernel
theorem dL_law_1180 : decode cL_law 1180 = .ok (.iload 4, 2) := by decide +kernel
theorem dL_law_1182 : decode cL_law 1182 = .ok (.iconst 1, 1) := by decide +kernel
theorem dL_law_1183 : decode cL_law 1183 = .ok (.iadd, 1) := by decide +kernel
theorem dL_law_1184 : decode cL_law 1184 = .ok (.iaload, 1) := by decide +kernel
theorem dL_law_1185 : decode cL_law 1185 = .ok (.invokevirtual 166, 3) := by decide +kernel
theorem dL_law_1188 : decode cL_law 1188 = .ok (.if_icmp .eq 30, 3) := by decide +kernel
theorem dL_law_1191 : decode cL_law 1191 = .ok (.iconst 0, 1) := by decide +kernel
theorem dL_law_1192 : decode cL_law 1192 = .ok (.ireturn, 1) := by decide +kernel
theorem dL_law_1193 : decode cL_law 1193 = .ok (.aload_n 1, 1) := by decide +kernel
theorem dL_law_1194 : decode cL_law 1194 = .ok (.aload_n 0, 1) := by decide +kernel
theorem dL_law_1195 : decode cL_law 1195 = .ok (.iload 4, 2) := by decide +kernel
theorem dL_law_1197 : decode cL_law 1197 = .ok (.iconst 1, 1) := by decide +kernel
theorem dL_law_1198 : decode cL_law 1198 = .ok (.iadd, 1) := by decide +kernel
theorem dL_law_1199 : decode cL_law 1199 = .ok (.iaload, 1) := by decide +kernel
theorem dL_law_1200 : decode cL_law 1200 = .ok (.invokevirtual 167, 3) := by decide +kernel
theorem dL_law_1203 : decode cL_law 1203 = .ok (.aload_n 2, 1) := by decide +kernel
theorem dL_law_1204 : decode cL_law 1204 = .ok (.aload_n 0, 1) := by decide +kernel
theorem dL_law_1205 : decode cL_law 1205 = .ok (.iload 4, 2) := by decide +kernel
theorem dL_law_1207 : decode cL_law 1207 = .ok (.iconst 1, 1) := by decide +kernel
theorem dL_law_1208 : decode cL_law 1208 = .ok (.iadd, 1) := by decide +kernel
theorem dL_law_1209 : decode cL_law 1209 = .ok (.iaload, 1) := by decide +kernel
theorem dL_law_1210 : decode cL_law 1210 = .ok (.invokevirtual 170, 3) := by decide +kernel
theorem dL_law_1213 : decode cL_law 1213 = .ok (.if_icmp .eq 5, 3) := by decide +kernel
theorem dL_law_1216 : decode cL_law 1216 = .ok (.iconst 0, 1) := by decide +kernel
theorem dL_law_1217 : decode cL_law 1217 = .ok (.ireturn, 1) := by decide +kernel
theorem dL_law_1218 : decode cL_law 1218 = .ok (.iinc 4 6, 3) := by decide +kernel
theorem dL_law_1221 : decode cL_law 1221 = .ok (.goto (-1198), 3) := by decide +kernel
theorem dL_law_1224 : decode cL_law 1224 = .ok (.iconst 1, 1) := by decide +kernel
theorem dL_law_1225 : decode cL_law 1225 = .ok (.ireturn, 1) := by decide +kernel
