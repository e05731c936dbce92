theorem dc_S_init_0 : decode bc_S_init 0 = .ok (.aload_n 0, 1) := by decide +kernel
theorem dc_S_init_1 : decode bc_S_init 1 = .ok (.invokespecial 3, 3) := by decide +kernel
theorem dc_S_init_4 : decode bc_S_init 4 = .ok (.aload_n 0, 1) := by decide +kernel
theorem dc_S_init_5 : decode bc_S_init 5 = .ok (.bipush 10, 2) := by decide +kernel
theorem dc_S_init_7 : decode bc_S_init 7 = .ok (.anewarray 9, 3) := by decide +kernel
theorem dc_S_init_10 : decode bc_S_init 10 = .ok (.putfield 11, 3) := by decide +kernel
theorem dc_S_init_13 : decode bc_S_init 13 = .ok (.aload_n 0, 1) := by decide +kernel
theorem dc_S_init_14 : decode bc_S_init 14 = .ok (.new 15, 3) := by decide +kernel
theorem dc_S_init_17 : decode bc_S_init 17 = .ok (.dup, 1) := by decide +kernel
theorem dc_S_init_18 : decode bc_S_init 18 = .ok (.invokespecial 17, 3) := by decide +kernel
theorem dc_S_init_21 : decode bc_S_init 21 = .ok (.putfield 18, 3) := by decide +kernel
theorem dc_S_init_24 : decode bc_S_init 24 = .ok (.aload_n 0, 1) := by decide +kernel
theorem dc_S_init_25 : decode bc_S_init 25 = .ok (.new 22, 3) := by decide +kernel
theorem dc_S_init_28 : decode bc_S_init 28 = .ok (.dup, 1) := by decide +kernel
theorem dc_S_init_29 : decode bc_S_init 29 = .ok (.invokespecial 24, 3) := by decide +kernel
theorem dc_S_init_32 : decode bc_S_init 32 = .ok (.putfield 25, 3) := by decide +kernel
theorem dc_S_init_35 : decode bc_S_init 35 = .ok (.aload_n 0, 1) := by decide +kernel
theorem dc_S_init_36 : decode bc_S_init 36 = .ok (.new 29, 3) := by decide +kernel
theorem dc_S_init_39 : decode bc_S_init 39 = .ok (.dup, 1) := by decide +kernel
theorem dc_S_init_40 : decode bc_S_init 40 = .ok (.invokespecial 31, 3) := by decide +kernel
theorem dc_S_init_43 : decode bc_S_init 43 = .ok (.putfield 32, 3) := by decide +kernel
theorem dc_S_init_46 : decode bc_S_init 46 = .ok (.aload_n 0, 1) := by decide +kernel
theorem dc_S_init_47 : decode bc_S_init 47 = .ok (.new 36, 3) := by decide +kernel
theorem dc_S_init_50 : decode bc_S_init 50 = .ok (.dup, 1) := by decide +kernel
theorem dc_S_init_51 : decode bc_S_init 51 = .ok (.invokespecial 38, 3) := by decide +kernel
theorem dc_S_init_54 : decode bc_S_init 54 = .ok (.putfield 39, 3) := by decide +kernel
theorem dc_S_init_57 : decode bc_S_init 57 = .ok (.aload_n 0, 1) := by decide +kernel
theorem dc_S_init_58 : decode bc_S_init 58 = .ok (.new 9, 3) := by decide +kernel
theorem dc_S_init_61 : decode bc_S_init 61 = .ok (.dup, 1) := by decide +kernel
theorem dc_S_init_62 : decode bc_S_init 62 = .ok (.invokespecial 43, 3) := by decide +kernel
theorem dc_S_init_65 : decode bc_S_init 65 = .ok (.putfield 44, 3) := by decide +kernel
theorem dc_S_init_68 : decode bc_S_init 68 = .ok (.iconst 0, 1) := by decide +kernel
theorem dc_S_init_69 : decode bc_S_init 69 = .ok (.istore_n 1, 1) := by decide +kernel
theorem dc_S_init_70 : decode bc_S_init 70 = .ok (.iload_n 1, 1) := by decide +kernel
theorem dc_S_init_71 : decode bc_S_init 71 = .ok (.bipush 10, 2) := by decide +kernel
theorem dc_S_init_73 : decode bc_S_init 73 = .ok (.if_icmp .ge 22, 3) := by decide +kernel
theorem dc_S_init_76 : decode bc_S_init 76 = .ok (.aload_n 0, 1) := by decide +kernel
theorem dc_S_init_77 : decode bc_S_init 77 = .ok (.getfield 11, 3) := by decide +kernel
theorem dc_S_init_80 : decode bc_S_init 80 = .ok (.iload_n 1, 1) := by decide +kernel
theorem dc_S_init_81 : decode bc_S_init 81 = .ok (.new 9, 3) := by decide +kernel
theorem dc_S_init_84 : decode bc_S_init 84 = .ok (.dup, 1) := by decide +kernel
theorem dc_S_init_85 : decode bc_S_init 85 = .ok (.invokespecial 43, 3) := by decide +kernel
theorem dc_S_init_88 : decode bc_S_init 88 = .ok (.aastore, 1) := by decide +kernel
theorem dc_S_init_89 : decode bc_S_init 89 = .ok (.iinc 1 1, 3) := by decide +kernel
theorem dc_S_init_92 : decode bc_S_init 92 = .ok (.goto (-22), 3) := by decide +kernel
theorem dc_S_init_95 : decode bc_S_init 95 = .ok (.return_, 1) := by decide +kernel
theorem dc_S_put_0 : decode bc_S_put 0 = .ok (.iload_n 1, 1) := by decide +kernel
theorem dc_S_put_1 : decode bc_S_put 1 = .ok (.invokestatic 48, 3) := by decide +kernel
theorem dc_S_put_4 : decode bc_S_put 4 = .ok (.iload_n 2, 1) := by decide +kernel
theorem dc_S_put_5 : decode bc_S_put 5 = .ok (.invokestatic 52, 3) := by decide +kernel
theorem dc_S_put_8 : decode bc_S_put 8 = .ok (.iload_n 2, 1) := by decide +kernel
theorem dc_S_put_9 : decode bc_S_put 9 = .ok (.invokestatic 55, 3) := by decide +kernel
theorem dc_S_put_12 : decode bc_S_put 12 = .ok (.istore_n 3, 1) := by decide +kernel
theorem dc_S_put_13 : decode bc_S_put 13 = .ok (.aload_n 0, 1) := by decide +kernel
theorem dc_S_put_14 : decode bc_S_put 14 = .ok (.getfield 11, 3) := by decide +kernel
theorem dc_S_put_17 : decode bc_S_put 17 = .ok (.iload_n 1, 1) := by decide +kernel
theorem dc_S_put_18 : decode bc_S_put 18 = .ok (.aaload, 1) := by decide +kernel
theorem dc_S_put_19 : decode bc_S_put 19 = .ok (.iload_n 3, 1) := by decide +kernel
theorem dc_S_put_20 : decode bc_S_put 20 = .ok (.invokevirtual 59, 3) := by decide +kernel
theorem dc_S_put_23 : decode bc_S_put 23 = .ok (.ifCond .ne 7, 3) := by decide +kernel
theorem dc_S_put_26 : decode bc_S_put 26 = .ok (.iconst 1, 1) := by decide +kernel
theorem dc_S_put_27 : decode bc_S_put 27 = .ok (.goto 4, 3) := by decide +kernel
theorem dc_S_put_30 : decode bc_S_put 30 = .ok (.iconst 0, 1) := by decide +kernel
theorem dc_S_put_31 : decode bc_S_put 31 = .ok (.istore 4, 2) := by decide +kernel
theorem dc_S_put_33 : decode bc_S_put 33 = .ok (.aload_n 0, 1) := by decide +kernel
theorem dc_S_put_34 : decode bc_S_put 34 = .ok (.getfield 11, 3) := by decide +kernel
theorem dc_S_put_37 : decode bc_S_put 37 = .ok (.iload_n 1, 1) := by decide +kernel
theorem dc_S_put_38 : decode bc_S_put 38 = .ok (.aaload, 1) := by decide +kernel
theorem dc_S_put_39 : decode bc_S_put 39 = .ok (.iload_n 3, 1) := by decide +kernel
theorem dc_S_put_40 : decode bc_S_put 40 = .ok (.invokevirtual 63, 3) := by decide +kernel
theorem dc_S_put_43 : decode bc_S_put 43 = .ok (.iload 4, 2) := by decide +kernel
theorem dc_S_put_45 : decode bc_S_put 45 = .ok (.ireturn, 1) := by decide +kernel
theorem dc_S_checkShelf_0 : decode bc_S_checkShelf 0 = .ok (.iload_n 0, 1) := by decide +kernel
theorem dc_S_checkShelf_1 : decode bc_S_checkShelf 1 = .ok (.ifCond .lt 9, 3) := by decide +kernel
theorem dc_S_checkShelf_4 : decode bc_S_checkShelf 4 = .ok (.iload_n 0, 1) := by decide +kernel
theorem dc_S_checkShelf_5 : decode bc_S_checkShelf 5 = .ok (.bipush 10, 2) := by decide +kernel
theorem dc_S_checkShelf_7 : decode bc_S_checkShelf 7 = .ok (.if_icmp .lt 13, 3) := by decide +kernel
theorem dc_S_checkShelf_10 : decode bc_S_checkShelf 10 = .ok (.new 148, 3) := by decide +kernel
theorem dc_S_checkShelf_13 : decode bc_S_checkShelf 13 = .ok (.dup, 1) := by decide +kernel
theorem dc_S_checkShelf_14 : decode bc_S_checkShelf 14 = .ok (.ldc 150, 2) := by decide +kernel
theorem dc_S_checkShelf_16 : decode bc_S_checkShelf 16 = .ok (.invokespecial 152, 3) := by decide +kernel
theorem dc_S_checkShelf_19 : decode bc_S_checkShelf 19 = .ok (.athrow, 1) := by decide +kernel
theorem dc_S_checkShelf_20 : decode bc_S_checkShelf 20 = .ok (.return_, 1) := by decide +kernel
theorem dc_S_checkSet_0 : decode bc_S_checkSet 0 = .ok (.iload_n 0, 1) := by decide +kernel
theorem dc_S_checkSet_1 : decode bc_S_checkSet 1 = .ok (.iconst 0, 1) := by decide +kernel
theorem dc_S_checkSet_2 : decode bc_S_checkSet 2 = .ok (.sipush 4095, 3) := by decide +kernel
theorem dc_S_checkSet_5 : decode bc_S_checkSet 5 = .ok (.invokestatic 77, 3) := by decide +kernel
theorem dc_S_checkSet_8 : decode bc_S_checkSet 8 = .ok (.return_, 1) := by decide +kernel
theorem dc_S_checkRange_0 : decode bc_S_checkRange 0 = .ok (.iload_n 0, 1) := by decide +kernel
theorem dc_S_checkRange_1 : decode bc_S_checkRange 1 = .ok (.iload_n 1, 1) := by decide +kernel
theorem dc_S_checkRange_2 : decode bc_S_checkRange 2 = .ok (.if_icmp .lt 8, 3) := by decide +kernel
theorem dc_S_checkRange_5 : decode bc_S_checkRange 5 = .ok (.iload_n 0, 1) := by decide +kernel
theorem dc_S_checkRange_6 : decode bc_S_checkRange 6 = .ok (.iload_n 2, 1) := by decide +kernel
theorem dc_S_checkRange_7 : decode bc_S_checkRange 7 = .ok (.if_icmp .le 13, 3) := by decide +kernel
theorem dc_S_checkRange_10 : decode bc_S_checkRange 10 = .ok (.new 159, 3) := by decide +kernel
theorem dc_S_checkRange_13 : decode bc_S_checkRange 13 = .ok (.dup, 1) := by decide +kernel
theorem dc_S_checkRange_14 : decode bc_S_checkRange 14 = .ok (.ldc 161, 2) := by decide +kernel
theorem dc_S_checkRange_16 : decode bc_S_checkRange 16 = .ok (.invokespecial 163, 3) := by decide +kernel
theorem dc_S_checkRange_19 : decode bc_S_checkRange 19 = .ok (.athrow, 1) := by decide +kernel
theorem dc_S_checkRange_20 : decode bc_S_checkRange 20 = .ok (.return_, 1) := by decide +kernel
theorem dc_S_mirrored_0 : decode bc_S_mirrored 0 = .ok (.iconst 0, 1) := by decide +kernel
theorem dc_S_mirrored_1 : decode bc_S_mirrored 1 = .ok (.istore_n 1, 1) := by decide +kernel
theorem dc_S_mirrored_2 : decode bc_S_mirrored 2 = .ok (.iconst 0, 1) := by decide +kernel
theorem dc_S_mirrored_3 : decode bc_S_mirrored 3 = .ok (.istore_n 2, 1) := by decide +kernel
theorem dc_S_mirrored_4 : decode bc_S_mirrored 4 = .ok (.iload_n 2, 1) := by decide +kernel
theorem dc_S_mirrored_5 : decode bc_S_mirrored 5 = .ok (.bipush 12, 2) := by decide +kernel
theorem dc_S_mirrored_7 : decode bc_S_mirrored 7 = .ok (.if_icmp .ge 22, 3) := by decide +kernel
theorem dc_S_mirrored_10 : decode bc_S_mirrored 10 = .ok (.iload_n 1, 1) := by decide +kernel
theorem dc_S_mirrored_11 : decode bc_S_mirrored 11 = .ok (.iload_n 0, 1) := by decide +kernel
theorem dc_S_mirrored_12 : decode bc_S_mirrored 12 = .ok (.iload_n 2, 1) := by decide +kernel
theorem dc_S_mirrored_13 : decode bc_S_mirrored 13 = .ok (.ishr, 1) := by decide +kernel
theorem dc_S_mirrored_14 : decode bc_S_mirrored 14 = .ok (.iconst 1, 1) := by decide +kernel
theorem dc_S_mirrored_15 : decode bc_S_mirrored 15 = .ok (.iand, 1) := by decide +kernel
theorem dc_S_mirrored_16 : decode bc_S_mirrored 16 = .ok (.iload_n 2, 1) := by decide +kernel
theorem dc_S_mirrored_17 : decode bc_S_mirrored 17 = .ok (.invokestatic 95, 3) := by decide +kernel
theorem dc_S_mirrored_20 : decode bc_S_mirrored 20 = .ok (.ishl, 1) := by decide +kernel
theorem dc_S_mirrored_21 : decode bc_S_mirrored 21 = .ok (.ior, 1) := by decide +kernel
theorem dc_S_mirrored_22 : decode bc_S_mirrored 22 = .ok (.istore_n 1, 1) := by decide +kernel
theorem dc_S_mirrored_23 : decode bc_S_mirrored 23 = .ok (.iinc 2 1, 3) := by decide +kernel
theorem dc_S_mirrored_26 : decode bc_S_mirrored 26 = .ok (.goto (-22), 3) := by decide +kernel
theorem dc_S_mirrored_29 : decode bc_S_mirrored 29 = .ok (.iload_n 1, 1) := by decide +kernel
theorem dc_S_mirrored_30 : decode bc_S_mirrored 30 = .ok (.ireturn, 1) := by decide +kernel
theorem dc_S_bitOf_0 : decode bc_S_bitOf 0 = .ok (.bipush 11, 2) := by decide +kernel
theorem dc_S_bitOf_2 : decode bc_S_bitOf 2 = .ok (.iload_n 0, 1) := by decide +kernel
theorem dc_S_bitOf_3 : decode bc_S_bitOf 3 = .ok (.isub, 1) := by decide +kernel
theorem dc_S_bitOf_4 : decode bc_S_bitOf 4 = .ok (.ireturn, 1) := by decide +kernel
theorem dc_S_take_0 : decode bc_S_take 0 = .ok (.iload_n 1, 1) := by decide +kernel
theorem dc_S_take_1 : decode bc_S_take 1 = .ok (.invokestatic 48, 3) := by decide +kernel
theorem dc_S_take_4 : decode bc_S_take 4 = .ok (.iload_n 2, 1) := by decide +kernel
theorem dc_S_take_5 : decode bc_S_take 5 = .ok (.invokestatic 52, 3) := by decide +kernel
theorem dc_S_take_8 : decode bc_S_take 8 = .ok (.iload_n 2, 1) := by decide +kernel
theorem dc_S_take_9 : decode bc_S_take 9 = .ok (.invokestatic 55, 3) := by decide +kernel
theorem dc_S_take_12 : decode bc_S_take 12 = .ok (.istore_n 3, 1) := by decide +kernel
theorem dc_S_take_13 : decode bc_S_take 13 = .ok (.aload_n 0, 1) := by decide +kernel
theorem dc_S_take_14 : decode bc_S_take 14 = .ok (.getfield 11, 3) := by decide +kernel
theorem dc_S_take_17 : decode bc_S_take 17 = .ok (.iload_n 1, 1) := by decide +kernel
theorem dc_S_take_18 : decode bc_S_take 18 = .ok (.aaload, 1) := by decide +kernel
theorem dc_S_take_19 : decode bc_S_take 19 = .ok (.iload_n 3, 1) := by decide +kernel
theorem dc_S_take_20 : decode bc_S_take 20 = .ok (.invokevirtual 59, 3) := by decide +kernel
theorem dc_S_take_23 : decode bc_S_take 23 = .ok (.istore 4, 2) := by decide +kernel
theorem dc_S_take_25 : decode bc_S_take 25 = .ok (.aload_n 0, 1) := by decide +kernel
theorem dc_S_take_26 : decode bc_S_take 26 = .ok (.getfield 11, 3) := by decide +kernel
theorem dc_S_take_29 : decode bc_S_take 29 = .ok (.iload_n 1, 1) := by decide +kernel
theorem dc_S_take_30 : decode bc_S_take 30 = .ok (.aaload, 1) := by decide +kernel
theorem dc_S_take_31 : decode bc_S_take 31 = .ok (.iload_n 3, 1) := by decide +kernel
theorem dc_S_take_32 : decode bc_S_take 32 = .ok (.invokevirtual 66, 3) := by decide +kernel
theorem dc_S_take_35 : decode bc_S_take 35 = .ok (.iload 4, 2) := by decide +kernel
theorem dc_S_take_37 : decode bc_S_take 37 = .ok (.ireturn, 1) := by decide +kernel
theorem dc_S_clear_0 : decode bc_S_clear 0 = .ok (.iload_n 1, 1) := by decide +kernel
theorem dc_S_clear_1 : decode bc_S_clear 1 = .ok (.invokestatic 48, 3) := by decide +kernel
theorem dc_S_clear_4 : decode bc_S_clear 4 = .ok (.aload_n 0, 1) := by decide +kernel
theorem dc_S_clear_5 : decode bc_S_clear 5 = .ok (.getfield 11, 3) := by decide +kernel
theorem dc_S_clear_8 : decode bc_S_clear 8 = .ok (.iload_n 1, 1) := by decide +kernel
theorem dc_S_clear_9 : decode bc_S_clear 9 = .ok (.aaload, 1) := by decide +kernel
theorem dc_S_clear_10 : decode bc_S_clear 10 = .ok (.invokevirtual 69, 3) := by decide +kernel
theorem dc_S_clear_13 : decode bc_S_clear 13 = .ok (.istore_n 2, 1) := by decide +kernel
theorem dc_S_clear_14 : decode bc_S_clear 14 = .ok (.aload_n 0, 1) := by decide +kernel
theorem dc_S_clear_15 : decode bc_S_clear 15 = .ok (.getfield 11, 3) := by decide +kernel
theorem dc_S_clear_18 : decode bc_S_clear 18 = .ok (.iload_n 1, 1) := by decide +kernel
theorem dc_S_clear_19 : decode bc_S_clear 19 = .ok (.aaload, 1) := by decide +kernel
theorem dc_S_clear_20 : decode bc_S_clear 20 = .ok (.lconst 0, 1) := by decide +kernel
theorem dc_S_clear_21 : decode bc_S_clear 21 = .ok (.invokevirtual 73, 3) := by decide +kernel
theorem dc_S_clear_24 : decode bc_S_clear 24 = .ok (.iload_n 2, 1) := by decide +kernel
theorem dc_S_clear_25 : decode bc_S_clear 25 = .ok (.ireturn, 1) := by decide +kernel
theorem dc_S_combine_0 : decode bc_S_combine 0 = .ok (.iload_n 1, 1) := by decide +kernel
theorem dc_S_combine_1 : decode bc_S_combine 1 = .ok (.invokestatic 48, 3) := by decide +kernel
theorem dc_S_combine_4 : decode bc_S_combine 4 = .ok (.iload_n 3, 1) := by decide +kernel
theorem dc_S_combine_5 : decode bc_S_combine 5 = .ok (.invokestatic 48, 3) := by decide +kernel
theorem dc_S_combine_8 : decode bc_S_combine 8 = .ok (.iload 4, 2) := by decide +kernel
theorem dc_S_combine_10 : decode bc_S_combine 10 = .ok (.invokestatic 48, 3) := by decide +kernel
theorem dc_S_combine_13 : decode bc_S_combine 13 = .ok (.iload_n 2, 1) := by decide +kernel
theorem dc_S_combine_14 : decode bc_S_combine 14 = .ok (.iconst 0, 1) := by decide +kernel
theorem dc_S_combine_15 : decode bc_S_combine 15 = .ok (.bipush 8, 2) := by decide +kernel
theorem dc_S_combine_17 : decode bc_S_combine 17 = .ok (.invokestatic 77, 3) := by decide +kernel
theorem dc_S_combine_20 : decode bc_S_combine 20 = .ok (.iload_n 2, 1) := by decide +kernel
theorem dc_S_combine_21 : decode bc_S_combine 21 = .ok (.bipush 7, 2) := by decide +kernel
theorem dc_S_combine_23 : decode bc_S_combine 23 = .ok (.if_icmp .eq 9, 3) := by decide +kernel
theorem dc_S_combine_26 : decode bc_S_combine 26 = .ok (.iload_n 2, 1) := by decide +kernel
theorem dc_S_combine_27 : decode bc_S_combine 27 = .ok (.bipush 8, 2) := by decide +kernel
theorem dc_S_combine_29 : decode bc_S_combine 29 = .ok (.if_icmp .ne 13, 3) := by decide +kernel
theorem dc_S_combine_32 : decode bc_S_combine 32 = .ok (.aload_n 0, 1) := by decide +kernel
theorem dc_S_combine_33 : decode bc_S_combine 33 = .ok (.getfield 11, 3) := by decide +kernel
theorem dc_S_combine_36 : decode bc_S_combine 36 = .ok (.iload 4, 2) := by decide +kernel
theorem dc_S_combine_38 : decode bc_S_combine 38 = .ok (.aaload, 1) := by decide +kernel
theorem dc_S_combine_39 : decode bc_S_combine 39 = .ok (.invokestatic 81, 3) := by decide +kernel
theorem dc_S_combine_42 : decode bc_S_combine 42 = .ok (.aload_n 0, 1) := by decide +kernel
theorem dc_S_combine_43 : decode bc_S_combine 43 = .ok (.getfield 18, 3) := by decide +kernel
theorem dc_S_combine_46 : decode bc_S_combine 46 = .ok (.aload_n 0, 1) := by decide +kernel
theorem dc_S_combine_47 : decode bc_S_combine 47 = .ok (.getfield 44, 3) := by decide +kernel
theorem dc_S_combine_50 : decode bc_S_combine 50 = .ok (.iload_n 2, 1) := by decide +kernel
theorem dc_S_combine_51 : decode bc_S_combine 51 = .ok (.aload_n 0, 1) := by decide +kernel
theorem dc_S_combine_52 : decode bc_S_combine 52 = .ok (.getfield 11, 3) := by decide +kernel
theorem dc_S_combine_55 : decode bc_S_combine 55 = .ok (.iload_n 3, 1) := by decide +kernel
theorem dc_S_combine_56 : decode bc_S_combine 56 = .ok (.aaload, 1) := by decide +kernel
theorem dc_S_combine_57 : decode bc_S_combine 57 = .ok (.aload_n 0, 1) := by decide +kernel
theorem dc_S_combine_58 : decode bc_S_combine 58 = .ok (.getfield 11, 3) := by decide +kernel
theorem dc_S_combine_61 : decode bc_S_combine 61 = .ok (.iload 4, 2) := by decide +kernel
theorem dc_S_combine_63 : decode bc_S_combine 63 = .ok (.aaload, 1) := by decide +kernel
theorem dc_S_combine_64 : decode bc_S_combine 64 = .ok (.invokevirtual 85, 3) := by decide +kernel
theorem dc_S_combine_67 : decode bc_S_combine 67 = .ok (.aload_n 0, 1) := by decide +kernel
theorem dc_S_combine_68 : decode bc_S_combine 68 = .ok (.iload_n 1, 1) := by decide +kernel
theorem dc_S_combine_69 : decode bc_S_combine 69 = .ok (.invokevirtual 89, 3) := by decide +kernel
theorem dc_S_combine_72 : decode bc_S_combine 72 = .ok (.ireturn, 1) := by decide +kernel
theorem dc_S_checkDivisor_0 : decode bc_S_checkDivisor 0 = .ok (.aload_n 0, 1) := by decide +kernel
theorem dc_S_checkDivisor_1 : decode bc_S_checkDivisor 1 = .ok (.invokevirtual 69, 3) := by decide +kernel
theorem dc_S_checkDivisor_4 : decode bc_S_checkDivisor 4 = .ok (.ifCond .ne 13, 3) := by decide +kernel
theorem dc_S_checkDivisor_7 : decode bc_S_checkDivisor 7 = .ok (.new 166, 3) := by decide +kernel
theorem dc_S_checkDivisor_10 : decode bc_S_checkDivisor 10 = .ok (.dup, 1) := by decide +kernel
theorem dc_S_checkDivisor_11 : decode bc_S_checkDivisor 11 = .ok (.ldc 168, 2) := by decide +kernel
theorem dc_S_checkDivisor_13 : decode bc_S_checkDivisor 13 = .ok (.invokespecial 170, 3) := by decide +kernel
theorem dc_S_checkDivisor_16 : decode bc_S_checkDivisor 16 = .ok (.athrow, 1) := by decide +kernel
theorem dc_S_checkDivisor_17 : decode bc_S_checkDivisor 17 = .ok (.return_, 1) := by decide +kernel
theorem dc_S_shelveFresh_0 : decode bc_S_shelveFresh 0 = .ok (.aload_n 0, 1) := by decide +kernel
theorem dc_S_shelveFresh_1 : decode bc_S_shelveFresh 1 = .ok (.getfield 11, 3) := by decide +kernel
theorem dc_S_shelveFresh_4 : decode bc_S_shelveFresh 4 = .ok (.iload_n 1, 1) := by decide +kernel
theorem dc_S_shelveFresh_5 : decode bc_S_shelveFresh 5 = .ok (.aaload, 1) := by decide +kernel
theorem dc_S_shelveFresh_6 : decode bc_S_shelveFresh 6 = .ok (.astore_n 2, 1) := by decide +kernel
theorem dc_S_shelveFresh_7 : decode bc_S_shelveFresh 7 = .ok (.aload_n 0, 1) := by decide +kernel
theorem dc_S_shelveFresh_8 : decode bc_S_shelveFresh 8 = .ok (.getfield 11, 3) := by decide +kernel
theorem dc_S_shelveFresh_11 : decode bc_S_shelveFresh 11 = .ok (.iload_n 1, 1) := by decide +kernel
theorem dc_S_shelveFresh_12 : decode bc_S_shelveFresh 12 = .ok (.aload_n 0, 1) := by decide +kernel
theorem dc_S_shelveFresh_13 : decode bc_S_shelveFresh 13 = .ok (.getfield 44, 3) := by decide +kernel
theorem dc_S_shelveFresh_16 : decode bc_S_shelveFresh 16 = .ok (.aastore, 1) := by decide +kernel
theorem dc_S_shelveFresh_17 : decode bc_S_shelveFresh 17 = .ok (.aload_n 0, 1) := by decide +kernel
theorem dc_S_shelveFresh_18 : decode bc_S_shelveFresh 18 = .ok (.aload_n 2, 1) := by decide +kernel
theorem dc_S_shelveFresh_19 : decode bc_S_shelveFresh 19 = .ok (.putfield 44, 3) := by decide +kernel
theorem dc_S_shelveFresh_22 : decode bc_S_shelveFresh 22 = .ok (.aload_n 0, 1) := by decide +kernel
theorem dc_S_shelveFresh_23 : decode bc_S_shelveFresh 23 = .ok (.getfield 11, 3) := by decide +kernel
theorem dc_S_shelveFresh_26 : decode bc_S_shelveFresh 26 = .ok (.iload_n 1, 1) := by decide +kernel
theorem dc_S_shelveFresh_27 : decode bc_S_shelveFresh 27 = .ok (.aaload, 1) := by decide +kernel
theorem dc_S_shelveFresh_28 : decode bc_S_shelveFresh 28 = .ok (.invokevirtual 69, 3) := by decide +kernel
theorem dc_S_shelveFresh_31 : decode bc_S_shelveFresh 31 = .ok (.ireturn, 1) := by decide +kernel
theorem dc_S_change_0 : decode bc_S_change 0 = .ok (.iload_n 1, 1) := by decide +kernel
theorem dc_S_change_1 : decode bc_S_change 1 = .ok (.invokestatic 48, 3) := by decide +kernel
theorem dc_S_change_4 : decode bc_S_change 4 = .ok (.iload_n 3, 1) := by decide +kernel
theorem dc_S_change_5 : decode bc_S_change 5 = .ok (.invokestatic 48, 3) := by decide +kernel
theorem dc_S_change_8 : decode bc_S_change 8 = .ok (.iload 4, 2) := by decide +kernel
theorem dc_S_change_10 : decode bc_S_change 10 = .ok (.invokestatic 92, 3) := by decide +kernel
theorem dc_S_change_13 : decode bc_S_change 13 = .ok (.iload_n 2, 1) := by decide +kernel
theorem dc_S_change_14 : decode bc_S_change 14 = .ok (.iconst 0, 1) := by decide +kernel
theorem dc_S_change_15 : decode bc_S_change 15 = .ok (.iconst 2, 1) := by decide +kernel
theorem dc_S_change_16 : decode bc_S_change 16 = .ok (.invokestatic 77, 3) := by decide +kernel
theorem dc_S_change_19 : decode bc_S_change 19 = .ok (.aload_n 0, 1) := by decide +kernel
theorem dc_S_change_20 : decode bc_S_change 20 = .ok (.getfield 18, 3) := by decide +kernel
theorem dc_S_change_23 : decode bc_S_change 23 = .ok (.aload_n 0, 1) := by decide +kernel
theorem dc_S_change_24 : decode bc_S_change 24 = .ok (.getfield 44, 3) := by decide +kernel
theorem dc_S_change_27 : decode bc_S_change 27 = .ok (.iload_n 2, 1) := by decide +kernel
theorem dc_S_change_28 : decode bc_S_change 28 = .ok (.aload_n 0, 1) := by decide +kernel
theorem dc_S_change_29 : decode bc_S_change 29 = .ok (.getfield 11, 3) := by decide +kernel
theorem dc_S_change_32 : decode bc_S_change 32 = .ok (.iload_n 3, 1) := by decide +kernel
theorem dc_S_change_33 : decode bc_S_change 33 = .ok (.aaload, 1) := by decide +kernel
theorem dc_S_change_34 : decode bc_S_change 34 = .ok (.iload 4, 2) := by decide +kernel
theorem dc_S_change_36 : decode bc_S_change 36 = .ok (.invokestatic 95, 3) := by decide +kernel
theorem dc_S_change_39 : decode bc_S_change 39 = .ok (.invokevirtual 98, 3) := by decide +kernel
theorem dc_S_change_42 : decode bc_S_change 42 = .ok (.aload_n 0, 1) := by decide +kernel
theorem dc_S_change_43 : decode bc_S_change 43 = .ok (.iload_n 1, 1) := by decide +kernel
theorem dc_S_change_44 : decode bc_S_change 44 = .ok (.invokevirtual 89, 3) := by decide +kernel
theorem dc_S_change_47 : decode bc_S_change 47 = .ok (.ireturn, 1) := by decide +kernel
theorem dc_S_checkElement_0 : decode bc_S_checkElement 0 = .ok (.iload_n 0, 1) := by decide +kernel
theorem dc_S_checkElement_1 : decode bc_S_checkElement 1 = .ok (.ifCond .lt 9, 3) := by decide +kernel
theorem dc_S_checkElement_4 : decode bc_S_checkElement 4 = .ok (.iload_n 0, 1) := by decide +kernel
theorem dc_S_checkElement_5 : decode bc_S_checkElement 5 = .ok (.bipush 12, 2) := by decide +kernel
theorem dc_S_checkElement_7 : decode bc_S_checkElement 7 = .ok (.if_icmp .lt 13, 3) := by decide +kernel
theorem dc_S_checkElement_10 : decode bc_S_checkElement 10 = .ok (.new 148, 3) := by decide +kernel
theorem dc_S_checkElement_13 : decode bc_S_checkElement 13 = .ok (.dup, 1) := by decide +kernel
theorem dc_S_checkElement_14 : decode bc_S_checkElement 14 = .ok (.ldc 155, 2) := by decide +kernel
theorem dc_S_checkElement_16 : decode bc_S_checkElement 16 = .ok (.invokespecial 152, 3) := by decide +kernel
theorem dc_S_checkElement_19 : decode bc_S_checkElement 19 = .ok (.athrow, 1) := by decide +kernel
theorem dc_S_checkElement_20 : decode bc_S_checkElement 20 = .ok (.return_, 1) := by decide +kernel
theorem dc_S_extreme_0 : decode bc_S_extreme 0 = .ok (.iload_n 1, 1) := by decide +kernel
theorem dc_S_extreme_1 : decode bc_S_extreme 1 = .ok (.invokestatic 48, 3) := by decide +kernel
theorem dc_S_extreme_4 : decode bc_S_extreme 4 = .ok (.iload_n 2, 1) := by decide +kernel
theorem dc_S_extreme_5 : decode bc_S_extreme 5 = .ok (.invokestatic 48, 3) := by decide +kernel
theorem dc_S_extreme_8 : decode bc_S_extreme 8 = .ok (.aload_n 0, 1) := by decide +kernel
theorem dc_S_extreme_9 : decode bc_S_extreme 9 = .ok (.getfield 18, 3) := by decide +kernel
theorem dc_S_extreme_12 : decode bc_S_extreme 12 = .ok (.aload_n 0, 1) := by decide +kernel
theorem dc_S_extreme_13 : decode bc_S_extreme 13 = .ok (.getfield 44, 3) := by decide +kernel
theorem dc_S_extreme_16 : decode bc_S_extreme 16 = .ok (.aload_n 0, 1) := by decide +kernel
theorem dc_S_extreme_17 : decode bc_S_extreme 17 = .ok (.getfield 11, 3) := by decide +kernel
theorem dc_S_extreme_20 : decode bc_S_extreme 20 = .ok (.iload_n 2, 1) := by decide +kernel
theorem dc_S_extreme_21 : decode bc_S_extreme 21 = .ok (.aaload, 1) := by decide +kernel
theorem dc_S_extreme_22 : decode bc_S_extreme 22 = .ok (.iload_n 3, 1) := by decide +kernel
theorem dc_S_extreme_23 : decode bc_S_extreme 23 = .ok (.invokevirtual 102, 3) := by decide +kernel
theorem dc_S_extreme_26 : decode bc_S_extreme 26 = .ok (.aload_n 0, 1) := by decide +kernel
theorem dc_S_extreme_27 : decode bc_S_extreme 27 = .ok (.iload_n 1, 1) := by decide +kernel
theorem dc_S_extreme_28 : decode bc_S_extreme 28 = .ok (.invokevirtual 89, 3) := by decide +kernel
theorem dc_S_extreme_31 : decode bc_S_extreme 31 = .ok (.ireturn, 1) := by decide +kernel
theorem dc_S_sized_0 : decode bc_S_sized 0 = .ok (.iload_n 1, 1) := by decide +kernel
theorem dc_S_sized_1 : decode bc_S_sized 1 = .ok (.invokestatic 48, 3) := by decide +kernel
theorem dc_S_sized_4 : decode bc_S_sized 4 = .ok (.iload_n 2, 1) := by decide +kernel
theorem dc_S_sized_5 : decode bc_S_sized 5 = .ok (.invokestatic 48, 3) := by decide +kernel
theorem dc_S_sized_8 : decode bc_S_sized 8 = .ok (.iload_n 3, 1) := by decide +kernel
theorem dc_S_sized_9 : decode bc_S_sized 9 = .ok (.iconst 0, 1) := by decide +kernel
theorem dc_S_sized_10 : decode bc_S_sized 10 = .ok (.bipush 12, 2) := by decide +kernel
theorem dc_S_sized_12 : decode bc_S_sized 12 = .ok (.invokestatic 77, 3) := by decide +kernel
theorem dc_S_sized_15 : decode bc_S_sized 15 = .ok (.aload_n 0, 1) := by decide +kernel
theorem dc_S_sized_16 : decode bc_S_sized 16 = .ok (.getfield 18, 3) := by decide +kernel
theorem dc_S_sized_19 : decode bc_S_sized 19 = .ok (.aload_n 0, 1) := by decide +kernel
theorem dc_S_sized_20 : decode bc_S_sized 20 = .ok (.getfield 44, 3) := by decide +kernel
theorem dc_S_sized_23 : decode bc_S_sized 23 = .ok (.aload_n 0, 1) := by decide +kernel
theorem dc_S_sized_24 : decode bc_S_sized 24 = .ok (.getfield 11, 3) := by decide +kernel
theorem dc_S_sized_27 : decode bc_S_sized 27 = .ok (.iload_n 2, 1) := by decide +kernel
theorem dc_S_sized_28 : decode bc_S_sized 28 = .ok (.aaload, 1) := by decide +kernel
theorem dc_S_sized_29 : decode bc_S_sized 29 = .ok (.iload_n 3, 1) := by decide +kernel
theorem dc_S_sized_30 : decode bc_S_sized 30 = .ok (.invokevirtual 106, 3) := by decide +kernel
theorem dc_S_sized_33 : decode bc_S_sized 33 = .ok (.aload_n 0, 1) := by decide +kernel
theorem dc_S_sized_34 : decode bc_S_sized 34 = .ok (.iload_n 1, 1) := by decide +kernel
theorem dc_S_sized_35 : decode bc_S_sized 35 = .ok (.invokevirtual 89, 3) := by decide +kernel
theorem dc_S_sized_38 : decode bc_S_sized 38 = .ok (.ireturn, 1) := by decide +kernel
theorem dc_S_edge_0 : decode bc_S_edge 0 = .ok (.iload_n 1, 1) := by decide +kernel
theorem dc_S_edge_1 : decode bc_S_edge 1 = .ok (.invokestatic 92, 3) := by decide +kernel
theorem dc_S_edge_4 : decode bc_S_edge 4 = .ok (.iload_n 2, 1) := by decide +kernel
theorem dc_S_edge_5 : decode bc_S_edge 5 = .ok (.invokestatic 110, 3) := by decide +kernel
theorem dc_S_edge_8 : decode bc_S_edge 8 = .ok (.iload_n 3, 1) := by decide +kernel
theorem dc_S_edge_9 : decode bc_S_edge 9 = .ok (.invokestatic 110, 3) := by decide +kernel
theorem dc_S_edge_12 : decode bc_S_edge 12 = .ok (.iload_n 2, 1) := by decide +kernel
theorem dc_S_edge_13 : decode bc_S_edge 13 = .ok (.iload_n 3, 1) := by decide +kernel
theorem dc_S_edge_14 : decode bc_S_edge 14 = .ok (.invokestatic 113, 3) := by decide +kernel
theorem dc_S_edge_17 : decode bc_S_edge 17 = .ok (.aload_n 0, 1) := by decide +kernel
theorem dc_S_edge_18 : decode bc_S_edge 18 = .ok (.getfield 25, 3) := by decide +kernel
theorem dc_S_edge_21 : decode bc_S_edge 21 = .ok (.iload_n 1, 1) := by decide +kernel
theorem dc_S_edge_22 : decode bc_S_edge 22 = .ok (.iconst 1, 1) := by decide +kernel
theorem dc_S_edge_23 : decode bc_S_edge 23 = .ok (.iload_n 2, 1) := by decide +kernel
theorem dc_S_edge_24 : decode bc_S_edge 24 = .ok (.ishl, 1) := by decide +kernel
theorem dc_S_edge_25 : decode bc_S_edge 25 = .ok (.iconst 1, 1) := by decide +kernel
theorem dc_S_edge_26 : decode bc_S_edge 26 = .ok (.iload_n 3, 1) := by decide +kernel
theorem dc_S_edge_27 : decode bc_S_edge 27 = .ok (.ishl, 1) := by decide +kernel
theorem dc_S_edge_28 : decode bc_S_edge 28 = .ok (.ior, 1) := by decide +kernel
theorem dc_S_edge_29 : decode bc_S_edge 29 = .ok (.invokevirtual 117, 3) := by decide +kernel
theorem dc_S_edge_32 : decode bc_S_edge 32 = .ok (.pop, 1) := by decide +kernel
theorem dc_S_edge_33 : decode bc_S_edge 33 = .ok (.return_, 1) := by decide +kernel
theorem dc_S_checkVertex_0 : decode bc_S_checkVertex 0 = .ok (.iload_n 0, 1) := by decide +kernel
theorem dc_S_checkVertex_1 : decode bc_S_checkVertex 1 = .ok (.ifCond .lt 9, 3) := by decide +kernel
theorem dc_S_checkVertex_4 : decode bc_S_checkVertex 4 = .ok (.iload_n 0, 1) := by decide +kernel
theorem dc_S_checkVertex_5 : decode bc_S_checkVertex 5 = .ok (.bipush 7, 2) := by decide +kernel
theorem dc_S_checkVertex_7 : decode bc_S_checkVertex 7 = .ok (.if_icmp .lt 13, 3) := by decide +kernel
theorem dc_S_checkVertex_10 : decode bc_S_checkVertex 10 = .ok (.new 148, 3) := by decide +kernel
theorem dc_S_checkVertex_13 : decode bc_S_checkVertex 13 = .ok (.dup, 1) := by decide +kernel
theorem dc_S_checkVertex_14 : decode bc_S_checkVertex 14 = .ok (.ldc 157, 2) := by decide +kernel
theorem dc_S_checkVertex_16 : decode bc_S_checkVertex 16 = .ok (.invokespecial 152, 3) := by decide +kernel
theorem dc_S_checkVertex_19 : decode bc_S_checkVertex 19 = .ok (.athrow, 1) := by decide +kernel
theorem dc_S_checkVertex_20 : decode bc_S_checkVertex 20 = .ok (.return_, 1) := by decide +kernel
theorem dc_S_checkDifferent_0 : decode bc_S_checkDifferent 0 = .ok (.iload_n 0, 1) := by decide +kernel
theorem dc_S_checkDifferent_1 : decode bc_S_checkDifferent 1 = .ok (.iload_n 1, 1) := by decide +kernel
theorem dc_S_checkDifferent_2 : decode bc_S_checkDifferent 2 = .ok (.if_icmp .ne 13, 3) := by decide +kernel
theorem dc_S_checkDifferent_5 : decode bc_S_checkDifferent 5 = .ok (.new 159, 3) := by decide +kernel
theorem dc_S_checkDifferent_8 : decode bc_S_checkDifferent 8 = .ok (.dup, 1) := by decide +kernel
theorem dc_S_checkDifferent_9 : decode bc_S_checkDifferent 9 = .ok (.ldc 164, 2) := by decide +kernel
theorem dc_S_checkDifferent_11 : decode bc_S_checkDifferent 11 = .ok (.invokespecial 163, 3) := by decide +kernel
theorem dc_S_checkDifferent_14 : decode bc_S_checkDifferent 14 = .ok (.athrow, 1) := by decide +kernel
theorem dc_S_checkDifferent_15 : decode bc_S_checkDifferent 15 = .ok (.return_, 1) := by decide +kernel
theorem dc_S_cut_0 : decode bc_S_cut 0 = .ok (.iload_n 1, 1) := by decide +kernel
theorem dc_S_cut_1 : decode bc_S_cut 1 = .ok (.invokestatic 92, 3) := by decide +kernel
theorem dc_S_cut_4 : decode bc_S_cut 4 = .ok (.aload_n 0, 1) := by decide +kernel
theorem dc_S_cut_5 : decode bc_S_cut 5 = .ok (.getfield 25, 3) := by decide +kernel
theorem dc_S_cut_8 : decode bc_S_cut 8 = .ok (.iload_n 1, 1) := by decide +kernel
theorem dc_S_cut_9 : decode bc_S_cut 9 = .ok (.iconst 0, 1) := by decide +kernel
theorem dc_S_cut_10 : decode bc_S_cut 10 = .ok (.invokevirtual 117, 3) := by decide +kernel
theorem dc_S_cut_13 : decode bc_S_cut 13 = .ok (.ifCond .eq 7, 3) := by decide +kernel
theorem dc_S_cut_16 : decode bc_S_cut 16 = .ok (.iconst 1, 1) := by decide +kernel
theorem dc_S_cut_17 : decode bc_S_cut 17 = .ok (.goto 4, 3) := by decide +kernel
theorem dc_S_cut_20 : decode bc_S_cut 20 = .ok (.iconst 0, 1) := by decide +kernel
theorem dc_S_cut_21 : decode bc_S_cut 21 = .ok (.ireturn, 1) := by decide +kernel
theorem dc_S_paths_0 : decode bc_S_paths 0 = .ok (.iload_n 1, 1) := by decide +kernel
theorem dc_S_paths_1 : decode bc_S_paths 1 = .ok (.invokestatic 48, 3) := by decide +kernel
theorem dc_S_paths_4 : decode bc_S_paths 4 = .ok (.iload_n 2, 1) := by decide +kernel
theorem dc_S_paths_5 : decode bc_S_paths 5 = .ok (.invokestatic 110, 3) := by decide +kernel
theorem dc_S_paths_8 : decode bc_S_paths 8 = .ok (.iload_n 3, 1) := by decide +kernel
theorem dc_S_paths_9 : decode bc_S_paths 9 = .ok (.invokestatic 110, 3) := by decide +kernel
theorem dc_S_paths_12 : decode bc_S_paths 12 = .ok (.aload_n 0, 1) := by decide +kernel
theorem dc_S_paths_13 : decode bc_S_paths 13 = .ok (.getfield 25, 3) := by decide +kernel
theorem dc_S_paths_16 : decode bc_S_paths 16 = .ok (.aload_n 0, 1) := by decide +kernel
theorem dc_S_paths_17 : decode bc_S_paths 17 = .ok (.getfield 44, 3) := by decide +kernel
theorem dc_S_paths_20 : decode bc_S_paths 20 = .ok (.iload_n 2, 1) := by decide +kernel
theorem dc_S_paths_21 : decode bc_S_paths 21 = .ok (.iload_n 3, 1) := by decide +kernel
theorem dc_S_paths_22 : decode bc_S_paths 22 = .ok (.invokevirtual 121, 3) := by decide +kernel
theorem dc_S_paths_25 : decode bc_S_paths 25 = .ok (.aload_n 0, 1) := by decide +kernel
theorem dc_S_paths_26 : decode bc_S_paths 26 = .ok (.iload_n 1, 1) := by decide +kernel
theorem dc_S_paths_27 : decode bc_S_paths 27 = .ok (.invokevirtual 89, 3) := by decide +kernel
theorem dc_S_paths_30 : decode bc_S_paths 30 = .ok (.ireturn, 1) := by decide +kernel
theorem dc_S_matchings_0 : decode bc_S_matchings 0 = .ok (.iload_n 1, 1) := by decide +kernel
theorem dc_S_matchings_1 : decode bc_S_matchings 1 = .ok (.invokestatic 48, 3) := by decide +kernel
theorem dc_S_matchings_4 : decode bc_S_matchings 4 = .ok (.aload_n 0, 1) := by decide +kernel
theorem dc_S_matchings_5 : decode bc_S_matchings 5 = .ok (.getfield 25, 3) := by decide +kernel
theorem dc_S_matchings_8 : decode bc_S_matchings 8 = .ok (.aload_n 0, 1) := by decide +kernel
theorem dc_S_matchings_9 : decode bc_S_matchings 9 = .ok (.getfield 44, 3) := by decide +kernel
theorem dc_S_matchings_12 : decode bc_S_matchings 12 = .ok (.invokevirtual 125, 3) := by decide +kernel
theorem dc_S_matchings_15 : decode bc_S_matchings 15 = .ok (.aload_n 0, 1) := by decide +kernel
theorem dc_S_matchings_16 : decode bc_S_matchings 16 = .ok (.iload_n 1, 1) := by decide +kernel
theorem dc_S_matchings_17 : decode bc_S_matchings 17 = .ok (.invokevirtual 89, 3) := by decide +kernel
theorem dc_S_matchings_20 : decode bc_S_matchings 20 = .ok (.ireturn, 1) := by decide +kernel
theorem dc_S_weight_0 : decode bc_S_weight 0 = .ok (.iload_n 1, 1) := by decide +kernel
theorem dc_S_weight_1 : decode bc_S_weight 1 = .ok (.invokestatic 92, 3) := by decide +kernel
theorem dc_S_weight_4 : decode bc_S_weight 4 = .ok (.iload_n 2, 1) := by decide +kernel
theorem dc_S_weight_5 : decode bc_S_weight 5 = .ok (.bipush (-99), 2) := by decide +kernel
theorem dc_S_weight_7 : decode bc_S_weight 7 = .ok (.bipush 99, 2) := by decide +kernel
theorem dc_S_weight_9 : decode bc_S_weight 9 = .ok (.invokestatic 77, 3) := by decide +kernel
theorem dc_S_weight_12 : decode bc_S_weight 12 = .ok (.aload_n 0, 1) := by decide +kernel
theorem dc_S_weight_13 : decode bc_S_weight 13 = .ok (.getfield 32, 3) := by decide +kernel
theorem dc_S_weight_16 : decode bc_S_weight 16 = .ok (.iload_n 1, 1) := by decide +kernel
theorem dc_S_weight_17 : decode bc_S_weight 17 = .ok (.iload_n 2, 1) := by decide +kernel
theorem dc_S_weight_18 : decode bc_S_weight 18 = .ok (.invokevirtual 128, 3) := by decide +kernel
theorem dc_S_weight_21 : decode bc_S_weight 21 = .ok (.ireturn, 1) := by decide +kernel
theorem dc_S_count_0 : decode bc_S_count 0 = .ok (.iload_n 1, 1) := by decide +kernel
theorem dc_S_count_1 : decode bc_S_count 1 = .ok (.invokestatic 48, 3) := by decide +kernel
theorem dc_S_count_4 : decode bc_S_count 4 = .ok (.aload_n 0, 1) := by decide +kernel
theorem dc_S_count_5 : decode bc_S_count 5 = .ok (.getfield 11, 3) := by decide +kernel
theorem dc_S_count_8 : decode bc_S_count 8 = .ok (.iload_n 1, 1) := by decide +kernel
theorem dc_S_count_9 : decode bc_S_count 9 = .ok (.aaload, 1) := by decide +kernel
theorem dc_S_count_10 : decode bc_S_count 10 = .ok (.invokevirtual 69, 3) := by decide +kernel
theorem dc_S_count_13 : decode bc_S_count 13 = .ok (.ireturn, 1) := by decide +kernel
theorem dc_S_has_0 : decode bc_S_has 0 = .ok (.iload_n 1, 1) := by decide +kernel
theorem dc_S_has_1 : decode bc_S_has 1 = .ok (.invokestatic 48, 3) := by decide +kernel
theorem dc_S_has_4 : decode bc_S_has 4 = .ok (.iload_n 2, 1) := by decide +kernel
theorem dc_S_has_5 : decode bc_S_has 5 = .ok (.invokestatic 52, 3) := by decide +kernel
theorem dc_S_has_8 : decode bc_S_has 8 = .ok (.aload_n 0, 1) := by decide +kernel
theorem dc_S_has_9 : decode bc_S_has 9 = .ok (.getfield 11, 3) := by decide +kernel
theorem dc_S_has_12 : decode bc_S_has 12 = .ok (.iload_n 1, 1) := by decide +kernel
theorem dc_S_has_13 : decode bc_S_has 13 = .ok (.aaload, 1) := by decide +kernel
theorem dc_S_has_14 : decode bc_S_has 14 = .ok (.iload_n 2, 1) := by decide +kernel
theorem dc_S_has_15 : decode bc_S_has 15 = .ok (.invokestatic 55, 3) := by decide +kernel
theorem dc_S_has_18 : decode bc_S_has 18 = .ok (.invokevirtual 59, 3) := by decide +kernel
theorem dc_S_has_21 : decode bc_S_has 21 = .ok (.ireturn, 1) := by decide +kernel
theorem dc_S_nth_0 : decode bc_S_nth 0 = .ok (.iload_n 1, 1) := by decide +kernel
theorem dc_S_nth_1 : decode bc_S_nth 1 = .ok (.invokestatic 48, 3) := by decide +kernel
theorem dc_S_nth_4 : decode bc_S_nth 4 = .ok (.aload_n 0, 1) := by decide +kernel
theorem dc_S_nth_5 : decode bc_S_nth 5 = .ok (.getfield 11, 3) := by decide +kernel
theorem dc_S_nth_8 : decode bc_S_nth 8 = .ok (.iload_n 1, 1) := by decide +kernel
theorem dc_S_nth_9 : decode bc_S_nth 9 = .ok (.aaload, 1) := by decide +kernel
theorem dc_S_nth_10 : decode bc_S_nth 10 = .ok (.iload_n 2, 1) := by decide +kernel
theorem dc_S_nth_11 : decode bc_S_nth 11 = .ok (.invokevirtual 129, 3) := by decide +kernel
theorem dc_S_nth_14 : decode bc_S_nth 14 = .ok (.istore_n 3, 1) := by decide +kernel
theorem dc_S_nth_15 : decode bc_S_nth 15 = .ok (.iload_n 3, 1) := by decide +kernel
theorem dc_S_nth_16 : decode bc_S_nth 16 = .ok (.iconst (-1), 1) := by decide +kernel
theorem dc_S_nth_17 : decode bc_S_nth 17 = .ok (.if_icmp .ne 7, 3) := by decide +kernel
theorem dc_S_nth_20 : decode bc_S_nth 20 = .ok (.iconst (-1), 1) := by decide +kernel
theorem dc_S_nth_21 : decode bc_S_nth 21 = .ok (.goto 7, 3) := by decide +kernel
theorem dc_S_nth_24 : decode bc_S_nth 24 = .ok (.iload_n 3, 1) := by decide +kernel
theorem dc_S_nth_25 : decode bc_S_nth 25 = .ok (.invokestatic 55, 3) := by decide +kernel
theorem dc_S_nth_28 : decode bc_S_nth 28 = .ok (.ireturn, 1) := by decide +kernel
theorem dc_S_rank_0 : decode bc_S_rank 0 = .ok (.iload_n 1, 1) := by decide +kernel
theorem dc_S_rank_1 : decode bc_S_rank 1 = .ok (.invokestatic 48, 3) := by decide +kernel
theorem dc_S_rank_4 : decode bc_S_rank 4 = .ok (.iload_n 2, 1) := by decide +kernel
theorem dc_S_rank_5 : decode bc_S_rank 5 = .ok (.invokestatic 52, 3) := by decide +kernel
theorem dc_S_rank_8 : decode bc_S_rank 8 = .ok (.aload_n 0, 1) := by decide +kernel
theorem dc_S_rank_9 : decode bc_S_rank 9 = .ok (.getfield 11, 3) := by decide +kernel
theorem dc_S_rank_12 : decode bc_S_rank 12 = .ok (.iload_n 1, 1) := by decide +kernel
theorem dc_S_rank_13 : decode bc_S_rank 13 = .ok (.aaload, 1) := by decide +kernel
theorem dc_S_rank_14 : decode bc_S_rank 14 = .ok (.iload_n 2, 1) := by decide +kernel
theorem dc_S_rank_15 : decode bc_S_rank 15 = .ok (.invokestatic 55, 3) := by decide +kernel
theorem dc_S_rank_18 : decode bc_S_rank 18 = .ok (.invokevirtual 132, 3) := by decide +kernel
theorem dc_S_rank_21 : decode bc_S_rank 21 = .ok (.ireturn, 1) := by decide +kernel
theorem dc_S_heaviest_0 : decode bc_S_heaviest 0 = .ok (.iload_n 1, 1) := by decide +kernel
theorem dc_S_heaviest_1 : decode bc_S_heaviest 1 = .ok (.invokestatic 48, 3) := by decide +kernel
theorem dc_S_heaviest_4 : decode bc_S_heaviest 4 = .ok (.aload_n 0, 1) := by decide +kernel
theorem dc_S_heaviest_5 : decode bc_S_heaviest 5 = .ok (.getfield 32, 3) := by decide +kernel
theorem dc_S_heaviest_8 : decode bc_S_heaviest 8 = .ok (.aload_n 0, 1) := by decide +kernel
theorem dc_S_heaviest_9 : decode bc_S_heaviest 9 = .ok (.getfield 11, 3) := by decide +kernel
theorem dc_S_heaviest_12 : decode bc_S_heaviest 12 = .ok (.iload_n 1, 1) := by decide +kernel
theorem dc_S_heaviest_13 : decode bc_S_heaviest 13 = .ok (.aaload, 1) := by decide +kernel
theorem dc_S_heaviest_14 : decode bc_S_heaviest 14 = .ok (.invokevirtual 135, 3) := by decide +kernel
theorem dc_S_heaviest_17 : decode bc_S_heaviest 17 = .ok (.istore_n 2, 1) := by decide +kernel
theorem dc_S_heaviest_18 : decode bc_S_heaviest 18 = .ok (.iload_n 2, 1) := by decide +kernel
theorem dc_S_heaviest_19 : decode bc_S_heaviest 19 = .ok (.invokestatic 139, 3) := by decide +kernel
theorem dc_S_heaviest_22 : decode bc_S_heaviest 22 = .ok (.iload_n 2, 1) := by decide +kernel
theorem dc_S_heaviest_23 : decode bc_S_heaviest 23 = .ok (.invokestatic 55, 3) := by decide +kernel
theorem dc_S_heaviest_26 : decode bc_S_heaviest 26 = .ok (.ireturn, 1) := by decide +kernel
theorem dc_S_checkFound_0 : decode bc_S_checkFound 0 = .ok (.iload_n 0, 1) := by decide +kernel
theorem dc_S_checkFound_1 : decode bc_S_checkFound 1 = .ok (.iconst (-1), 1) := by decide +kernel
theorem dc_S_checkFound_2 : decode bc_S_checkFound 2 = .ok (.if_icmp .ne 13, 3) := by decide +kernel
theorem dc_S_checkFound_5 : decode bc_S_checkFound 5 = .ok (.new 171, 3) := by decide +kernel
theorem dc_S_checkFound_8 : decode bc_S_checkFound 8 = .ok (.dup, 1) := by decide +kernel
theorem dc_S_checkFound_9 : decode bc_S_checkFound 9 = .ok (.ldc 173, 2) := by decide +kernel
theorem dc_S_checkFound_11 : decode bc_S_checkFound 11 = .ok (.invokespecial 175, 3) := by decide +kernel
theorem dc_S_checkFound_14 : decode bc_S_checkFound 14 = .ok (.athrow, 1) := by decide +kernel
theorem dc_S_checkFound_15 : decode bc_S_checkFound 15 = .ok (.return_, 1) := by decide +kernel
theorem dc_S_size_0 : decode bc_S_size 0 = .ok (.iload_n 1, 1) := by decide +kernel
theorem dc_S_size_1 : decode bc_S_size 1 = .ok (.invokestatic 48, 3) := by decide +kernel
theorem dc_S_size_4 : decode bc_S_size 4 = .ok (.aload_n 0, 1) := by decide +kernel
theorem dc_S_size_5 : decode bc_S_size 5 = .ok (.getfield 39, 3) := by decide +kernel
theorem dc_S_size_8 : decode bc_S_size 8 = .ok (.aload_n 0, 1) := by decide +kernel
theorem dc_S_size_9 : decode bc_S_size 9 = .ok (.getfield 11, 3) := by decide +kernel
theorem dc_S_size_12 : decode bc_S_size 12 = .ok (.iload_n 1, 1) := by decide +kernel
theorem dc_S_size_13 : decode bc_S_size 13 = .ok (.aaload, 1) := by decide +kernel
theorem dc_S_size_14 : decode bc_S_size 14 = .ok (.invokevirtual 142, 3) := by decide +kernel
theorem dc_S_size_17 : decode bc_S_size 17 = .ok (.ireturn, 1) := by decide +kernel
theorem dc_S_parts_0 : decode bc_S_parts 0 = .ok (.iload_n 1, 1) := by decide +kernel
theorem dc_S_parts_1 : decode bc_S_parts 1 = .ok (.invokestatic 48, 3) := by decide +kernel
theorem dc_S_parts_4 : decode bc_S_parts 4 = .ok (.iconst 0, 1) := by decide +kernel
theorem dc_S_parts_5 : decode bc_S_parts 5 = .ok (.istore_n 2, 1) := by decide +kernel
theorem dc_S_parts_6 : decode bc_S_parts 6 = .ok (.iload_n 2, 1) := by decide +kernel
theorem dc_S_parts_7 : decode bc_S_parts 7 = .ok (.bipush 12, 2) := by decide +kernel
theorem dc_S_parts_9 : decode bc_S_parts 9 = .ok (.if_icmp .ge 27, 3) := by decide +kernel
theorem dc_S_parts_12 : decode bc_S_parts 12 = .ok (.aload_n 0, 1) := by decide +kernel
theorem dc_S_parts_13 : decode bc_S_parts 13 = .ok (.getfield 11, 3) := by decide +kernel
theorem dc_S_parts_16 : decode bc_S_parts 16 = .ok (.iload_n 1, 1) := by decide +kernel
theorem dc_S_parts_17 : decode bc_S_parts 17 = .ok (.aaload, 1) := by decide +kernel
theorem dc_S_parts_18 : decode bc_S_parts 18 = .ok (.iload_n 2, 1) := by decide +kernel
theorem dc_S_parts_19 : decode bc_S_parts 19 = .ok (.invokestatic 95, 3) := by decide +kernel
theorem dc_S_parts_22 : decode bc_S_parts 22 = .ok (.invokevirtual 145, 3) := by decide +kernel
theorem dc_S_parts_25 : decode bc_S_parts 25 = .ok (.ifCond .eq 5, 3) := by decide +kernel
theorem dc_S_parts_28 : decode bc_S_parts 28 = .ok (.iload_n 2, 1) := by decide +kernel
theorem dc_S_parts_29 : decode bc_S_parts 29 = .ok (.ireturn, 1) := by decide +kernel
theorem dc_S_parts_30 : decode bc_S_parts 30 = .ok (.iinc 2 1, 3) := by decide +kernel
theorem dc_S_parts_33 : decode bc_S_parts 33 = .ok (.goto (-27), 3) := by decide +kernel
theorem dc_S_parts_36 : decode bc_S_parts 36 = .ok (.iconst (-1), 1) := by decide +kernel
theorem dc_S_parts_37 : decode bc_S_parts 37 = .ok (.ireturn, 1) := by decide +kernel
