theorem dc_M_init_0 : decode bc_M_init 0 = .ok (.aload_n 0, 1) := by decide +kernel
theorem dc_M_init_1 : decode bc_M_init 1 = .ok (.invokespecial 1, 3) := by decide +kernel
theorem dc_M_init_4 : decode bc_M_init 4 = .ok (.aload_n 0, 1) := by decide +kernel
theorem dc_M_init_5 : decode bc_M_init 5 = .ok (.sipush 640, 3) := by decide +kernel
theorem dc_M_init_8 : decode bc_M_init 8 = .ok (.newarray .long, 2) := by decide +kernel
theorem dc_M_init_10 : decode bc_M_init 10 = .ok (.putfield 7, 3) := by decide +kernel
theorem dc_M_init_13 : decode bc_M_init 13 = .ok (.aload_n 0, 1) := by decide +kernel
theorem dc_M_init_14 : decode bc_M_init 14 = .ok (.bipush 64, 2) := by decide +kernel
theorem dc_M_init_16 : decode bc_M_init 16 = .ok (.newarray .long, 2) := by decide +kernel
theorem dc_M_init_18 : decode bc_M_init 18 = .ok (.putfield 13, 3) := by decide +kernel
theorem dc_M_init_21 : decode bc_M_init 21 = .ok (.aload_n 0, 1) := by decide +kernel
theorem dc_M_init_22 : decode bc_M_init 22 = .ok (.bipush 64, 2) := by decide +kernel
theorem dc_M_init_24 : decode bc_M_init 24 = .ok (.newarray .long, 2) := by decide +kernel
theorem dc_M_init_26 : decode bc_M_init 26 = .ok (.putfield 16, 3) := by decide +kernel
theorem dc_M_init_29 : decode bc_M_init 29 = .ok (.aload_n 0, 1) := by decide +kernel
theorem dc_M_init_30 : decode bc_M_init 30 = .ok (.sipush 4096, 3) := by decide +kernel
theorem dc_M_init_33 : decode bc_M_init 33 = .ok (.newarray .int, 2) := by decide +kernel
theorem dc_M_init_35 : decode bc_M_init 35 = .ok (.putfield 19, 3) := by decide +kernel
theorem dc_M_init_38 : decode bc_M_init 38 = .ok (.aload_n 0, 1) := by decide +kernel
theorem dc_M_init_39 : decode bc_M_init 39 = .ok (.sipush 4096, 3) := by decide +kernel
theorem dc_M_init_42 : decode bc_M_init 42 = .ok (.newarray .int, 2) := by decide +kernel
theorem dc_M_init_44 : decode bc_M_init 44 = .ok (.putfield 23, 3) := by decide +kernel
theorem dc_M_init_47 : decode bc_M_init 47 = .ok (.aload_n 0, 1) := by decide +kernel
theorem dc_M_init_48 : decode bc_M_init 48 = .ok (.bipush 12, 2) := by decide +kernel
theorem dc_M_init_50 : decode bc_M_init 50 = .ok (.newarray .int, 2) := by decide +kernel
theorem dc_M_init_52 : decode bc_M_init 52 = .ok (.dup, 1) := by decide +kernel
theorem dc_M_init_53 : decode bc_M_init 53 = .ok (.iconst 0, 1) := by decide +kernel
theorem dc_M_init_54 : decode bc_M_init 54 = .ok (.iconst (-1), 1) := by decide +kernel
theorem dc_M_init_55 : decode bc_M_init 55 = .ok (.iastore, 1) := by decide +kernel
theorem dc_M_init_56 : decode bc_M_init 56 = .ok (.dup, 1) := by decide +kernel
theorem dc_M_init_57 : decode bc_M_init 57 = .ok (.iconst 1, 1) := by decide +kernel
theorem dc_M_init_58 : decode bc_M_init 58 = .ok (.iconst (-1), 1) := by decide +kernel
theorem dc_M_init_59 : decode bc_M_init 59 = .ok (.iastore, 1) := by decide +kernel
theorem dc_M_init_60 : decode bc_M_init 60 = .ok (.dup, 1) := by decide +kernel
theorem dc_M_init_61 : decode bc_M_init 61 = .ok (.iconst 2, 1) := by decide +kernel
theorem dc_M_init_62 : decode bc_M_init 62 = .ok (.iconst (-1), 1) := by decide +kernel
theorem dc_M_init_63 : decode bc_M_init 63 = .ok (.iastore, 1) := by decide +kernel
theorem dc_M_init_64 : decode bc_M_init 64 = .ok (.dup, 1) := by decide +kernel
theorem dc_M_init_65 : decode bc_M_init 65 = .ok (.iconst 3, 1) := by decide +kernel
theorem dc_M_init_66 : decode bc_M_init 66 = .ok (.iconst (-1), 1) := by decide +kernel
theorem dc_M_init_67 : decode bc_M_init 67 = .ok (.iastore, 1) := by decide +kernel
theorem dc_M_init_68 : decode bc_M_init 68 = .ok (.dup, 1) := by decide +kernel
theorem dc_M_init_69 : decode bc_M_init 69 = .ok (.iconst 4, 1) := by decide +kernel
theorem dc_M_init_70 : decode bc_M_init 70 = .ok (.iconst (-1), 1) := by decide +kernel
theorem dc_M_init_71 : decode bc_M_init 71 = .ok (.iastore, 1) := by decide +kernel
theorem dc_M_init_72 : decode bc_M_init 72 = .ok (.dup, 1) := by decide +kernel
theorem dc_M_init_73 : decode bc_M_init 73 = .ok (.iconst 5, 1) := by decide +kernel
theorem dc_M_init_74 : decode bc_M_init 74 = .ok (.iconst (-1), 1) := by decide +kernel
theorem dc_M_init_75 : decode bc_M_init 75 = .ok (.iastore, 1) := by decide +kernel
theorem dc_M_init_76 : decode bc_M_init 76 = .ok (.dup, 1) := by decide +kernel
theorem dc_M_init_77 : decode bc_M_init 77 = .ok (.bipush 6, 2) := by decide +kernel
theorem dc_M_init_79 : decode bc_M_init 79 = .ok (.iconst (-1), 1) := by decide +kernel
theorem dc_M_init_80 : decode bc_M_init 80 = .ok (.iastore, 1) := by decide +kernel
theorem dc_M_init_81 : decode bc_M_init 81 = .ok (.dup, 1) := by decide +kernel
theorem dc_M_init_82 : decode bc_M_init 82 = .ok (.bipush 7, 2) := by decide +kernel
theorem dc_M_init_84 : decode bc_M_init 84 = .ok (.iconst (-1), 1) := by decide +kernel
theorem dc_M_init_85 : decode bc_M_init 85 = .ok (.iastore, 1) := by decide +kernel
theorem dc_M_init_86 : decode bc_M_init 86 = .ok (.dup, 1) := by decide +kernel
theorem dc_M_init_87 : decode bc_M_init 87 = .ok (.bipush 8, 2) := by decide +kernel
theorem dc_M_init_89 : decode bc_M_init 89 = .ok (.iconst (-1), 1) := by decide +kernel
theorem dc_M_init_90 : decode bc_M_init 90 = .ok (.iastore, 1) := by decide +kernel
theorem dc_M_init_91 : decode bc_M_init 91 = .ok (.dup, 1) := by decide +kernel
theorem dc_M_init_92 : decode bc_M_init 92 = .ok (.bipush 9, 2) := by decide +kernel
theorem dc_M_init_94 : decode bc_M_init 94 = .ok (.iconst (-1), 1) := by decide +kernel
theorem dc_M_init_95 : decode bc_M_init 95 = .ok (.iastore, 1) := by decide +kernel
theorem dc_M_init_96 : decode bc_M_init 96 = .ok (.dup, 1) := by decide +kernel
theorem dc_M_init_97 : decode bc_M_init 97 = .ok (.bipush 10, 2) := by decide +kernel
theorem dc_M_init_99 : decode bc_M_init 99 = .ok (.iconst (-1), 1) := by decide +kernel
theorem dc_M_init_100 : decode bc_M_init 100 = .ok (.iastore, 1) := by decide +kernel
theorem dc_M_init_101 : decode bc_M_init 101 = .ok (.dup, 1) := by decide +kernel
theorem dc_M_init_102 : decode bc_M_init 102 = .ok (.bipush 11, 2) := by decide +kernel
theorem dc_M_init_104 : decode bc_M_init 104 = .ok (.iconst (-1), 1) := by decide +kernel
theorem dc_M_init_105 : decode bc_M_init 105 = .ok (.iastore, 1) := by decide +kernel
theorem dc_M_init_106 : decode bc_M_init 106 = .ok (.putfield 26, 3) := by decide +kernel
theorem dc_M_init_109 : decode bc_M_init 109 = .ok (.aload_n 0, 1) := by decide +kernel
theorem dc_M_init_110 : decode bc_M_init 110 = .ok (.bipush 12, 2) := by decide +kernel
theorem dc_M_init_112 : decode bc_M_init 112 = .ok (.newarray .int, 2) := by decide +kernel
theorem dc_M_init_114 : decode bc_M_init 114 = .ok (.putfield 29, 3) := by decide +kernel
theorem dc_M_init_117 : decode bc_M_init 117 = .ok (.aload_n 0, 1) := by decide +kernel
theorem dc_M_init_118 : decode bc_M_init 118 = .ok (.bipush 12, 2) := by decide +kernel
theorem dc_M_init_120 : decode bc_M_init 120 = .ok (.newarray .int, 2) := by decide +kernel
theorem dc_M_init_122 : decode bc_M_init 122 = .ok (.putfield 32, 3) := by decide +kernel
theorem dc_M_init_125 : decode bc_M_init 125 = .ok (.return_, 1) := by decide +kernel
theorem dc_M_thrown_0 : decode bc_M_thrown 0 = .ok (.aload_n 0, 1) := by decide +kernel
theorem dc_M_thrown_1 : decode bc_M_thrown 1 = .ok (.getfield 35, 3) := by decide +kernel
theorem dc_M_thrown_4 : decode bc_M_thrown 4 = .ok (.ireturn, 1) := by decide +kernel
theorem dc_M_put_0 : decode bc_M_put 0 = .ok (.aload_n 0, 1) := by decide +kernel
theorem dc_M_put_1 : decode bc_M_put 1 = .ok (.iload_n 1, 1) := by decide +kernel
theorem dc_M_put_2 : decode bc_M_put 2 = .ok (.iload_n 2, 1) := by decide +kernel
theorem dc_M_put_3 : decode bc_M_put 3 = .ok (.invokestatic 51, 3) := by decide +kernel
theorem dc_M_put_6 : decode bc_M_put 6 = .ok (.putfield 35, 3) := by decide +kernel
theorem dc_M_put_9 : decode bc_M_put 9 = .ok (.aload_n 0, 1) := by decide +kernel
theorem dc_M_put_10 : decode bc_M_put 10 = .ok (.getfield 35, 3) := by decide +kernel
theorem dc_M_put_13 : decode bc_M_put 13 = .ok (.ifCond .eq 5, 3) := by decide +kernel
theorem dc_M_put_16 : decode bc_M_put 16 = .ok (.iconst 0, 1) := by decide +kernel
theorem dc_M_put_17 : decode bc_M_put 17 = .ok (.ireturn, 1) := by decide +kernel
theorem dc_M_put_18 : decode bc_M_put 18 = .ok (.iload_n 2, 1) := by decide +kernel
theorem dc_M_put_19 : decode bc_M_put 19 = .ok (.invokestatic 55, 3) := by decide +kernel
theorem dc_M_put_22 : decode bc_M_put 22 = .ok (.istore_n 3, 1) := by decide +kernel
theorem dc_M_put_23 : decode bc_M_put 23 = .ok (.aload_n 0, 1) := by decide +kernel
theorem dc_M_put_24 : decode bc_M_put 24 = .ok (.iload_n 1, 1) := by decide +kernel
theorem dc_M_put_25 : decode bc_M_put 25 = .ok (.iload_n 3, 1) := by decide +kernel
theorem dc_M_put_26 : decode bc_M_put 26 = .ok (.invokevirtual 58, 3) := by decide +kernel
theorem dc_M_put_29 : decode bc_M_put 29 = .ok (.ifCond .ne 7, 3) := by decide +kernel
theorem dc_M_put_32 : decode bc_M_put 32 = .ok (.iconst 1, 1) := by decide +kernel
theorem dc_M_put_33 : decode bc_M_put 33 = .ok (.goto 4, 3) := by decide +kernel
theorem dc_M_put_36 : decode bc_M_put 36 = .ok (.iconst 0, 1) := by decide +kernel
theorem dc_M_put_37 : decode bc_M_put 37 = .ok (.istore 4, 2) := by decide +kernel
theorem dc_M_put_39 : decode bc_M_put 39 = .ok (.aload_n 0, 1) := by decide +kernel
theorem dc_M_put_40 : decode bc_M_put 40 = .ok (.getfield 7, 3) := by decide +kernel
theorem dc_M_put_43 : decode bc_M_put 43 = .ok (.bipush 64, 2) := by decide +kernel
theorem dc_M_put_45 : decode bc_M_put 45 = .ok (.iload_n 1, 1) := by decide +kernel
theorem dc_M_put_46 : decode bc_M_put 46 = .ok (.imul, 1) := by decide +kernel
theorem dc_M_put_47 : decode bc_M_put 47 = .ok (.iload_n 3, 1) := by decide +kernel
theorem dc_M_put_48 : decode bc_M_put 48 = .ok (.bipush 64, 2) := by decide +kernel
theorem dc_M_put_50 : decode bc_M_put 50 = .ok (.idiv, 1) := by decide +kernel
theorem dc_M_put_51 : decode bc_M_put 51 = .ok (.iadd, 1) := by decide +kernel
theorem dc_M_put_52 : decode bc_M_put 52 = .ok (.aload_n 0, 1) := by decide +kernel
theorem dc_M_put_53 : decode bc_M_put 53 = .ok (.getfield 7, 3) := by decide +kernel
theorem dc_M_put_56 : decode bc_M_put 56 = .ok (.bipush 64, 2) := by decide +kernel
theorem dc_M_put_58 : decode bc_M_put 58 = .ok (.iload_n 1, 1) := by decide +kernel
theorem dc_M_put_59 : decode bc_M_put 59 = .ok (.imul, 1) := by decide +kernel
theorem dc_M_put_60 : decode bc_M_put 60 = .ok (.iload_n 3, 1) := by decide +kernel
theorem dc_M_put_61 : decode bc_M_put 61 = .ok (.bipush 64, 2) := by decide +kernel
theorem dc_M_put_63 : decode bc_M_put 63 = .ok (.idiv, 1) := by decide +kernel
theorem dc_M_put_64 : decode bc_M_put 64 = .ok (.iadd, 1) := by decide +kernel
theorem dc_M_put_65 : decode bc_M_put 65 = .ok (.laload, 1) := by decide +kernel
theorem dc_M_put_66 : decode bc_M_put 66 = .ok (.lconst 1, 1) := by decide +kernel
theorem dc_M_put_67 : decode bc_M_put 67 = .ok (.iload_n 3, 1) := by decide +kernel
theorem dc_M_put_68 : decode bc_M_put 68 = .ok (.bipush 64, 2) := by decide +kernel
theorem dc_M_put_70 : decode bc_M_put 70 = .ok (.irem, 1) := by decide +kernel
theorem dc_M_put_71 : decode bc_M_put 71 = .ok (.lshl, 1) := by decide +kernel
theorem dc_M_put_72 : decode bc_M_put 72 = .ok (.lor, 1) := by decide +kernel
theorem dc_M_put_73 : decode bc_M_put 73 = .ok (.lastore, 1) := by decide +kernel
theorem dc_M_put_74 : decode bc_M_put 74 = .ok (.iload 4, 2) := by decide +kernel
theorem dc_M_put_76 : decode bc_M_put 76 = .ok (.ireturn, 1) := by decide +kernel
theorem dc_M_asked_0 : decode bc_M_asked 0 = .ok (.iload_n 0, 1) := by decide +kernel
theorem dc_M_asked_1 : decode bc_M_asked 1 = .ok (.invokestatic 47, 3) := by decide +kernel
theorem dc_M_asked_4 : decode bc_M_asked 4 = .ok (.ifCond .eq 7, 3) := by decide +kernel
theorem dc_M_asked_7 : decode bc_M_asked 7 = .ok (.iconst 1, 1) := by decide +kernel
theorem dc_M_asked_8 : decode bc_M_asked 8 = .ok (.goto 19, 3) := by decide +kernel
theorem dc_M_asked_11 : decode bc_M_asked 11 = .ok (.iload_n 1, 1) := by decide +kernel
theorem dc_M_asked_12 : decode bc_M_asked 12 = .ok (.ifCond .lt 10, 3) := by decide +kernel
theorem dc_M_asked_15 : decode bc_M_asked 15 = .ok (.iload_n 1, 1) := by decide +kernel
theorem dc_M_asked_16 : decode bc_M_asked 16 = .ok (.sipush 4096, 3) := by decide +kernel
theorem dc_M_asked_19 : decode bc_M_asked 19 = .ok (.if_icmp .lt 7, 3) := by decide +kernel
theorem dc_M_asked_22 : decode bc_M_asked 22 = .ok (.iconst 2, 1) := by decide +kernel
theorem dc_M_asked_23 : decode bc_M_asked 23 = .ok (.goto 4, 3) := by decide +kernel
theorem dc_M_asked_26 : decode bc_M_asked 26 = .ok (.iconst 0, 1) := by decide +kernel
theorem dc_M_asked_27 : decode bc_M_asked 27 = .ok (.ireturn, 1) := by decide +kernel
theorem dc_M_noShelf_0 : decode bc_M_noShelf 0 = .ok (.iload_n 0, 1) := by decide +kernel
theorem dc_M_noShelf_1 : decode bc_M_noShelf 1 = .ok (.ifCond .lt 9, 3) := by decide +kernel
theorem dc_M_noShelf_4 : decode bc_M_noShelf 4 = .ok (.iload_n 0, 1) := by decide +kernel
theorem dc_M_noShelf_5 : decode bc_M_noShelf 5 = .ok (.bipush 10, 2) := by decide +kernel
theorem dc_M_noShelf_7 : decode bc_M_noShelf 7 = .ok (.if_icmp .lt 7, 3) := by decide +kernel
theorem dc_M_noShelf_10 : decode bc_M_noShelf 10 = .ok (.iconst 1, 1) := by decide +kernel
theorem dc_M_noShelf_11 : decode bc_M_noShelf 11 = .ok (.goto 4, 3) := by decide +kernel
theorem dc_M_noShelf_14 : decode bc_M_noShelf 14 = .ok (.iconst 0, 1) := by decide +kernel
theorem dc_M_noShelf_15 : decode bc_M_noShelf 15 = .ok (.ireturn, 1) := by decide +kernel
theorem dc_M_turned_0 : decode bc_M_turned 0 = .ok (.iconst 0, 1) := by decide +kernel
theorem dc_M_turned_1 : decode bc_M_turned 1 = .ok (.istore_n 1, 1) := by decide +kernel
theorem dc_M_turned_2 : decode bc_M_turned 2 = .ok (.iconst 0, 1) := by decide +kernel
theorem dc_M_turned_3 : decode bc_M_turned 3 = .ok (.istore_n 2, 1) := by decide +kernel
theorem dc_M_turned_4 : decode bc_M_turned 4 = .ok (.iload_n 2, 1) := by decide +kernel
theorem dc_M_turned_5 : decode bc_M_turned 5 = .ok (.bipush 12, 2) := by decide +kernel
theorem dc_M_turned_7 : decode bc_M_turned 7 = .ok (.if_icmp .ge 19, 3) := by decide +kernel
theorem dc_M_turned_10 : decode bc_M_turned 10 = .ok (.iload_n 1, 1) := by decide +kernel
theorem dc_M_turned_11 : decode bc_M_turned 11 = .ok (.iconst 1, 1) := by decide +kernel
theorem dc_M_turned_12 : decode bc_M_turned 12 = .ok (.ishl, 1) := by decide +kernel
theorem dc_M_turned_13 : decode bc_M_turned 13 = .ok (.iload_n 0, 1) := by decide +kernel
theorem dc_M_turned_14 : decode bc_M_turned 14 = .ok (.iload_n 2, 1) := by decide +kernel
theorem dc_M_turned_15 : decode bc_M_turned 15 = .ok (.ishr, 1) := by decide +kernel
theorem dc_M_turned_16 : decode bc_M_turned 16 = .ok (.iconst 1, 1) := by decide +kernel
theorem dc_M_turned_17 : decode bc_M_turned 17 = .ok (.iand, 1) := by decide +kernel
theorem dc_M_turned_18 : decode bc_M_turned 18 = .ok (.ior, 1) := by decide +kernel
theorem dc_M_turned_19 : decode bc_M_turned 19 = .ok (.istore_n 1, 1) := by decide +kernel
theorem dc_M_turned_20 : decode bc_M_turned 20 = .ok (.iinc 2 1, 3) := by decide +kernel
theorem dc_M_turned_23 : decode bc_M_turned 23 = .ok (.goto (-19), 3) := by decide +kernel
theorem dc_M_turned_26 : decode bc_M_turned 26 = .ok (.iload_n 1, 1) := by decide +kernel
theorem dc_M_turned_27 : decode bc_M_turned 27 = .ok (.ireturn, 1) := by decide +kernel
theorem dc_M_isIn_0 : decode bc_M_isIn 0 = .ok (.aload_n 0, 1) := by decide +kernel
theorem dc_M_isIn_1 : decode bc_M_isIn 1 = .ok (.getfield 7, 3) := by decide +kernel
theorem dc_M_isIn_4 : decode bc_M_isIn 4 = .ok (.bipush 64, 2) := by decide +kernel
theorem dc_M_isIn_6 : decode bc_M_isIn 6 = .ok (.iload_n 1, 1) := by decide +kernel
theorem dc_M_isIn_7 : decode bc_M_isIn 7 = .ok (.imul, 1) := by decide +kernel
theorem dc_M_isIn_8 : decode bc_M_isIn 8 = .ok (.iload_n 2, 1) := by decide +kernel
theorem dc_M_isIn_9 : decode bc_M_isIn 9 = .ok (.bipush 64, 2) := by decide +kernel
theorem dc_M_isIn_11 : decode bc_M_isIn 11 = .ok (.idiv, 1) := by decide +kernel
theorem dc_M_isIn_12 : decode bc_M_isIn 12 = .ok (.iadd, 1) := by decide +kernel
theorem dc_M_isIn_13 : decode bc_M_isIn 13 = .ok (.laload, 1) := by decide +kernel
theorem dc_M_isIn_14 : decode bc_M_isIn 14 = .ok (.iload_n 2, 1) := by decide +kernel
theorem dc_M_isIn_15 : decode bc_M_isIn 15 = .ok (.bipush 64, 2) := by decide +kernel
theorem dc_M_isIn_17 : decode bc_M_isIn 17 = .ok (.irem, 1) := by decide +kernel
theorem dc_M_isIn_18 : decode bc_M_isIn 18 = .ok (.lshr, 1) := by decide +kernel
theorem dc_M_isIn_19 : decode bc_M_isIn 19 = .ok (.lconst 1, 1) := by decide +kernel
theorem dc_M_isIn_20 : decode bc_M_isIn 20 = .ok (.land, 1) := by decide +kernel
theorem dc_M_isIn_21 : decode bc_M_isIn 21 = .ok (.lconst 1, 1) := by decide +kernel
theorem dc_M_isIn_22 : decode bc_M_isIn 22 = .ok (.lcmp, 1) := by decide +kernel
theorem dc_M_isIn_23 : decode bc_M_isIn 23 = .ok (.ifCond .ne 7, 3) := by decide +kernel
theorem dc_M_isIn_26 : decode bc_M_isIn 26 = .ok (.iconst 1, 1) := by decide +kernel
theorem dc_M_isIn_27 : decode bc_M_isIn 27 = .ok (.goto 4, 3) := by decide +kernel
theorem dc_M_isIn_30 : decode bc_M_isIn 30 = .ok (.iconst 0, 1) := by decide +kernel
theorem dc_M_isIn_31 : decode bc_M_isIn 31 = .ok (.ireturn, 1) := by decide +kernel
theorem dc_M_take_0 : decode bc_M_take 0 = .ok (.aload_n 0, 1) := by decide +kernel
theorem dc_M_take_1 : decode bc_M_take 1 = .ok (.iload_n 1, 1) := by decide +kernel
theorem dc_M_take_2 : decode bc_M_take 2 = .ok (.iload_n 2, 1) := by decide +kernel
theorem dc_M_take_3 : decode bc_M_take 3 = .ok (.invokestatic 51, 3) := by decide +kernel
theorem dc_M_take_6 : decode bc_M_take 6 = .ok (.putfield 35, 3) := by decide +kernel
theorem dc_M_take_9 : decode bc_M_take 9 = .ok (.aload_n 0, 1) := by decide +kernel
theorem dc_M_take_10 : decode bc_M_take 10 = .ok (.getfield 35, 3) := by decide +kernel
theorem dc_M_take_13 : decode bc_M_take 13 = .ok (.ifCond .eq 5, 3) := by decide +kernel
theorem dc_M_take_16 : decode bc_M_take 16 = .ok (.iconst 0, 1) := by decide +kernel
theorem dc_M_take_17 : decode bc_M_take 17 = .ok (.ireturn, 1) := by decide +kernel
theorem dc_M_take_18 : decode bc_M_take 18 = .ok (.iload_n 2, 1) := by decide +kernel
theorem dc_M_take_19 : decode bc_M_take 19 = .ok (.invokestatic 55, 3) := by decide +kernel
theorem dc_M_take_22 : decode bc_M_take 22 = .ok (.istore_n 3, 1) := by decide +kernel
theorem dc_M_take_23 : decode bc_M_take 23 = .ok (.aload_n 0, 1) := by decide +kernel
theorem dc_M_take_24 : decode bc_M_take 24 = .ok (.iload_n 1, 1) := by decide +kernel
theorem dc_M_take_25 : decode bc_M_take 25 = .ok (.iload_n 3, 1) := by decide +kernel
theorem dc_M_take_26 : decode bc_M_take 26 = .ok (.invokevirtual 58, 3) := by decide +kernel
theorem dc_M_take_29 : decode bc_M_take 29 = .ok (.istore 4, 2) := by decide +kernel
theorem dc_M_take_31 : decode bc_M_take 31 = .ok (.aload_n 0, 1) := by decide +kernel
theorem dc_M_take_32 : decode bc_M_take 32 = .ok (.getfield 7, 3) := by decide +kernel
theorem dc_M_take_35 : decode bc_M_take 35 = .ok (.bipush 64, 2) := by decide +kernel
theorem dc_M_take_37 : decode bc_M_take 37 = .ok (.iload_n 1, 1) := by decide +kernel
theorem dc_M_take_38 : decode bc_M_take 38 = .ok (.imul, 1) := by decide +kernel
theorem dc_M_take_39 : decode bc_M_take 39 = .ok (.iload_n 3, 1) := by decide +kernel
theorem dc_M_take_40 : decode bc_M_take 40 = .ok (.bipush 64, 2) := by decide +kernel
theorem dc_M_take_42 : decode bc_M_take 42 = .ok (.idiv, 1) := by decide +kernel
theorem dc_M_take_43 : decode bc_M_take 43 = .ok (.iadd, 1) := by decide +kernel
theorem dc_M_take_44 : decode bc_M_take 44 = .ok (.aload_n 0, 1) := by decide +kernel
theorem dc_M_take_45 : decode bc_M_take 45 = .ok (.getfield 7, 3) := by decide +kernel
theorem dc_M_take_48 : decode bc_M_take 48 = .ok (.bipush 64, 2) := by decide +kernel
theorem dc_M_take_50 : decode bc_M_take 50 = .ok (.iload_n 1, 1) := by decide +kernel
theorem dc_M_take_51 : decode bc_M_take 51 = .ok (.imul, 1) := by decide +kernel
theorem dc_M_take_52 : decode bc_M_take 52 = .ok (.iload_n 3, 1) := by decide +kernel
theorem dc_M_take_53 : decode bc_M_take 53 = .ok (.bipush 64, 2) := by decide +kernel
theorem dc_M_take_55 : decode bc_M_take 55 = .ok (.idiv, 1) := by decide +kernel
theorem dc_M_take_56 : decode bc_M_take 56 = .ok (.iadd, 1) := by decide +kernel
theorem dc_M_take_57 : decode bc_M_take 57 = .ok (.laload, 1) := by decide +kernel
theorem dc_M_take_58 : decode bc_M_take 58 = .ok (.lconst 1, 1) := by decide +kernel
theorem dc_M_take_59 : decode bc_M_take 59 = .ok (.iload_n 3, 1) := by decide +kernel
theorem dc_M_take_60 : decode bc_M_take 60 = .ok (.bipush 64, 2) := by decide +kernel
theorem dc_M_take_62 : decode bc_M_take 62 = .ok (.irem, 1) := by decide +kernel
theorem dc_M_take_63 : decode bc_M_take 63 = .ok (.lshl, 1) := by decide +kernel
theorem dc_M_take_64 : decode bc_M_take 64 = .ok (.ldc2_w 62, 3) := by decide +kernel
theorem dc_M_take_67 : decode bc_M_take 67 = .ok (.lxor, 1) := by decide +kernel
theorem dc_M_take_68 : decode bc_M_take 68 = .ok (.land, 1) := by decide +kernel
theorem dc_M_take_69 : decode bc_M_take 69 = .ok (.lastore, 1) := by decide +kernel
theorem dc_M_take_70 : decode bc_M_take 70 = .ok (.iload 4, 2) := by decide +kernel
theorem dc_M_take_72 : decode bc_M_take 72 = .ok (.ireturn, 1) := by decide +kernel
theorem dc_M_clear_0 : decode bc_M_clear 0 = .ok (.aload_n 0, 1) := by decide +kernel
theorem dc_M_clear_1 : decode bc_M_clear 1 = .ok (.iload_n 1, 1) := by decide +kernel
theorem dc_M_clear_2 : decode bc_M_clear 2 = .ok (.invokestatic 47, 3) := by decide +kernel
theorem dc_M_clear_5 : decode bc_M_clear 5 = .ok (.ifCond .eq 7, 3) := by decide +kernel
theorem dc_M_clear_8 : decode bc_M_clear 8 = .ok (.iconst 1, 1) := by decide +kernel
theorem dc_M_clear_9 : decode bc_M_clear 9 = .ok (.goto 4, 3) := by decide +kernel
theorem dc_M_clear_12 : decode bc_M_clear 12 = .ok (.iconst 0, 1) := by decide +kernel
theorem dc_M_clear_13 : decode bc_M_clear 13 = .ok (.putfield 35, 3) := by decide +kernel
theorem dc_M_clear_16 : decode bc_M_clear 16 = .ok (.aload_n 0, 1) := by decide +kernel
theorem dc_M_clear_17 : decode bc_M_clear 17 = .ok (.getfield 35, 3) := by decide +kernel
theorem dc_M_clear_20 : decode bc_M_clear 20 = .ok (.ifCond .eq 5, 3) := by decide +kernel
theorem dc_M_clear_23 : decode bc_M_clear 23 = .ok (.iconst 0, 1) := by decide +kernel
theorem dc_M_clear_24 : decode bc_M_clear 24 = .ok (.ireturn, 1) := by decide +kernel
theorem dc_M_clear_25 : decode bc_M_clear 25 = .ok (.aload_n 0, 1) := by decide +kernel
theorem dc_M_clear_26 : decode bc_M_clear 26 = .ok (.iload_n 1, 1) := by decide +kernel
theorem dc_M_clear_27 : decode bc_M_clear 27 = .ok (.invokevirtual 43, 3) := by decide +kernel
theorem dc_M_clear_30 : decode bc_M_clear 30 = .ok (.istore_n 2, 1) := by decide +kernel
theorem dc_M_clear_31 : decode bc_M_clear 31 = .ok (.iconst 0, 1) := by decide +kernel
theorem dc_M_clear_32 : decode bc_M_clear 32 = .ok (.istore_n 3, 1) := by decide +kernel
theorem dc_M_clear_33 : decode bc_M_clear 33 = .ok (.iload_n 3, 1) := by decide +kernel
theorem dc_M_clear_34 : decode bc_M_clear 34 = .ok (.bipush 64, 2) := by decide +kernel
theorem dc_M_clear_36 : decode bc_M_clear 36 = .ok (.if_icmp .ge 21, 3) := by decide +kernel
theorem dc_M_clear_39 : decode bc_M_clear 39 = .ok (.aload_n 0, 1) := by decide +kernel
theorem dc_M_clear_40 : decode bc_M_clear 40 = .ok (.getfield 7, 3) := by decide +kernel
theorem dc_M_clear_43 : decode bc_M_clear 43 = .ok (.bipush 64, 2) := by decide +kernel
theorem dc_M_clear_45 : decode bc_M_clear 45 = .ok (.iload_n 1, 1) := by decide +kernel
theorem dc_M_clear_46 : decode bc_M_clear 46 = .ok (.imul, 1) := by decide +kernel
theorem dc_M_clear_47 : decode bc_M_clear 47 = .ok (.iload_n 3, 1) := by decide +kernel
theorem dc_M_clear_48 : decode bc_M_clear 48 = .ok (.iadd, 1) := by decide +kernel
theorem dc_M_clear_49 : decode bc_M_clear 49 = .ok (.lconst 0, 1) := by decide +kernel
theorem dc_M_clear_50 : decode bc_M_clear 50 = .ok (.lastore, 1) := by decide +kernel
theorem dc_M_clear_51 : decode bc_M_clear 51 = .ok (.iinc 3 1, 3) := by decide +kernel
theorem dc_M_clear_54 : decode bc_M_clear 54 = .ok (.goto (-21), 3) := by decide +kernel
theorem dc_M_clear_57 : decode bc_M_clear 57 = .ok (.iload_n 2, 1) := by decide +kernel
theorem dc_M_clear_58 : decode bc_M_clear 58 = .ok (.ireturn, 1) := by decide +kernel
theorem dc_M_countOf_0 : decode bc_M_countOf 0 = .ok (.iconst 0, 1) := by decide +kernel
theorem dc_M_countOf_1 : decode bc_M_countOf 1 = .ok (.istore_n 2, 1) := by decide +kernel
theorem dc_M_countOf_2 : decode bc_M_countOf 2 = .ok (.iconst 0, 1) := by decide +kernel
theorem dc_M_countOf_3 : decode bc_M_countOf 3 = .ok (.istore_n 3, 1) := by decide +kernel
theorem dc_M_countOf_4 : decode bc_M_countOf 4 = .ok (.iload_n 3, 1) := by decide +kernel
theorem dc_M_countOf_5 : decode bc_M_countOf 5 = .ok (.bipush 64, 2) := by decide +kernel
theorem dc_M_countOf_7 : decode bc_M_countOf 7 = .ok (.if_icmp .ge 26, 3) := by decide +kernel
theorem dc_M_countOf_10 : decode bc_M_countOf 10 = .ok (.iload_n 2, 1) := by decide +kernel
theorem dc_M_countOf_11 : decode bc_M_countOf 11 = .ok (.aload_n 0, 1) := by decide +kernel
theorem dc_M_countOf_12 : decode bc_M_countOf 12 = .ok (.getfield 7, 3) := by decide +kernel
theorem dc_M_countOf_15 : decode bc_M_countOf 15 = .ok (.bipush 64, 2) := by decide +kernel
theorem dc_M_countOf_17 : decode bc_M_countOf 17 = .ok (.iload_n 1, 1) := by decide +kernel
theorem dc_M_countOf_18 : decode bc_M_countOf 18 = .ok (.imul, 1) := by decide +kernel
theorem dc_M_countOf_19 : decode bc_M_countOf 19 = .ok (.iload_n 3, 1) := by decide +kernel
theorem dc_M_countOf_20 : decode bc_M_countOf 20 = .ok (.iadd, 1) := by decide +kernel
theorem dc_M_countOf_21 : decode bc_M_countOf 21 = .ok (.laload, 1) := by decide +kernel
theorem dc_M_countOf_22 : decode bc_M_countOf 22 = .ok (.invokestatic 39, 3) := by decide +kernel
theorem dc_M_countOf_25 : decode bc_M_countOf 25 = .ok (.iadd, 1) := by decide +kernel
theorem dc_M_countOf_26 : decode bc_M_countOf 26 = .ok (.istore_n 2, 1) := by decide +kernel
theorem dc_M_countOf_27 : decode bc_M_countOf 27 = .ok (.iinc 3 1, 3) := by decide +kernel
theorem dc_M_countOf_30 : decode bc_M_countOf 30 = .ok (.goto (-26), 3) := by decide +kernel
theorem dc_M_countOf_33 : decode bc_M_countOf 33 = .ok (.iload_n 2, 1) := by decide +kernel
theorem dc_M_countOf_34 : decode bc_M_countOf 34 = .ok (.ireturn, 1) := by decide +kernel
theorem dc_M_ones_0 : decode bc_M_ones 0 = .ok (.iconst 0, 1) := by decide +kernel
theorem dc_M_ones_1 : decode bc_M_ones 1 = .ok (.istore_n 2, 1) := by decide +kernel
theorem dc_M_ones_2 : decode bc_M_ones 2 = .ok (.iconst 0, 1) := by decide +kernel
theorem dc_M_ones_3 : decode bc_M_ones 3 = .ok (.istore_n 3, 1) := by decide +kernel
theorem dc_M_ones_4 : decode bc_M_ones 4 = .ok (.iload_n 3, 1) := by decide +kernel
theorem dc_M_ones_5 : decode bc_M_ones 5 = .ok (.bipush 64, 2) := by decide +kernel
theorem dc_M_ones_7 : decode bc_M_ones 7 = .ok (.if_icmp .ge 18, 3) := by decide +kernel
theorem dc_M_ones_10 : decode bc_M_ones 10 = .ok (.iload_n 2, 1) := by decide +kernel
theorem dc_M_ones_11 : decode bc_M_ones 11 = .ok (.lload_n 0, 1) := by decide +kernel
theorem dc_M_ones_12 : decode bc_M_ones 12 = .ok (.iload_n 3, 1) := by decide +kernel
theorem dc_M_ones_13 : decode bc_M_ones 13 = .ok (.lshr, 1) := by decide +kernel
theorem dc_M_ones_14 : decode bc_M_ones 14 = .ok (.lconst 1, 1) := by decide +kernel
theorem dc_M_ones_15 : decode bc_M_ones 15 = .ok (.land, 1) := by decide +kernel
theorem dc_M_ones_16 : decode bc_M_ones 16 = .ok (.l2i, 1) := by decide +kernel
theorem dc_M_ones_17 : decode bc_M_ones 17 = .ok (.iadd, 1) := by decide +kernel
theorem dc_M_ones_18 : decode bc_M_ones 18 = .ok (.istore_n 2, 1) := by decide +kernel
theorem dc_M_ones_19 : decode bc_M_ones 19 = .ok (.iinc 3 1, 3) := by decide +kernel
theorem dc_M_ones_22 : decode bc_M_ones 22 = .ok (.goto (-18), 3) := by decide +kernel
theorem dc_M_ones_25 : decode bc_M_ones 25 = .ok (.iload_n 2, 1) := by decide +kernel
theorem dc_M_ones_26 : decode bc_M_ones 26 = .ok (.ireturn, 1) := by decide +kernel
theorem dc_M_combine_0 : decode bc_M_combine 0 = .ok (.aload_n 0, 1) := by decide +kernel
theorem dc_M_combine_1 : decode bc_M_combine 1 = .ok (.iload_n 1, 1) := by decide +kernel
theorem dc_M_combine_2 : decode bc_M_combine 2 = .ok (.invokestatic 47, 3) := by decide +kernel
theorem dc_M_combine_5 : decode bc_M_combine 5 = .ok (.ifCond .ne 18, 3) := by decide +kernel
theorem dc_M_combine_8 : decode bc_M_combine 8 = .ok (.iload_n 3, 1) := by decide +kernel
theorem dc_M_combine_9 : decode bc_M_combine 9 = .ok (.invokestatic 47, 3) := by decide +kernel
theorem dc_M_combine_12 : decode bc_M_combine 12 = .ok (.ifCond .ne 11, 3) := by decide +kernel
theorem dc_M_combine_15 : decode bc_M_combine 15 = .ok (.iload 4, 2) := by decide +kernel
theorem dc_M_combine_17 : decode bc_M_combine 17 = .ok (.invokestatic 47, 3) := by decide +kernel
theorem dc_M_combine_20 : decode bc_M_combine 20 = .ok (.ifCond .eq 7, 3) := by decide +kernel
theorem dc_M_combine_23 : decode bc_M_combine 23 = .ok (.iconst 1, 1) := by decide +kernel
theorem dc_M_combine_24 : decode bc_M_combine 24 = .ok (.goto 37, 3) := by decide +kernel
theorem dc_M_combine_27 : decode bc_M_combine 27 = .ok (.iload_n 2, 1) := by decide +kernel
theorem dc_M_combine_28 : decode bc_M_combine 28 = .ok (.ifCond .lt 9, 3) := by decide +kernel
theorem dc_M_combine_31 : decode bc_M_combine 31 = .ok (.iload_n 2, 1) := by decide +kernel
theorem dc_M_combine_32 : decode bc_M_combine 32 = .ok (.bipush 8, 2) := by decide +kernel
theorem dc_M_combine_34 : decode bc_M_combine 34 = .ok (.if_icmp .le 7, 3) := by decide +kernel
theorem dc_M_combine_37 : decode bc_M_combine 37 = .ok (.iconst 2, 1) := by decide +kernel
theorem dc_M_combine_38 : decode bc_M_combine 38 = .ok (.goto 23, 3) := by decide +kernel
theorem dc_M_combine_41 : decode bc_M_combine 41 = .ok (.iload_n 2, 1) := by decide +kernel
theorem dc_M_combine_42 : decode bc_M_combine 42 = .ok (.bipush 6, 2) := by decide +kernel
theorem dc_M_combine_44 : decode bc_M_combine 44 = .ok (.if_icmp .le 16, 3) := by decide +kernel
theorem dc_M_combine_47 : decode bc_M_combine 47 = .ok (.aload_n 0, 1) := by decide +kernel
theorem dc_M_combine_48 : decode bc_M_combine 48 = .ok (.iload 4, 2) := by decide +kernel
theorem dc_M_combine_50 : decode bc_M_combine 50 = .ok (.invokevirtual 43, 3) := by decide +kernel
theorem dc_M_combine_53 : decode bc_M_combine 53 = .ok (.ifCond .ne 7, 3) := by decide +kernel
theorem dc_M_combine_56 : decode bc_M_combine 56 = .ok (.iconst 3, 1) := by decide +kernel
theorem dc_M_combine_57 : decode bc_M_combine 57 = .ok (.goto 4, 3) := by decide +kernel
theorem dc_M_combine_60 : decode bc_M_combine 60 = .ok (.iconst 0, 1) := by decide +kernel
theorem dc_M_combine_61 : decode bc_M_combine 61 = .ok (.putfield 35, 3) := by decide +kernel
theorem dc_M_combine_64 : decode bc_M_combine 64 = .ok (.aload_n 0, 1) := by decide +kernel
theorem dc_M_combine_65 : decode bc_M_combine 65 = .ok (.getfield 35, 3) := by decide +kernel
theorem dc_M_combine_68 : decode bc_M_combine 68 = .ok (.ifCond .eq 5, 3) := by decide +kernel
theorem dc_M_combine_71 : decode bc_M_combine 71 = .ok (.iconst 0, 1) := by decide +kernel
theorem dc_M_combine_72 : decode bc_M_combine 72 = .ok (.ireturn, 1) := by decide +kernel
theorem dc_M_combine_73 : decode bc_M_combine 73 = .ok (.aload_n 0, 1) := by decide +kernel
theorem dc_M_combine_74 : decode bc_M_combine 74 = .ok (.invokevirtual 83, 3) := by decide +kernel
theorem dc_M_combine_77 : decode bc_M_combine 77 = .ok (.iload_n 2, 1) := by decide +kernel
theorem dc_M_combine_78 : decode bc_M_combine 78 = .ok (.tableswitch 102 3 8 #[38, 49, 60, 71, 82, 92], 38) := by decide +kernel
theorem dc_M_combine_116 : decode bc_M_combine 116 = .ok (.aload_n 0, 1) := by decide +kernel
theorem dc_M_combine_117 : decode bc_M_combine 117 = .ok (.iload_n 3, 1) := by decide +kernel
theorem dc_M_combine_118 : decode bc_M_combine 118 = .ok (.iload 4, 2) := by decide +kernel
theorem dc_M_combine_120 : decode bc_M_combine 120 = .ok (.iconst 0, 1) := by decide +kernel
theorem dc_M_combine_121 : decode bc_M_combine 121 = .ok (.invokevirtual 86, 3) := by decide +kernel
theorem dc_M_combine_124 : decode bc_M_combine 124 = .ok (.goto 142, 3) := by decide +kernel
theorem dc_M_combine_127 : decode bc_M_combine 127 = .ok (.aload_n 0, 1) := by decide +kernel
theorem dc_M_combine_128 : decode bc_M_combine 128 = .ok (.iload_n 3, 1) := by decide +kernel
theorem dc_M_combine_129 : decode bc_M_combine 129 = .ok (.iload 4, 2) := by decide +kernel
theorem dc_M_combine_131 : decode bc_M_combine 131 = .ok (.iconst 1, 1) := by decide +kernel
theorem dc_M_combine_132 : decode bc_M_combine 132 = .ok (.invokevirtual 86, 3) := by decide +kernel
theorem dc_M_combine_135 : decode bc_M_combine 135 = .ok (.goto 131, 3) := by decide +kernel
theorem dc_M_combine_138 : decode bc_M_combine 138 = .ok (.aload_n 0, 1) := by decide +kernel
theorem dc_M_combine_139 : decode bc_M_combine 139 = .ok (.iload_n 3, 1) := by decide +kernel
theorem dc_M_combine_140 : decode bc_M_combine 140 = .ok (.iload 4, 2) := by decide +kernel
theorem dc_M_combine_142 : decode bc_M_combine 142 = .ok (.iconst 1, 1) := by decide +kernel
theorem dc_M_combine_143 : decode bc_M_combine 143 = .ok (.invokevirtual 90, 3) := by decide +kernel
theorem dc_M_combine_146 : decode bc_M_combine 146 = .ok (.goto 120, 3) := by decide +kernel
theorem dc_M_combine_149 : decode bc_M_combine 149 = .ok (.aload_n 0, 1) := by decide +kernel
theorem dc_M_combine_150 : decode bc_M_combine 150 = .ok (.iload_n 3, 1) := by decide +kernel
theorem dc_M_combine_151 : decode bc_M_combine 151 = .ok (.iload 4, 2) := by decide +kernel
theorem dc_M_combine_153 : decode bc_M_combine 153 = .ok (.iconst 0, 1) := by decide +kernel
theorem dc_M_combine_154 : decode bc_M_combine 154 = .ok (.invokevirtual 90, 3) := by decide +kernel
theorem dc_M_combine_157 : decode bc_M_combine 157 = .ok (.goto 109, 3) := by decide +kernel
theorem dc_M_combine_160 : decode bc_M_combine 160 = .ok (.aload_n 0, 1) := by decide +kernel
theorem dc_M_combine_161 : decode bc_M_combine 161 = .ok (.iload_n 3, 1) := by decide +kernel
theorem dc_M_combine_162 : decode bc_M_combine 162 = .ok (.iload 4, 2) := by decide +kernel
theorem dc_M_combine_164 : decode bc_M_combine 164 = .ok (.invokevirtual 79, 3) := by decide +kernel
theorem dc_M_combine_167 : decode bc_M_combine 167 = .ok (.goto 99, 3) := by decide +kernel
theorem dc_M_combine_170 : decode bc_M_combine 170 = .ok (.aload_n 0, 1) := by decide +kernel
theorem dc_M_combine_171 : decode bc_M_combine 171 = .ok (.iload_n 3, 1) := by decide +kernel
theorem dc_M_combine_172 : decode bc_M_combine 172 = .ok (.iload 4, 2) := by decide +kernel
theorem dc_M_combine_174 : decode bc_M_combine 174 = .ok (.invokevirtual 93, 3) := by decide +kernel
theorem dc_M_combine_177 : decode bc_M_combine 177 = .ok (.goto 89, 3) := by decide +kernel
theorem dc_M_combine_180 : decode bc_M_combine 180 = .ok (.iconst 0, 1) := by decide +kernel
theorem dc_M_combine_181 : decode bc_M_combine 181 = .ok (.istore 5, 2) := by decide +kernel
theorem dc_M_combine_183 : decode bc_M_combine 183 = .ok (.iload 5, 2) := by decide +kernel
theorem dc_M_combine_185 : decode bc_M_combine 185 = .ok (.bipush 64, 2) := by decide +kernel
theorem dc_M_combine_187 : decode bc_M_combine 187 = .ok (.if_icmp .ge 79, 3) := by decide +kernel
theorem dc_M_combine_190 : decode bc_M_combine 190 = .ok (.aload_n 0, 1) := by decide +kernel
theorem dc_M_combine_191 : decode bc_M_combine 191 = .ok (.getfield 7, 3) := by decide +kernel
theorem dc_M_combine_194 : decode bc_M_combine 194 = .ok (.bipush 64, 2) := by decide +kernel
theorem dc_M_combine_196 : decode bc_M_combine 196 = .ok (.iload_n 3, 1) := by decide +kernel
theorem dc_M_combine_197 : decode bc_M_combine 197 = .ok (.imul, 1) := by decide +kernel
theorem dc_M_combine_198 : decode bc_M_combine 198 = .ok (.iload 5, 2) := by decide +kernel
theorem dc_M_combine_200 : decode bc_M_combine 200 = .ok (.iadd, 1) := by decide +kernel
theorem dc_M_combine_201 : decode bc_M_combine 201 = .ok (.laload, 1) := by decide +kernel
theorem dc_M_combine_202 : decode bc_M_combine 202 = .ok (.lstore 6, 2) := by decide +kernel
theorem dc_M_combine_204 : decode bc_M_combine 204 = .ok (.aload_n 0, 1) := by decide +kernel
theorem dc_M_combine_205 : decode bc_M_combine 205 = .ok (.getfield 7, 3) := by decide +kernel
theorem dc_M_combine_208 : decode bc_M_combine 208 = .ok (.bipush 64, 2) := by decide +kernel
theorem dc_M_combine_210 : decode bc_M_combine 210 = .ok (.iload 4, 2) := by decide +kernel
theorem dc_M_combine_212 : decode bc_M_combine 212 = .ok (.imul, 1) := by decide +kernel
theorem dc_M_combine_213 : decode bc_M_combine 213 = .ok (.iload 5, 2) := by decide +kernel
theorem dc_M_combine_215 : decode bc_M_combine 215 = .ok (.iadd, 1) := by decide +kernel
theorem dc_M_combine_216 : decode bc_M_combine 216 = .ok (.laload, 1) := by decide +kernel
theorem dc_M_combine_217 : decode bc_M_combine 217 = .ok (.lstore 8, 2) := by decide +kernel
theorem dc_M_combine_219 : decode bc_M_combine 219 = .ok (.aload_n 0, 1) := by decide +kernel
theorem dc_M_combine_220 : decode bc_M_combine 220 = .ok (.getfield 13, 3) := by decide +kernel
theorem dc_M_combine_223 : decode bc_M_combine 223 = .ok (.iload 5, 2) := by decide +kernel
theorem dc_M_combine_225 : decode bc_M_combine 225 = .ok (.iload_n 2, 1) := by decide +kernel
theorem dc_M_combine_226 : decode bc_M_combine 226 = .ok (.ifCond .ne 11, 3) := by decide +kernel
theorem dc_M_combine_229 : decode bc_M_combine 229 = .ok (.lload 6, 2) := by decide +kernel
theorem dc_M_combine_231 : decode bc_M_combine 231 = .ok (.lload 8, 2) := by decide +kernel
theorem dc_M_combine_233 : decode bc_M_combine 233 = .ok (.lor, 1) := by decide +kernel
theorem dc_M_combine_234 : decode bc_M_combine 234 = .ok (.goto 25, 3) := by decide +kernel
theorem dc_M_combine_237 : decode bc_M_combine 237 = .ok (.iload_n 2, 1) := by decide +kernel
theorem dc_M_combine_238 : decode bc_M_combine 238 = .ok (.iconst 1, 1) := by decide +kernel
theorem dc_M_combine_239 : decode bc_M_combine 239 = .ok (.if_icmp .ne 11, 3) := by decide +kernel
theorem dc_M_combine_242 : decode bc_M_combine 242 = .ok (.lload 6, 2) := by decide +kernel
theorem dc_M_combine_244 : decode bc_M_combine 244 = .ok (.lload 8, 2) := by decide +kernel
theorem dc_M_combine_246 : decode bc_M_combine 246 = .ok (.land, 1) := by decide +kernel
theorem dc_M_combine_247 : decode bc_M_combine 247 = .ok (.goto 12, 3) := by decide +kernel
theorem dc_M_combine_250 : decode bc_M_combine 250 = .ok (.lload 6, 2) := by decide +kernel
theorem dc_M_combine_252 : decode bc_M_combine 252 = .ok (.lload 8, 2) := by decide +kernel
theorem dc_M_combine_254 : decode bc_M_combine 254 = .ok (.ldc2_w 62, 3) := by decide +kernel
theorem dc_M_combine_257 : decode bc_M_combine 257 = .ok (.lxor, 1) := by decide +kernel
theorem dc_M_combine_258 : decode bc_M_combine 258 = .ok (.land, 1) := by decide +kernel
theorem dc_M_combine_259 : decode bc_M_combine 259 = .ok (.lastore, 1) := by decide +kernel
theorem dc_M_combine_260 : decode bc_M_combine 260 = .ok (.iinc 5 1, 3) := by decide +kernel
theorem dc_M_combine_263 : decode bc_M_combine 263 = .ok (.goto (-80), 3) := by decide +kernel
theorem dc_M_combine_266 : decode bc_M_combine 266 = .ok (.aload_n 0, 1) := by decide +kernel
theorem dc_M_combine_267 : decode bc_M_combine 267 = .ok (.iload_n 1, 1) := by decide +kernel
theorem dc_M_combine_268 : decode bc_M_combine 268 = .ok (.invokevirtual 96, 3) := by decide +kernel
theorem dc_M_combine_271 : decode bc_M_combine 271 = .ok (.ireturn, 1) := by decide +kernel
theorem dc_M_begin_0 : decode bc_M_begin 0 = .ok (.iconst 0, 1) := by decide +kernel
theorem dc_M_begin_1 : decode bc_M_begin 1 = .ok (.istore_n 1, 1) := by decide +kernel
theorem dc_M_begin_2 : decode bc_M_begin 2 = .ok (.iload_n 1, 1) := by decide +kernel
theorem dc_M_begin_3 : decode bc_M_begin 3 = .ok (.bipush 64, 2) := by decide +kernel
theorem dc_M_begin_5 : decode bc_M_begin 5 = .ok (.if_icmp .ge 16, 3) := by decide +kernel
theorem dc_M_begin_8 : decode bc_M_begin 8 = .ok (.aload_n 0, 1) := by decide +kernel
theorem dc_M_begin_9 : decode bc_M_begin 9 = .ok (.getfield 13, 3) := by decide +kernel
theorem dc_M_begin_12 : decode bc_M_begin 12 = .ok (.iload_n 1, 1) := by decide +kernel
theorem dc_M_begin_13 : decode bc_M_begin 13 = .ok (.lconst 0, 1) := by decide +kernel
theorem dc_M_begin_14 : decode bc_M_begin 14 = .ok (.lastore, 1) := by decide +kernel
theorem dc_M_begin_15 : decode bc_M_begin 15 = .ok (.iinc 1 1, 3) := by decide +kernel
theorem dc_M_begin_18 : decode bc_M_begin 18 = .ok (.goto (-16), 3) := by decide +kernel
theorem dc_M_begin_21 : decode bc_M_begin 21 = .ok (.return_, 1) := by decide +kernel
theorem dc_M_makePairs_0 : decode bc_M_makePairs 0 = .ok (.aload_n 0, 1) := by decide +kernel
theorem dc_M_makePairs_1 : decode bc_M_makePairs 1 = .ok (.aload_n 0, 1) := by decide +kernel
theorem dc_M_makePairs_2 : decode bc_M_makePairs 2 = .ok (.getfield 19, 3) := by decide +kernel
theorem dc_M_makePairs_5 : decode bc_M_makePairs 5 = .ok (.iload_n 1, 1) := by decide +kernel
theorem dc_M_makePairs_6 : decode bc_M_makePairs 6 = .ok (.invokevirtual 64, 3) := by decide +kernel
theorem dc_M_makePairs_9 : decode bc_M_makePairs 9 = .ok (.aload_n 0, 1) := by decide +kernel
theorem dc_M_makePairs_10 : decode bc_M_makePairs 10 = .ok (.aload_n 0, 1) := by decide +kernel
theorem dc_M_makePairs_11 : decode bc_M_makePairs 11 = .ok (.getfield 23, 3) := by decide +kernel
theorem dc_M_makePairs_14 : decode bc_M_makePairs 14 = .ok (.iload_n 2, 1) := by decide +kernel
theorem dc_M_makePairs_15 : decode bc_M_makePairs 15 = .ok (.invokevirtual 64, 3) := by decide +kernel
theorem dc_M_makePairs_18 : decode bc_M_makePairs 18 = .ok (.aload_n 0, 1) := by decide +kernel
theorem dc_M_makePairs_19 : decode bc_M_makePairs 19 = .ok (.getfield 19, 3) := by decide +kernel
theorem dc_M_makePairs_22 : decode bc_M_makePairs 22 = .ok (.iload_n 3, 1) := by decide +kernel
theorem dc_M_makePairs_23 : decode bc_M_makePairs 23 = .ok (.invokestatic 68, 3) := by decide +kernel
theorem dc_M_makePairs_26 : decode bc_M_makePairs 26 = .ok (.aload_n 0, 1) := by decide +kernel
theorem dc_M_makePairs_27 : decode bc_M_makePairs 27 = .ok (.getfield 23, 3) := by decide +kernel
theorem dc_M_makePairs_30 : decode bc_M_makePairs 30 = .ok (.iload_n 3, 1) := by decide +kernel
theorem dc_M_makePairs_31 : decode bc_M_makePairs 31 = .ok (.invokestatic 68, 3) := by decide +kernel
theorem dc_M_makePairs_34 : decode bc_M_makePairs 34 = .ok (.iconst 0, 1) := by decide +kernel
theorem dc_M_makePairs_35 : decode bc_M_makePairs 35 = .ok (.istore 4, 2) := by decide +kernel
theorem dc_M_makePairs_37 : decode bc_M_makePairs 37 = .ok (.iload 4, 2) := by decide +kernel
theorem dc_M_makePairs_39 : decode bc_M_makePairs 39 = .ok (.sipush 4096, 3) := by decide +kernel
theorem dc_M_makePairs_42 : decode bc_M_makePairs 42 = .ok (.if_icmp .ge 31, 3) := by decide +kernel
theorem dc_M_makePairs_45 : decode bc_M_makePairs 45 = .ok (.aload_n 0, 1) := by decide +kernel
theorem dc_M_makePairs_46 : decode bc_M_makePairs 46 = .ok (.getfield 19, 3) := by decide +kernel
theorem dc_M_makePairs_49 : decode bc_M_makePairs 49 = .ok (.iload 4, 2) := by decide +kernel
theorem dc_M_makePairs_51 : decode bc_M_makePairs 51 = .ok (.aload_n 0, 1) := by decide +kernel
theorem dc_M_makePairs_52 : decode bc_M_makePairs 52 = .ok (.getfield 19, 3) := by decide +kernel
theorem dc_M_makePairs_55 : decode bc_M_makePairs 55 = .ok (.iload 4, 2) := by decide +kernel
theorem dc_M_makePairs_57 : decode bc_M_makePairs 57 = .ok (.iaload, 1) := by decide +kernel
theorem dc_M_makePairs_58 : decode bc_M_makePairs 58 = .ok (.aload_n 0, 1) := by decide +kernel
theorem dc_M_makePairs_59 : decode bc_M_makePairs 59 = .ok (.getfield 23, 3) := by decide +kernel
theorem dc_M_makePairs_62 : decode bc_M_makePairs 62 = .ok (.iload 4, 2) := by decide +kernel
theorem dc_M_makePairs_64 : decode bc_M_makePairs 64 = .ok (.iaload, 1) := by decide +kernel
theorem dc_M_makePairs_65 : decode bc_M_makePairs 65 = .ok (.imul, 1) := by decide +kernel
theorem dc_M_makePairs_66 : decode bc_M_makePairs 66 = .ok (.iastore, 1) := by decide +kernel
theorem dc_M_makePairs_67 : decode bc_M_makePairs 67 = .ok (.iinc 4 1, 3) := by decide +kernel
theorem dc_M_makePairs_70 : decode bc_M_makePairs 70 = .ok (.goto (-33), 3) := by decide +kernel
theorem dc_M_makePairs_73 : decode bc_M_makePairs 73 = .ok (.aload_n 0, 1) := by decide +kernel
theorem dc_M_makePairs_74 : decode bc_M_makePairs 74 = .ok (.getfield 19, 3) := by decide +kernel
theorem dc_M_makePairs_77 : decode bc_M_makePairs 77 = .ok (.iload_n 3, 1) := by decide +kernel
theorem dc_M_makePairs_78 : decode bc_M_makePairs 78 = .ok (.invokestatic 72, 3) := by decide +kernel
theorem dc_M_makePairs_81 : decode bc_M_makePairs 81 = .ok (.iconst 0, 1) := by decide +kernel
theorem dc_M_makePairs_82 : decode bc_M_makePairs 82 = .ok (.istore 4, 2) := by decide +kernel
theorem dc_M_makePairs_84 : decode bc_M_makePairs 84 = .ok (.iload 4, 2) := by decide +kernel
theorem dc_M_makePairs_86 : decode bc_M_makePairs 86 = .ok (.sipush 4096, 3) := by decide +kernel
theorem dc_M_makePairs_89 : decode bc_M_makePairs 89 = .ok (.if_icmp .ge 25, 3) := by decide +kernel
theorem dc_M_makePairs_92 : decode bc_M_makePairs 92 = .ok (.aload_n 0, 1) := by decide +kernel
theorem dc_M_makePairs_93 : decode bc_M_makePairs 93 = .ok (.getfield 19, 3) := by decide +kernel
theorem dc_M_makePairs_96 : decode bc_M_makePairs 96 = .ok (.iload 4, 2) := by decide +kernel
theorem dc_M_makePairs_98 : decode bc_M_makePairs 98 = .ok (.iaload, 1) := by decide +kernel
theorem dc_M_makePairs_99 : decode bc_M_makePairs 99 = .ok (.ifCond .le 9, 3) := by decide +kernel
theorem dc_M_makePairs_102 : decode bc_M_makePairs 102 = .ok (.aload_n 0, 1) := by decide +kernel
theorem dc_M_makePairs_103 : decode bc_M_makePairs 103 = .ok (.iload 4, 2) := by decide +kernel
theorem dc_M_makePairs_105 : decode bc_M_makePairs 105 = .ok (.invokevirtual 75, 3) := by decide +kernel
theorem dc_M_makePairs_108 : decode bc_M_makePairs 108 = .ok (.iinc 4 1, 3) := by decide +kernel
theorem dc_M_makePairs_111 : decode bc_M_makePairs 111 = .ok (.goto (-27), 3) := by decide +kernel
theorem dc_M_makePairs_114 : decode bc_M_makePairs 114 = .ok (.return_, 1) := by decide +kernel
theorem dc_M_load_0 : decode bc_M_load 0 = .ok (.iconst 0, 1) := by decide +kernel
theorem dc_M_load_1 : decode bc_M_load 1 = .ok (.istore_n 3, 1) := by decide +kernel
theorem dc_M_load_2 : decode bc_M_load 2 = .ok (.iload_n 3, 1) := by decide +kernel
theorem dc_M_load_3 : decode bc_M_load 3 = .ok (.sipush 4096, 3) := by decide +kernel
theorem dc_M_load_6 : decode bc_M_load 6 = .ok (.if_icmp .ge 26, 3) := by decide +kernel
theorem dc_M_load_9 : decode bc_M_load 9 = .ok (.aload_n 1, 1) := by decide +kernel
theorem dc_M_load_10 : decode bc_M_load 10 = .ok (.iload_n 3, 1) := by decide +kernel
theorem dc_M_load_11 : decode bc_M_load 11 = .ok (.aload_n 0, 1) := by decide +kernel
theorem dc_M_load_12 : decode bc_M_load 12 = .ok (.iload_n 2, 1) := by decide +kernel
theorem dc_M_load_13 : decode bc_M_load 13 = .ok (.iload_n 3, 1) := by decide +kernel
theorem dc_M_load_14 : decode bc_M_load 14 = .ok (.invokevirtual 58, 3) := by decide +kernel
theorem dc_M_load_17 : decode bc_M_load 17 = .ok (.ifCond .eq 7, 3) := by decide +kernel
theorem dc_M_load_20 : decode bc_M_load 20 = .ok (.iconst 1, 1) := by decide +kernel
theorem dc_M_load_21 : decode bc_M_load 21 = .ok (.goto 4, 3) := by decide +kernel
theorem dc_M_load_24 : decode bc_M_load 24 = .ok (.iconst 0, 1) := by decide +kernel
theorem dc_M_load_25 : decode bc_M_load 25 = .ok (.iastore, 1) := by decide +kernel
theorem dc_M_load_26 : decode bc_M_load 26 = .ok (.iinc 3 1, 3) := by decide +kernel
theorem dc_M_load_29 : decode bc_M_load 29 = .ok (.goto (-27), 3) := by decide +kernel
theorem dc_M_load_32 : decode bc_M_load 32 = .ok (.return_, 1) := by decide +kernel
theorem dc_M_sum_0 : decode bc_M_sum 0 = .ok (.iconst 1, 1) := by decide +kernel
theorem dc_M_sum_1 : decode bc_M_sum 1 = .ok (.istore_n 2, 1) := by decide +kernel
theorem dc_M_sum_2 : decode bc_M_sum 2 = .ok (.iload_n 2, 1) := by decide +kernel
theorem dc_M_sum_3 : decode bc_M_sum 3 = .ok (.sipush 4096, 3) := by decide +kernel
theorem dc_M_sum_6 : decode bc_M_sum 6 = .ok (.if_icmp .ge 67, 3) := by decide +kernel
theorem dc_M_sum_9 : decode bc_M_sum 9 = .ok (.iconst 0, 1) := by decide +kernel
theorem dc_M_sum_10 : decode bc_M_sum 10 = .ok (.istore_n 3, 1) := by decide +kernel
theorem dc_M_sum_11 : decode bc_M_sum 11 = .ok (.iload_n 3, 1) := by decide +kernel
theorem dc_M_sum_12 : decode bc_M_sum 12 = .ok (.sipush 4096, 3) := by decide +kernel
theorem dc_M_sum_15 : decode bc_M_sum 15 = .ok (.if_icmp .ge 51, 3) := by decide +kernel
theorem dc_M_sum_18 : decode bc_M_sum 18 = .ok (.iload_n 3, 1) := by decide +kernel
theorem dc_M_sum_19 : decode bc_M_sum 19 = .ok (.iload_n 2, 1) := by decide +kernel
theorem dc_M_sum_20 : decode bc_M_sum 20 = .ok (.iand, 1) := by decide +kernel
theorem dc_M_sum_21 : decode bc_M_sum 21 = .ok (.ifCond .ne 18, 3) := by decide +kernel
theorem dc_M_sum_24 : decode bc_M_sum 24 = .ok (.iload_n 1, 1) := by decide +kernel
theorem dc_M_sum_25 : decode bc_M_sum 25 = .ok (.ifCond .eq 14, 3) := by decide +kernel
theorem dc_M_sum_28 : decode bc_M_sum 28 = .ok (.aload_n 0, 1) := by decide +kernel
theorem dc_M_sum_29 : decode bc_M_sum 29 = .ok (.iload_n 3, 1) := by decide +kernel
theorem dc_M_sum_30 : decode bc_M_sum 30 = .ok (.dup2, 1) := by decide +kernel
theorem dc_M_sum_31 : decode bc_M_sum 31 = .ok (.iaload, 1) := by decide +kernel
theorem dc_M_sum_32 : decode bc_M_sum 32 = .ok (.aload_n 0, 1) := by decide +kernel
theorem dc_M_sum_33 : decode bc_M_sum 33 = .ok (.iload_n 3, 1) := by decide +kernel
theorem dc_M_sum_34 : decode bc_M_sum 34 = .ok (.iload_n 2, 1) := by decide +kernel
theorem dc_M_sum_35 : decode bc_M_sum 35 = .ok (.ior, 1) := by decide +kernel
theorem dc_M_sum_36 : decode bc_M_sum 36 = .ok (.iaload, 1) := by decide +kernel
theorem dc_M_sum_37 : decode bc_M_sum 37 = .ok (.iadd, 1) := by decide +kernel
theorem dc_M_sum_38 : decode bc_M_sum 38 = .ok (.iastore, 1) := by decide +kernel
theorem dc_M_sum_39 : decode bc_M_sum 39 = .ok (.iload_n 3, 1) := by decide +kernel
theorem dc_M_sum_40 : decode bc_M_sum 40 = .ok (.iload_n 2, 1) := by decide +kernel
theorem dc_M_sum_41 : decode bc_M_sum 41 = .ok (.iand, 1) := by decide +kernel
theorem dc_M_sum_42 : decode bc_M_sum 42 = .ok (.ifCond .eq 18, 3) := by decide +kernel
theorem dc_M_sum_45 : decode bc_M_sum 45 = .ok (.iload_n 1, 1) := by decide +kernel
theorem dc_M_sum_46 : decode bc_M_sum 46 = .ok (.ifCond .ne 14, 3) := by decide +kernel
theorem dc_M_sum_49 : decode bc_M_sum 49 = .ok (.aload_n 0, 1) := by decide +kernel
theorem dc_M_sum_50 : decode bc_M_sum 50 = .ok (.iload_n 3, 1) := by decide +kernel
theorem dc_M_sum_51 : decode bc_M_sum 51 = .ok (.dup2, 1) := by decide +kernel
theorem dc_M_sum_52 : decode bc_M_sum 52 = .ok (.iaload, 1) := by decide +kernel
theorem dc_M_sum_53 : decode bc_M_sum 53 = .ok (.aload_n 0, 1) := by decide +kernel
theorem dc_M_sum_54 : decode bc_M_sum 54 = .ok (.iload_n 3, 1) := by decide +kernel
theorem dc_M_sum_55 : decode bc_M_sum 55 = .ok (.iload_n 2, 1) := by decide +kernel
theorem dc_M_sum_56 : decode bc_M_sum 56 = .ok (.ixor, 1) := by decide +kernel
theorem dc_M_sum_57 : decode bc_M_sum 57 = .ok (.iaload, 1) := by decide +kernel
theorem dc_M_sum_58 : decode bc_M_sum 58 = .ok (.iadd, 1) := by decide +kernel
theorem dc_M_sum_59 : decode bc_M_sum 59 = .ok (.iastore, 1) := by decide +kernel
theorem dc_M_sum_60 : decode bc_M_sum 60 = .ok (.iinc 3 1, 3) := by decide +kernel
theorem dc_M_sum_63 : decode bc_M_sum 63 = .ok (.goto (-52), 3) := by decide +kernel
theorem dc_M_sum_66 : decode bc_M_sum 66 = .ok (.iload_n 2, 1) := by decide +kernel
theorem dc_M_sum_67 : decode bc_M_sum 67 = .ok (.iconst 1, 1) := by decide +kernel
theorem dc_M_sum_68 : decode bc_M_sum 68 = .ok (.ishl, 1) := by decide +kernel
theorem dc_M_sum_69 : decode bc_M_sum 69 = .ok (.istore_n 2, 1) := by decide +kernel
theorem dc_M_sum_70 : decode bc_M_sum 70 = .ok (.goto (-68), 3) := by decide +kernel
theorem dc_M_sum_73 : decode bc_M_sum 73 = .ok (.return_, 1) := by decide +kernel
theorem dc_M_part_0 : decode bc_M_part 0 = .ok (.iconst 1, 1) := by decide +kernel
theorem dc_M_part_1 : decode bc_M_part 1 = .ok (.istore_n 2, 1) := by decide +kernel
theorem dc_M_part_2 : decode bc_M_part 2 = .ok (.iload_n 2, 1) := by decide +kernel
theorem dc_M_part_3 : decode bc_M_part 3 = .ok (.sipush 4096, 3) := by decide +kernel
theorem dc_M_part_6 : decode bc_M_part 6 = .ok (.if_icmp .ge 67, 3) := by decide +kernel
theorem dc_M_part_9 : decode bc_M_part 9 = .ok (.iconst 0, 1) := by decide +kernel
theorem dc_M_part_10 : decode bc_M_part 10 = .ok (.istore_n 3, 1) := by decide +kernel
theorem dc_M_part_11 : decode bc_M_part 11 = .ok (.iload_n 3, 1) := by decide +kernel
theorem dc_M_part_12 : decode bc_M_part 12 = .ok (.sipush 4096, 3) := by decide +kernel
theorem dc_M_part_15 : decode bc_M_part 15 = .ok (.if_icmp .ge 51, 3) := by decide +kernel
theorem dc_M_part_18 : decode bc_M_part 18 = .ok (.iload_n 3, 1) := by decide +kernel
theorem dc_M_part_19 : decode bc_M_part 19 = .ok (.iload_n 2, 1) := by decide +kernel
theorem dc_M_part_20 : decode bc_M_part 20 = .ok (.iand, 1) := by decide +kernel
theorem dc_M_part_21 : decode bc_M_part 21 = .ok (.ifCond .ne 18, 3) := by decide +kernel
theorem dc_M_part_24 : decode bc_M_part 24 = .ok (.iload_n 1, 1) := by decide +kernel
theorem dc_M_part_25 : decode bc_M_part 25 = .ok (.ifCond .eq 14, 3) := by decide +kernel
theorem dc_M_part_28 : decode bc_M_part 28 = .ok (.aload_n 0, 1) := by decide +kernel
theorem dc_M_part_29 : decode bc_M_part 29 = .ok (.iload_n 3, 1) := by decide +kernel
theorem dc_M_part_30 : decode bc_M_part 30 = .ok (.dup2, 1) := by decide +kernel
theorem dc_M_part_31 : decode bc_M_part 31 = .ok (.iaload, 1) := by decide +kernel
theorem dc_M_part_32 : decode bc_M_part 32 = .ok (.aload_n 0, 1) := by decide +kernel
theorem dc_M_part_33 : decode bc_M_part 33 = .ok (.iload_n 3, 1) := by decide +kernel
theorem dc_M_part_34 : decode bc_M_part 34 = .ok (.iload_n 2, 1) := by decide +kernel
theorem dc_M_part_35 : decode bc_M_part 35 = .ok (.ior, 1) := by decide +kernel
theorem dc_M_part_36 : decode bc_M_part 36 = .ok (.iaload, 1) := by decide +kernel
theorem dc_M_part_37 : decode bc_M_part 37 = .ok (.isub, 1) := by decide +kernel
theorem dc_M_part_38 : decode bc_M_part 38 = .ok (.iastore, 1) := by decide +kernel
theorem dc_M_part_39 : decode bc_M_part 39 = .ok (.iload_n 3, 1) := by decide +kernel
theorem dc_M_part_40 : decode bc_M_part 40 = .ok (.iload_n 2, 1) := by decide +kernel
theorem dc_M_part_41 : decode bc_M_part 41 = .ok (.iand, 1) := by decide +kernel
theorem dc_M_part_42 : decode bc_M_part 42 = .ok (.ifCond .eq 18, 3) := by decide +kernel
theorem dc_M_part_45 : decode bc_M_part 45 = .ok (.iload_n 1, 1) := by decide +kernel
theorem dc_M_part_46 : decode bc_M_part 46 = .ok (.ifCond .ne 14, 3) := by decide +kernel
theorem dc_M_part_49 : decode bc_M_part 49 = .ok (.aload_n 0, 1) := by decide +kernel
theorem dc_M_part_50 : decode bc_M_part 50 = .ok (.iload_n 3, 1) := by decide +kernel
theorem dc_M_part_51 : decode bc_M_part 51 = .ok (.dup2, 1) := by decide +kernel
theorem dc_M_part_52 : decode bc_M_part 52 = .ok (.iaload, 1) := by decide +kernel
theorem dc_M_part_53 : decode bc_M_part 53 = .ok (.aload_n 0, 1) := by decide +kernel
theorem dc_M_part_54 : decode bc_M_part 54 = .ok (.iload_n 3, 1) := by decide +kernel
theorem dc_M_part_55 : decode bc_M_part 55 = .ok (.iload_n 2, 1) := by decide +kernel
theorem dc_M_part_56 : decode bc_M_part 56 = .ok (.ixor, 1) := by decide +kernel
theorem dc_M_part_57 : decode bc_M_part 57 = .ok (.iaload, 1) := by decide +kernel
theorem dc_M_part_58 : decode bc_M_part 58 = .ok (.isub, 1) := by decide +kernel
theorem dc_M_part_59 : decode bc_M_part 59 = .ok (.iastore, 1) := by decide +kernel
theorem dc_M_part_60 : decode bc_M_part 60 = .ok (.iinc 3 1, 3) := by decide +kernel
theorem dc_M_part_63 : decode bc_M_part 63 = .ok (.goto (-52), 3) := by decide +kernel
theorem dc_M_part_66 : decode bc_M_part 66 = .ok (.iload_n 2, 1) := by decide +kernel
theorem dc_M_part_67 : decode bc_M_part 67 = .ok (.iconst 1, 1) := by decide +kernel
theorem dc_M_part_68 : decode bc_M_part 68 = .ok (.ishl, 1) := by decide +kernel
theorem dc_M_part_69 : decode bc_M_part 69 = .ok (.istore_n 2, 1) := by decide +kernel
theorem dc_M_part_70 : decode bc_M_part 70 = .ok (.goto (-68), 3) := by decide +kernel
theorem dc_M_part_73 : decode bc_M_part 73 = .ok (.return_, 1) := by decide +kernel
theorem dc_M_make_0 : decode bc_M_make 0 = .ok (.aload_n 0, 1) := by decide +kernel
theorem dc_M_make_1 : decode bc_M_make 1 = .ok (.getfield 13, 3) := by decide +kernel
theorem dc_M_make_4 : decode bc_M_make 4 = .ok (.iload_n 1, 1) := by decide +kernel
theorem dc_M_make_5 : decode bc_M_make 5 = .ok (.bipush 64, 2) := by decide +kernel
theorem dc_M_make_7 : decode bc_M_make 7 = .ok (.idiv, 1) := by decide +kernel
theorem dc_M_make_8 : decode bc_M_make 8 = .ok (.aload_n 0, 1) := by decide +kernel
theorem dc_M_make_9 : decode bc_M_make 9 = .ok (.getfield 13, 3) := by decide +kernel
theorem dc_M_make_12 : decode bc_M_make 12 = .ok (.iload_n 1, 1) := by decide +kernel
theorem dc_M_make_13 : decode bc_M_make 13 = .ok (.bipush 64, 2) := by decide +kernel
theorem dc_M_make_15 : decode bc_M_make 15 = .ok (.idiv, 1) := by decide +kernel
theorem dc_M_make_16 : decode bc_M_make 16 = .ok (.laload, 1) := by decide +kernel
theorem dc_M_make_17 : decode bc_M_make 17 = .ok (.lconst 1, 1) := by decide +kernel
theorem dc_M_make_18 : decode bc_M_make 18 = .ok (.iload_n 1, 1) := by decide +kernel
theorem dc_M_make_19 : decode bc_M_make 19 = .ok (.bipush 64, 2) := by decide +kernel
theorem dc_M_make_21 : decode bc_M_make 21 = .ok (.irem, 1) := by decide +kernel
theorem dc_M_make_22 : decode bc_M_make 22 = .ok (.lshl, 1) := by decide +kernel
theorem dc_M_make_23 : decode bc_M_make 23 = .ok (.lor, 1) := by decide +kernel
theorem dc_M_make_24 : decode bc_M_make 24 = .ok (.lastore, 1) := by decide +kernel
theorem dc_M_make_25 : decode bc_M_make 25 = .ok (.return_, 1) := by decide +kernel
theorem dc_M_makeFree_0 : decode bc_M_makeFree 0 = .ok (.aload_n 0, 1) := by decide +kernel
theorem dc_M_makeFree_1 : decode bc_M_makeFree 1 = .ok (.aload_n 0, 1) := by decide +kernel
theorem dc_M_makeFree_2 : decode bc_M_makeFree 2 = .ok (.getfield 23, 3) := by decide +kernel
theorem dc_M_makeFree_5 : decode bc_M_makeFree 5 = .ok (.iload_n 2, 1) := by decide +kernel
theorem dc_M_makeFree_6 : decode bc_M_makeFree 6 = .ok (.invokevirtual 64, 3) := by decide +kernel
theorem dc_M_makeFree_9 : decode bc_M_makeFree 9 = .ok (.aload_n 0, 1) := by decide +kernel
theorem dc_M_makeFree_10 : decode bc_M_makeFree 10 = .ok (.getfield 23, 3) := by decide +kernel
theorem dc_M_makeFree_13 : decode bc_M_makeFree 13 = .ok (.iload_n 3, 1) := by decide +kernel
theorem dc_M_makeFree_14 : decode bc_M_makeFree 14 = .ok (.invokestatic 68, 3) := by decide +kernel
theorem dc_M_makeFree_17 : decode bc_M_makeFree 17 = .ok (.iconst 0, 1) := by decide +kernel
theorem dc_M_makeFree_18 : decode bc_M_makeFree 18 = .ok (.istore 4, 2) := by decide +kernel
theorem dc_M_makeFree_20 : decode bc_M_makeFree 20 = .ok (.iload 4, 2) := by decide +kernel
theorem dc_M_makeFree_22 : decode bc_M_makeFree 22 = .ok (.sipush 4096, 3) := by decide +kernel
theorem dc_M_makeFree_25 : decode bc_M_makeFree 25 = .ok (.if_icmp .ge 35, 3) := by decide +kernel
theorem dc_M_makeFree_28 : decode bc_M_makeFree 28 = .ok (.aload_n 0, 1) := by decide +kernel
theorem dc_M_makeFree_29 : decode bc_M_makeFree 29 = .ok (.iload_n 1, 1) := by decide +kernel
theorem dc_M_makeFree_30 : decode bc_M_makeFree 30 = .ok (.iload 4, 2) := by decide +kernel
theorem dc_M_makeFree_32 : decode bc_M_makeFree 32 = .ok (.invokevirtual 58, 3) := by decide +kernel
theorem dc_M_makeFree_35 : decode bc_M_makeFree 35 = .ok (.ifCond .eq 19, 3) := by decide +kernel
theorem dc_M_makeFree_38 : decode bc_M_makeFree 38 = .ok (.aload_n 0, 1) := by decide +kernel
theorem dc_M_makeFree_39 : decode bc_M_makeFree 39 = .ok (.getfield 23, 3) := by decide +kernel
theorem dc_M_makeFree_42 : decode bc_M_makeFree 42 = .ok (.iload 4, 2) := by decide +kernel
theorem dc_M_makeFree_44 : decode bc_M_makeFree 44 = .ok (.iaload, 1) := by decide +kernel
theorem dc_M_makeFree_45 : decode bc_M_makeFree 45 = .ok (.ifCond .ne 9, 3) := by decide +kernel
theorem dc_M_makeFree_48 : decode bc_M_makeFree 48 = .ok (.aload_n 0, 1) := by decide +kernel
theorem dc_M_makeFree_49 : decode bc_M_makeFree 49 = .ok (.iload 4, 2) := by decide +kernel
theorem dc_M_makeFree_51 : decode bc_M_makeFree 51 = .ok (.invokevirtual 75, 3) := by decide +kernel
theorem dc_M_makeFree_54 : decode bc_M_makeFree 54 = .ok (.iinc 4 1, 3) := by decide +kernel
theorem dc_M_makeFree_57 : decode bc_M_makeFree 57 = .ok (.goto (-37), 3) := by decide +kernel
theorem dc_M_makeFree_60 : decode bc_M_makeFree 60 = .ok (.return_, 1) := by decide +kernel
theorem dc_M_makeQuotient_0 : decode bc_M_makeQuotient 0 = .ok (.iconst 0, 1) := by decide +kernel
theorem dc_M_makeQuotient_1 : decode bc_M_makeQuotient 1 = .ok (.istore_n 3, 1) := by decide +kernel
theorem dc_M_makeQuotient_2 : decode bc_M_makeQuotient 2 = .ok (.iconst 0, 1) := by decide +kernel
theorem dc_M_makeQuotient_3 : decode bc_M_makeQuotient 3 = .ok (.istore 4, 2) := by decide +kernel
theorem dc_M_makeQuotient_5 : decode bc_M_makeQuotient 5 = .ok (.iload 4, 2) := by decide +kernel
theorem dc_M_makeQuotient_7 : decode bc_M_makeQuotient 7 = .ok (.sipush 4096, 3) := by decide +kernel
theorem dc_M_makeQuotient_10 : decode bc_M_makeQuotient 10 = .ok (.if_icmp .ge 28, 3) := by decide +kernel
theorem dc_M_makeQuotient_13 : decode bc_M_makeQuotient 13 = .ok (.aload_n 0, 1) := by decide +kernel
theorem dc_M_makeQuotient_14 : decode bc_M_makeQuotient 14 = .ok (.iload_n 2, 1) := by decide +kernel
theorem dc_M_makeQuotient_15 : decode bc_M_makeQuotient 15 = .ok (.iload 4, 2) := by decide +kernel
theorem dc_M_makeQuotient_17 : decode bc_M_makeQuotient 17 = .ok (.invokevirtual 58, 3) := by decide +kernel
theorem dc_M_makeQuotient_20 : decode bc_M_makeQuotient 20 = .ok (.ifCond .eq 10, 3) := by decide +kernel
theorem dc_M_makeQuotient_23 : decode bc_M_makeQuotient 23 = .ok (.iload_n 3, 1) := by decide +kernel
theorem dc_M_makeQuotient_24 : decode bc_M_makeQuotient 24 = .ok (.iload 4, 2) := by decide +kernel
theorem dc_M_makeQuotient_26 : decode bc_M_makeQuotient 26 = .ok (.ior, 1) := by decide +kernel
theorem dc_M_makeQuotient_27 : decode bc_M_makeQuotient 27 = .ok (.goto 4, 3) := by decide +kernel
theorem dc_M_makeQuotient_30 : decode bc_M_makeQuotient 30 = .ok (.iload_n 3, 1) := by decide +kernel
theorem dc_M_makeQuotient_31 : decode bc_M_makeQuotient 31 = .ok (.istore_n 3, 1) := by decide +kernel
theorem dc_M_makeQuotient_32 : decode bc_M_makeQuotient 32 = .ok (.iinc 4 1, 3) := by decide +kernel
theorem dc_M_makeQuotient_35 : decode bc_M_makeQuotient 35 = .ok (.goto (-30), 3) := by decide +kernel
theorem dc_M_makeQuotient_38 : decode bc_M_makeQuotient 38 = .ok (.iconst 0, 1) := by decide +kernel
theorem dc_M_makeQuotient_39 : decode bc_M_makeQuotient 39 = .ok (.istore 4, 2) := by decide +kernel
theorem dc_M_makeQuotient_41 : decode bc_M_makeQuotient 41 = .ok (.iload 4, 2) := by decide +kernel
theorem dc_M_makeQuotient_43 : decode bc_M_makeQuotient 43 = .ok (.sipush 4096, 3) := by decide +kernel
theorem dc_M_makeQuotient_46 : decode bc_M_makeQuotient 46 = .ok (.if_icmp .ge 97, 3) := by decide +kernel
theorem dc_M_makeQuotient_49 : decode bc_M_makeQuotient 49 = .ok (.iload 4, 2) := by decide +kernel
theorem dc_M_makeQuotient_51 : decode bc_M_makeQuotient 51 = .ok (.iload_n 3, 1) := by decide +kernel
theorem dc_M_makeQuotient_52 : decode bc_M_makeQuotient 52 = .ok (.iand, 1) := by decide +kernel
theorem dc_M_makeQuotient_53 : decode bc_M_makeQuotient 53 = .ok (.ifCond .ne 7, 3) := by decide +kernel
theorem dc_M_makeQuotient_56 : decode bc_M_makeQuotient 56 = .ok (.iconst 1, 1) := by decide +kernel
theorem dc_M_makeQuotient_57 : decode bc_M_makeQuotient 57 = .ok (.goto 4, 3) := by decide +kernel
theorem dc_M_makeQuotient_60 : decode bc_M_makeQuotient 60 = .ok (.iconst 0, 1) := by decide +kernel
theorem dc_M_makeQuotient_61 : decode bc_M_makeQuotient 61 = .ok (.istore 5, 2) := by decide +kernel
theorem dc_M_makeQuotient_63 : decode bc_M_makeQuotient 63 = .ok (.iload_n 3, 1) := by decide +kernel
theorem dc_M_makeQuotient_64 : decode bc_M_makeQuotient 64 = .ok (.istore 6, 2) := by decide +kernel
theorem dc_M_makeQuotient_66 : decode bc_M_makeQuotient 66 = .ok (.iload 5, 2) := by decide +kernel
theorem dc_M_makeQuotient_68 : decode bc_M_makeQuotient 68 = .ok (.ifCond .eq 58, 3) := by decide +kernel
theorem dc_M_makeQuotient_71 : decode bc_M_makeQuotient 71 = .ok (.iload 6, 2) := by decide +kernel
theorem dc_M_makeQuotient_73 : decode bc_M_makeQuotient 73 = .ok (.ifCond .lt 53, 3) := by decide +kernel
theorem dc_M_makeQuotient_76 : decode bc_M_makeQuotient 76 = .ok (.aload_n 0, 1) := by decide +kernel
theorem dc_M_makeQuotient_77 : decode bc_M_makeQuotient 77 = .ok (.iload_n 2, 1) := by decide +kernel
theorem dc_M_makeQuotient_78 : decode bc_M_makeQuotient 78 = .ok (.iload 6, 2) := by decide +kernel
theorem dc_M_makeQuotient_80 : decode bc_M_makeQuotient 80 = .ok (.invokevirtual 58, 3) := by decide +kernel
theorem dc_M_makeQuotient_83 : decode bc_M_makeQuotient 83 = .ok (.ifCond .eq 16, 3) := by decide +kernel
theorem dc_M_makeQuotient_86 : decode bc_M_makeQuotient 86 = .ok (.aload_n 0, 1) := by decide +kernel
theorem dc_M_makeQuotient_87 : decode bc_M_makeQuotient 87 = .ok (.iload_n 1, 1) := by decide +kernel
theorem dc_M_makeQuotient_88 : decode bc_M_makeQuotient 88 = .ok (.iload 4, 2) := by decide +kernel
theorem dc_M_makeQuotient_90 : decode bc_M_makeQuotient 90 = .ok (.iload 6, 2) := by decide +kernel
theorem dc_M_makeQuotient_92 : decode bc_M_makeQuotient 92 = .ok (.ior, 1) := by decide +kernel
theorem dc_M_makeQuotient_93 : decode bc_M_makeQuotient 93 = .ok (.invokevirtual 58, 3) := by decide +kernel
theorem dc_M_makeQuotient_96 : decode bc_M_makeQuotient 96 = .ok (.ifCond .eq 7, 3) := by decide +kernel
theorem dc_M_makeQuotient_99 : decode bc_M_makeQuotient 99 = .ok (.iconst 1, 1) := by decide +kernel
theorem dc_M_makeQuotient_100 : decode bc_M_makeQuotient 100 = .ok (.goto 4, 3) := by decide +kernel
theorem dc_M_makeQuotient_103 : decode bc_M_makeQuotient 103 = .ok (.iconst 0, 1) := by decide +kernel
theorem dc_M_makeQuotient_104 : decode bc_M_makeQuotient 104 = .ok (.istore 5, 2) := by decide +kernel
theorem dc_M_makeQuotient_106 : decode bc_M_makeQuotient 106 = .ok (.iload 6, 2) := by decide +kernel
theorem dc_M_makeQuotient_108 : decode bc_M_makeQuotient 108 = .ok (.ifCond .ne 7, 3) := by decide +kernel
theorem dc_M_makeQuotient_111 : decode bc_M_makeQuotient 111 = .ok (.iconst (-1), 1) := by decide +kernel
theorem dc_M_makeQuotient_112 : decode bc_M_makeQuotient 112 = .ok (.goto 9, 3) := by decide +kernel
theorem dc_M_makeQuotient_115 : decode bc_M_makeQuotient 115 = .ok (.iload 6, 2) := by decide +kernel
theorem dc_M_makeQuotient_117 : decode bc_M_makeQuotient 117 = .ok (.iconst 1, 1) := by decide +kernel
theorem dc_M_makeQuotient_118 : decode bc_M_makeQuotient 118 = .ok (.isub, 1) := by decide +kernel
theorem dc_M_makeQuotient_119 : decode bc_M_makeQuotient 119 = .ok (.iload_n 3, 1) := by decide +kernel
theorem dc_M_makeQuotient_120 : decode bc_M_makeQuotient 120 = .ok (.iand, 1) := by decide +kernel
theorem dc_M_makeQuotient_121 : decode bc_M_makeQuotient 121 = .ok (.istore 6, 2) := by decide +kernel
theorem dc_M_makeQuotient_123 : decode bc_M_makeQuotient 123 = .ok (.goto (-57), 3) := by decide +kernel
theorem dc_M_makeQuotient_126 : decode bc_M_makeQuotient 126 = .ok (.iload 5, 2) := by decide +kernel
theorem dc_M_makeQuotient_128 : decode bc_M_makeQuotient 128 = .ok (.ifCond .eq 9, 3) := by decide +kernel
theorem dc_M_makeQuotient_131 : decode bc_M_makeQuotient 131 = .ok (.aload_n 0, 1) := by decide +kernel
theorem dc_M_makeQuotient_132 : decode bc_M_makeQuotient 132 = .ok (.iload 4, 2) := by decide +kernel
theorem dc_M_makeQuotient_134 : decode bc_M_makeQuotient 134 = .ok (.invokevirtual 75, 3) := by decide +kernel
theorem dc_M_makeQuotient_137 : decode bc_M_makeQuotient 137 = .ok (.iinc 4 1, 3) := by decide +kernel
theorem dc_M_makeQuotient_140 : decode bc_M_makeQuotient 140 = .ok (.goto (-99), 3) := by decide +kernel
theorem dc_M_makeQuotient_143 : decode bc_M_makeQuotient 143 = .ok (.return_, 1) := by decide +kernel
theorem dc_M_makeRemainder_0 : decode bc_M_makeRemainder 0 = .ok (.aload_n 0, 1) := by decide +kernel
theorem dc_M_makeRemainder_1 : decode bc_M_makeRemainder 1 = .ok (.iload_n 1, 1) := by decide +kernel
theorem dc_M_makeRemainder_2 : decode bc_M_makeRemainder 2 = .ok (.iload_n 2, 1) := by decide +kernel
theorem dc_M_makeRemainder_3 : decode bc_M_makeRemainder 3 = .ok (.invokevirtual 79, 3) := by decide +kernel
theorem dc_M_makeRemainder_6 : decode bc_M_makeRemainder 6 = .ok (.iconst 0, 1) := by decide +kernel
theorem dc_M_makeRemainder_7 : decode bc_M_makeRemainder 7 = .ok (.istore_n 3, 1) := by decide +kernel
theorem dc_M_makeRemainder_8 : decode bc_M_makeRemainder 8 = .ok (.iload_n 3, 1) := by decide +kernel
theorem dc_M_makeRemainder_9 : decode bc_M_makeRemainder 9 = .ok (.bipush 64, 2) := by decide +kernel
theorem dc_M_makeRemainder_11 : decode bc_M_makeRemainder 11 = .ok (.if_icmp .ge 38, 3) := by decide +kernel
theorem dc_M_makeRemainder_14 : decode bc_M_makeRemainder 14 = .ok (.aload_n 0, 1) := by decide +kernel
theorem dc_M_makeRemainder_15 : decode bc_M_makeRemainder 15 = .ok (.getfield 16, 3) := by decide +kernel
theorem dc_M_makeRemainder_18 : decode bc_M_makeRemainder 18 = .ok (.iload_n 3, 1) := by decide +kernel
theorem dc_M_makeRemainder_19 : decode bc_M_makeRemainder 19 = .ok (.aload_n 0, 1) := by decide +kernel
theorem dc_M_makeRemainder_20 : decode bc_M_makeRemainder 20 = .ok (.getfield 13, 3) := by decide +kernel
theorem dc_M_makeRemainder_23 : decode bc_M_makeRemainder 23 = .ok (.iload_n 3, 1) := by decide +kernel
theorem dc_M_makeRemainder_24 : decode bc_M_makeRemainder 24 = .ok (.laload, 1) := by decide +kernel
theorem dc_M_makeRemainder_25 : decode bc_M_makeRemainder 25 = .ok (.lastore, 1) := by decide +kernel
theorem dc_M_makeRemainder_26 : decode bc_M_makeRemainder 26 = .ok (.aload_n 0, 1) := by decide +kernel
theorem dc_M_makeRemainder_27 : decode bc_M_makeRemainder 27 = .ok (.getfield 13, 3) := by decide +kernel
theorem dc_M_makeRemainder_30 : decode bc_M_makeRemainder 30 = .ok (.iload_n 3, 1) := by decide +kernel
theorem dc_M_makeRemainder_31 : decode bc_M_makeRemainder 31 = .ok (.aload_n 0, 1) := by decide +kernel
theorem dc_M_makeRemainder_32 : decode bc_M_makeRemainder 32 = .ok (.getfield 7, 3) := by decide +kernel
theorem dc_M_makeRemainder_35 : decode bc_M_makeRemainder 35 = .ok (.bipush 64, 2) := by decide +kernel
theorem dc_M_makeRemainder_37 : decode bc_M_makeRemainder 37 = .ok (.iload_n 1, 1) := by decide +kernel
theorem dc_M_makeRemainder_38 : decode bc_M_makeRemainder 38 = .ok (.imul, 1) := by decide +kernel
theorem dc_M_makeRemainder_39 : decode bc_M_makeRemainder 39 = .ok (.iload_n 3, 1) := by decide +kernel
theorem dc_M_makeRemainder_40 : decode bc_M_makeRemainder 40 = .ok (.iadd, 1) := by decide +kernel
theorem dc_M_makeRemainder_41 : decode bc_M_makeRemainder 41 = .ok (.laload, 1) := by decide +kernel
theorem dc_M_makeRemainder_42 : decode bc_M_makeRemainder 42 = .ok (.lastore, 1) := by decide +kernel
theorem dc_M_makeRemainder_43 : decode bc_M_makeRemainder 43 = .ok (.iinc 3 1, 3) := by decide +kernel
theorem dc_M_makeRemainder_46 : decode bc_M_makeRemainder 46 = .ok (.goto (-38), 3) := by decide +kernel
theorem dc_M_makeRemainder_49 : decode bc_M_makeRemainder 49 = .ok (.iconst 0, 1) := by decide +kernel
theorem dc_M_makeRemainder_50 : decode bc_M_makeRemainder 50 = .ok (.istore_n 3, 1) := by decide +kernel
theorem dc_M_makeRemainder_51 : decode bc_M_makeRemainder 51 = .ok (.iconst 0, 1) := by decide +kernel
theorem dc_M_makeRemainder_52 : decode bc_M_makeRemainder 52 = .ok (.istore 4, 2) := by decide +kernel
theorem dc_M_makeRemainder_54 : decode bc_M_makeRemainder 54 = .ok (.iload 4, 2) := by decide +kernel
theorem dc_M_makeRemainder_56 : decode bc_M_makeRemainder 56 = .ok (.sipush 4096, 3) := by decide +kernel
theorem dc_M_makeRemainder_59 : decode bc_M_makeRemainder 59 = .ok (.if_icmp .ge 28, 3) := by decide +kernel
theorem dc_M_makeRemainder_62 : decode bc_M_makeRemainder 62 = .ok (.aload_n 0, 1) := by decide +kernel
theorem dc_M_makeRemainder_63 : decode bc_M_makeRemainder 63 = .ok (.iload_n 2, 1) := by decide +kernel
theorem dc_M_makeRemainder_64 : decode bc_M_makeRemainder 64 = .ok (.iload 4, 2) := by decide +kernel
theorem dc_M_makeRemainder_66 : decode bc_M_makeRemainder 66 = .ok (.invokevirtual 58, 3) := by decide +kernel
theorem dc_M_makeRemainder_69 : decode bc_M_makeRemainder 69 = .ok (.ifCond .eq 10, 3) := by decide +kernel
theorem dc_M_makeRemainder_72 : decode bc_M_makeRemainder 72 = .ok (.iload_n 3, 1) := by decide +kernel
theorem dc_M_makeRemainder_73 : decode bc_M_makeRemainder 73 = .ok (.iload 4, 2) := by decide +kernel
theorem dc_M_makeRemainder_75 : decode bc_M_makeRemainder 75 = .ok (.ior, 1) := by decide +kernel
theorem dc_M_makeRemainder_76 : decode bc_M_makeRemainder 76 = .ok (.goto 4, 3) := by decide +kernel
theorem dc_M_makeRemainder_79 : decode bc_M_makeRemainder 79 = .ok (.iload_n 3, 1) := by decide +kernel
theorem dc_M_makeRemainder_80 : decode bc_M_makeRemainder 80 = .ok (.istore_n 3, 1) := by decide +kernel
theorem dc_M_makeRemainder_81 : decode bc_M_makeRemainder 81 = .ok (.iinc 4 1, 3) := by decide +kernel
theorem dc_M_makeRemainder_84 : decode bc_M_makeRemainder 84 = .ok (.goto (-30), 3) := by decide +kernel
theorem dc_M_makeRemainder_87 : decode bc_M_makeRemainder 87 = .ok (.iconst 0, 1) := by decide +kernel
theorem dc_M_makeRemainder_88 : decode bc_M_makeRemainder 88 = .ok (.istore 4, 2) := by decide +kernel
theorem dc_M_makeRemainder_90 : decode bc_M_makeRemainder 90 = .ok (.iload 4, 2) := by decide +kernel
theorem dc_M_makeRemainder_92 : decode bc_M_makeRemainder 92 = .ok (.sipush 4096, 3) := by decide +kernel
theorem dc_M_makeRemainder_95 : decode bc_M_makeRemainder 95 = .ok (.if_icmp .ge 121, 3) := by decide +kernel
theorem dc_M_makeRemainder_98 : decode bc_M_makeRemainder 98 = .ok (.aload_n 0, 1) := by decide +kernel
theorem dc_M_makeRemainder_99 : decode bc_M_makeRemainder 99 = .ok (.getfield 16, 3) := by decide +kernel
theorem dc_M_makeRemainder_102 : decode bc_M_makeRemainder 102 = .ok (.iload 4, 2) := by decide +kernel
theorem dc_M_makeRemainder_104 : decode bc_M_makeRemainder 104 = .ok (.bipush 64, 2) := by decide +kernel
theorem dc_M_makeRemainder_106 : decode bc_M_makeRemainder 106 = .ok (.idiv, 1) := by decide +kernel
theorem dc_M_makeRemainder_107 : decode bc_M_makeRemainder 107 = .ok (.laload, 1) := by decide +kernel
theorem dc_M_makeRemainder_108 : decode bc_M_makeRemainder 108 = .ok (.iload 4, 2) := by decide +kernel
theorem dc_M_makeRemainder_110 : decode bc_M_makeRemainder 110 = .ok (.bipush 64, 2) := by decide +kernel
theorem dc_M_makeRemainder_112 : decode bc_M_makeRemainder 112 = .ok (.irem, 1) := by decide +kernel
theorem dc_M_makeRemainder_113 : decode bc_M_makeRemainder 113 = .ok (.lshr, 1) := by decide +kernel
theorem dc_M_makeRemainder_114 : decode bc_M_makeRemainder 114 = .ok (.lconst 1, 1) := by decide +kernel
theorem dc_M_makeRemainder_115 : decode bc_M_makeRemainder 115 = .ok (.land, 1) := by decide +kernel
theorem dc_M_makeRemainder_116 : decode bc_M_makeRemainder 116 = .ok (.lconst 1, 1) := by decide +kernel
theorem dc_M_makeRemainder_117 : decode bc_M_makeRemainder 117 = .ok (.lcmp, 1) := by decide +kernel
theorem dc_M_makeRemainder_118 : decode bc_M_makeRemainder 118 = .ok (.ifCond .ne 7, 3) := by decide +kernel
theorem dc_M_makeRemainder_121 : decode bc_M_makeRemainder 121 = .ok (.iconst 1, 1) := by decide +kernel
theorem dc_M_makeRemainder_122 : decode bc_M_makeRemainder 122 = .ok (.goto 4, 3) := by decide +kernel
theorem dc_M_makeRemainder_125 : decode bc_M_makeRemainder 125 = .ok (.iconst 0, 1) := by decide +kernel
theorem dc_M_makeRemainder_126 : decode bc_M_makeRemainder 126 = .ok (.istore 5, 2) := by decide +kernel
theorem dc_M_makeRemainder_128 : decode bc_M_makeRemainder 128 = .ok (.iload_n 3, 1) := by decide +kernel
theorem dc_M_makeRemainder_129 : decode bc_M_makeRemainder 129 = .ok (.istore 6, 2) := by decide +kernel
theorem dc_M_makeRemainder_131 : decode bc_M_makeRemainder 131 = .ok (.iload 5, 2) := by decide +kernel
theorem dc_M_makeRemainder_133 : decode bc_M_makeRemainder 133 = .ok (.ifCond .eq 77, 3) := by decide +kernel
theorem dc_M_makeRemainder_136 : decode bc_M_makeRemainder 136 = .ok (.iload 6, 2) := by decide +kernel
theorem dc_M_makeRemainder_138 : decode bc_M_makeRemainder 138 = .ok (.ifCond .lt 72, 3) := by decide +kernel
theorem dc_M_makeRemainder_141 : decode bc_M_makeRemainder 141 = .ok (.iload 4, 2) := by decide +kernel
theorem dc_M_makeRemainder_143 : decode bc_M_makeRemainder 143 = .ok (.iload 6, 2) := by decide +kernel
theorem dc_M_makeRemainder_145 : decode bc_M_makeRemainder 145 = .ok (.ior, 1) := by decide +kernel
theorem dc_M_makeRemainder_146 : decode bc_M_makeRemainder 146 = .ok (.istore 7, 2) := by decide +kernel
theorem dc_M_makeRemainder_148 : decode bc_M_makeRemainder 148 = .ok (.aload_n 0, 1) := by decide +kernel
theorem dc_M_makeRemainder_149 : decode bc_M_makeRemainder 149 = .ok (.iload_n 2, 1) := by decide +kernel
theorem dc_M_makeRemainder_150 : decode bc_M_makeRemainder 150 = .ok (.iload 6, 2) := by decide +kernel
theorem dc_M_makeRemainder_152 : decode bc_M_makeRemainder 152 = .ok (.invokevirtual 58, 3) := by decide +kernel
theorem dc_M_makeRemainder_155 : decode bc_M_makeRemainder 155 = .ok (.ifCond .eq 35, 3) := by decide +kernel
theorem dc_M_makeRemainder_158 : decode bc_M_makeRemainder 158 = .ok (.aload_n 0, 1) := by decide +kernel
theorem dc_M_makeRemainder_159 : decode bc_M_makeRemainder 159 = .ok (.getfield 13, 3) := by decide +kernel
theorem dc_M_makeRemainder_162 : decode bc_M_makeRemainder 162 = .ok (.iload 7, 2) := by decide +kernel
theorem dc_M_makeRemainder_164 : decode bc_M_makeRemainder 164 = .ok (.bipush 64, 2) := by decide +kernel
theorem dc_M_makeRemainder_166 : decode bc_M_makeRemainder 166 = .ok (.idiv, 1) := by decide +kernel
theorem dc_M_makeRemainder_167 : decode bc_M_makeRemainder 167 = .ok (.aload_n 0, 1) := by decide +kernel
theorem dc_M_makeRemainder_168 : decode bc_M_makeRemainder 168 = .ok (.getfield 13, 3) := by decide +kernel
theorem dc_M_makeRemainder_171 : decode bc_M_makeRemainder 171 = .ok (.iload 7, 2) := by decide +kernel
theorem dc_M_makeRemainder_173 : decode bc_M_makeRemainder 173 = .ok (.bipush 64, 2) := by decide +kernel
theorem dc_M_makeRemainder_175 : decode bc_M_makeRemainder 175 = .ok (.idiv, 1) := by decide +kernel
theorem dc_M_makeRemainder_176 : decode bc_M_makeRemainder 176 = .ok (.laload, 1) := by decide +kernel
theorem dc_M_makeRemainder_177 : decode bc_M_makeRemainder 177 = .ok (.lconst 1, 1) := by decide +kernel
theorem dc_M_makeRemainder_178 : decode bc_M_makeRemainder 178 = .ok (.iload 7, 2) := by decide +kernel
theorem dc_M_makeRemainder_180 : decode bc_M_makeRemainder 180 = .ok (.bipush 64, 2) := by decide +kernel
theorem dc_M_makeRemainder_182 : decode bc_M_makeRemainder 182 = .ok (.irem, 1) := by decide +kernel
theorem dc_M_makeRemainder_183 : decode bc_M_makeRemainder 183 = .ok (.lshl, 1) := by decide +kernel
theorem dc_M_makeRemainder_184 : decode bc_M_makeRemainder 184 = .ok (.ldc2_w 62, 3) := by decide +kernel
theorem dc_M_makeRemainder_187 : decode bc_M_makeRemainder 187 = .ok (.lxor, 1) := by decide +kernel
theorem dc_M_makeRemainder_188 : decode bc_M_makeRemainder 188 = .ok (.land, 1) := by decide +kernel
theorem dc_M_makeRemainder_189 : decode bc_M_makeRemainder 189 = .ok (.lastore, 1) := by decide +kernel
theorem dc_M_makeRemainder_190 : decode bc_M_makeRemainder 190 = .ok (.iload 6, 2) := by decide +kernel
theorem dc_M_makeRemainder_192 : decode bc_M_makeRemainder 192 = .ok (.ifCond .ne 7, 3) := by decide +kernel
theorem dc_M_makeRemainder_195 : decode bc_M_makeRemainder 195 = .ok (.iconst (-1), 1) := by decide +kernel
theorem dc_M_makeRemainder_196 : decode bc_M_makeRemainder 196 = .ok (.goto 9, 3) := by decide +kernel
theorem dc_M_makeRemainder_199 : decode bc_M_makeRemainder 199 = .ok (.iload 6, 2) := by decide +kernel
theorem dc_M_makeRemainder_201 : decode bc_M_makeRemainder 201 = .ok (.iconst 1, 1) := by decide +kernel
theorem dc_M_makeRemainder_202 : decode bc_M_makeRemainder 202 = .ok (.isub, 1) := by decide +kernel
theorem dc_M_makeRemainder_203 : decode bc_M_makeRemainder 203 = .ok (.iload_n 3, 1) := by decide +kernel
theorem dc_M_makeRemainder_204 : decode bc_M_makeRemainder 204 = .ok (.iand, 1) := by decide +kernel
theorem dc_M_makeRemainder_205 : decode bc_M_makeRemainder 205 = .ok (.istore 6, 2) := by decide +kernel
theorem dc_M_makeRemainder_207 : decode bc_M_makeRemainder 207 = .ok (.goto (-76), 3) := by decide +kernel
theorem dc_M_makeRemainder_210 : decode bc_M_makeRemainder 210 = .ok (.iinc 4 1, 3) := by decide +kernel
theorem dc_M_makeRemainder_213 : decode bc_M_makeRemainder 213 = .ok (.goto (-123), 3) := by decide +kernel
theorem dc_M_makeRemainder_216 : decode bc_M_makeRemainder 216 = .ok (.return_, 1) := by decide +kernel
theorem dc_M_lay_0 : decode bc_M_lay 0 = .ok (.iconst 0, 1) := by decide +kernel
theorem dc_M_lay_1 : decode bc_M_lay 1 = .ok (.istore_n 2, 1) := by decide +kernel
theorem dc_M_lay_2 : decode bc_M_lay 2 = .ok (.iload_n 2, 1) := by decide +kernel
theorem dc_M_lay_3 : decode bc_M_lay 3 = .ok (.bipush 64, 2) := by decide +kernel
theorem dc_M_lay_5 : decode bc_M_lay 5 = .ok (.if_icmp .ge 26, 3) := by decide +kernel
theorem dc_M_lay_8 : decode bc_M_lay 8 = .ok (.aload_n 0, 1) := by decide +kernel
theorem dc_M_lay_9 : decode bc_M_lay 9 = .ok (.getfield 7, 3) := by decide +kernel
theorem dc_M_lay_12 : decode bc_M_lay 12 = .ok (.bipush 64, 2) := by decide +kernel
theorem dc_M_lay_14 : decode bc_M_lay 14 = .ok (.iload_n 1, 1) := by decide +kernel
theorem dc_M_lay_15 : decode bc_M_lay 15 = .ok (.imul, 1) := by decide +kernel
theorem dc_M_lay_16 : decode bc_M_lay 16 = .ok (.iload_n 2, 1) := by decide +kernel
theorem dc_M_lay_17 : decode bc_M_lay 17 = .ok (.iadd, 1) := by decide +kernel
theorem dc_M_lay_18 : decode bc_M_lay 18 = .ok (.aload_n 0, 1) := by decide +kernel
theorem dc_M_lay_19 : decode bc_M_lay 19 = .ok (.getfield 13, 3) := by decide +kernel
theorem dc_M_lay_22 : decode bc_M_lay 22 = .ok (.iload_n 2, 1) := by decide +kernel
theorem dc_M_lay_23 : decode bc_M_lay 23 = .ok (.laload, 1) := by decide +kernel
theorem dc_M_lay_24 : decode bc_M_lay 24 = .ok (.lastore, 1) := by decide +kernel
theorem dc_M_lay_25 : decode bc_M_lay 25 = .ok (.iinc 2 1, 3) := by decide +kernel
theorem dc_M_lay_28 : decode bc_M_lay 28 = .ok (.goto (-26), 3) := by decide +kernel
theorem dc_M_lay_31 : decode bc_M_lay 31 = .ok (.aload_n 0, 1) := by decide +kernel
theorem dc_M_lay_32 : decode bc_M_lay 32 = .ok (.iload_n 1, 1) := by decide +kernel
theorem dc_M_lay_33 : decode bc_M_lay 33 = .ok (.invokevirtual 43, 3) := by decide +kernel
theorem dc_M_lay_36 : decode bc_M_lay 36 = .ok (.ireturn, 1) := by decide +kernel
theorem dc_M_change_0 : decode bc_M_change 0 = .ok (.aload_n 0, 1) := by decide +kernel
theorem dc_M_change_1 : decode bc_M_change 1 = .ok (.iload_n 1, 1) := by decide +kernel
theorem dc_M_change_2 : decode bc_M_change 2 = .ok (.invokestatic 47, 3) := by decide +kernel
theorem dc_M_change_5 : decode bc_M_change 5 = .ok (.ifCond .ne 18, 3) := by decide +kernel
theorem dc_M_change_8 : decode bc_M_change 8 = .ok (.iload_n 3, 1) := by decide +kernel
theorem dc_M_change_9 : decode bc_M_change 9 = .ok (.invokestatic 47, 3) := by decide +kernel
theorem dc_M_change_12 : decode bc_M_change 12 = .ok (.ifCond .ne 11, 3) := by decide +kernel
theorem dc_M_change_15 : decode bc_M_change 15 = .ok (.iload 4, 2) := by decide +kernel
theorem dc_M_change_17 : decode bc_M_change 17 = .ok (.invokestatic 99, 3) := by decide +kernel
theorem dc_M_change_20 : decode bc_M_change 20 = .ok (.ifCond .eq 7, 3) := by decide +kernel
theorem dc_M_change_23 : decode bc_M_change 23 = .ok (.iconst 1, 1) := by decide +kernel
theorem dc_M_change_24 : decode bc_M_change 24 = .ok (.goto 17, 3) := by decide +kernel
theorem dc_M_change_27 : decode bc_M_change 27 = .ok (.iload_n 2, 1) := by decide +kernel
theorem dc_M_change_28 : decode bc_M_change 28 = .ok (.ifCond .lt 8, 3) := by decide +kernel
theorem dc_M_change_31 : decode bc_M_change 31 = .ok (.iload_n 2, 1) := by decide +kernel
theorem dc_M_change_32 : decode bc_M_change 32 = .ok (.iconst 2, 1) := by decide +kernel
theorem dc_M_change_33 : decode bc_M_change 33 = .ok (.if_icmp .le 7, 3) := by decide +kernel
theorem dc_M_change_36 : decode bc_M_change 36 = .ok (.iconst 2, 1) := by decide +kernel
theorem dc_M_change_37 : decode bc_M_change 37 = .ok (.goto 4, 3) := by decide +kernel
theorem dc_M_change_40 : decode bc_M_change 40 = .ok (.iconst 0, 1) := by decide +kernel
theorem dc_M_change_41 : decode bc_M_change 41 = .ok (.putfield 35, 3) := by decide +kernel
theorem dc_M_change_44 : decode bc_M_change 44 = .ok (.aload_n 0, 1) := by decide +kernel
theorem dc_M_change_45 : decode bc_M_change 45 = .ok (.getfield 35, 3) := by decide +kernel
theorem dc_M_change_48 : decode bc_M_change 48 = .ok (.ifCond .eq 5, 3) := by decide +kernel
theorem dc_M_change_51 : decode bc_M_change 51 = .ok (.iconst 0, 1) := by decide +kernel
theorem dc_M_change_52 : decode bc_M_change 52 = .ok (.ireturn, 1) := by decide +kernel
theorem dc_M_change_53 : decode bc_M_change 53 = .ok (.aload_n 0, 1) := by decide +kernel
theorem dc_M_change_54 : decode bc_M_change 54 = .ok (.invokevirtual 83, 3) := by decide +kernel
theorem dc_M_change_57 : decode bc_M_change 57 = .ok (.iload 4, 2) := by decide +kernel
theorem dc_M_change_59 : decode bc_M_change 59 = .ok (.invokestatic 102, 3) := by decide +kernel
theorem dc_M_change_62 : decode bc_M_change 62 = .ok (.istore 5, 2) := by decide +kernel
theorem dc_M_change_64 : decode bc_M_change 64 = .ok (.iconst 0, 1) := by decide +kernel
theorem dc_M_change_65 : decode bc_M_change 65 = .ok (.istore 6, 2) := by decide +kernel
theorem dc_M_change_67 : decode bc_M_change 67 = .ok (.iload 6, 2) := by decide +kernel
theorem dc_M_change_69 : decode bc_M_change 69 = .ok (.sipush 4096, 3) := by decide +kernel
theorem dc_M_change_72 : decode bc_M_change 72 = .ok (.if_icmp .ge 72, 3) := by decide +kernel
theorem dc_M_change_75 : decode bc_M_change 75 = .ok (.iload 6, 2) := by decide +kernel
theorem dc_M_change_77 : decode bc_M_change 77 = .ok (.iload 5, 2) := by decide +kernel
theorem dc_M_change_79 : decode bc_M_change 79 = .ok (.iand, 1) := by decide +kernel
theorem dc_M_change_80 : decode bc_M_change 80 = .ok (.ifCond .eq 7, 3) := by decide +kernel
theorem dc_M_change_83 : decode bc_M_change 83 = .ok (.iconst 1, 1) := by decide +kernel
theorem dc_M_change_84 : decode bc_M_change 84 = .ok (.goto 4, 3) := by decide +kernel
theorem dc_M_change_87 : decode bc_M_change 87 = .ok (.iconst 0, 1) := by decide +kernel
theorem dc_M_change_88 : decode bc_M_change 88 = .ok (.istore 7, 2) := by decide +kernel
theorem dc_M_change_90 : decode bc_M_change 90 = .ok (.aload_n 0, 1) := by decide +kernel
theorem dc_M_change_91 : decode bc_M_change 91 = .ok (.iload_n 3, 1) := by decide +kernel
theorem dc_M_change_92 : decode bc_M_change 92 = .ok (.iload 6, 2) := by decide +kernel
theorem dc_M_change_94 : decode bc_M_change 94 = .ok (.invokevirtual 58, 3) := by decide +kernel
theorem dc_M_change_97 : decode bc_M_change 97 = .ok (.ifCond .eq 41, 3) := by decide +kernel
theorem dc_M_change_100 : decode bc_M_change 100 = .ok (.iload_n 2, 1) := by decide +kernel
theorem dc_M_change_101 : decode bc_M_change 101 = .ok (.iconst 2, 1) := by decide +kernel
theorem dc_M_change_102 : decode bc_M_change 102 = .ok (.if_icmp .eq 17, 3) := by decide +kernel
theorem dc_M_change_105 : decode bc_M_change 105 = .ok (.iload 7, 2) := by decide +kernel
theorem dc_M_change_107 : decode bc_M_change 107 = .ok (.iload_n 2, 1) := by decide +kernel
theorem dc_M_change_108 : decode bc_M_change 108 = .ok (.ifCond .ne 7, 3) := by decide +kernel
theorem dc_M_change_111 : decode bc_M_change 111 = .ok (.iconst 1, 1) := by decide +kernel
theorem dc_M_change_112 : decode bc_M_change 112 = .ok (.goto 4, 3) := by decide +kernel
theorem dc_M_change_115 : decode bc_M_change 115 = .ok (.iconst 0, 1) := by decide +kernel
theorem dc_M_change_116 : decode bc_M_change 116 = .ok (.if_icmp .ne 22, 3) := by decide +kernel
theorem dc_M_change_119 : decode bc_M_change 119 = .ok (.aload_n 0, 1) := by decide +kernel
theorem dc_M_change_120 : decode bc_M_change 120 = .ok (.iload_n 2, 1) := by decide +kernel
theorem dc_M_change_121 : decode bc_M_change 121 = .ok (.iconst 1, 1) := by decide +kernel
theorem dc_M_change_122 : decode bc_M_change 122 = .ok (.if_icmp .ne 8, 3) := by decide +kernel
theorem dc_M_change_125 : decode bc_M_change 125 = .ok (.iload 6, 2) := by decide +kernel
theorem dc_M_change_127 : decode bc_M_change 127 = .ok (.goto 8, 3) := by decide +kernel
theorem dc_M_change_130 : decode bc_M_change 130 = .ok (.iload 6, 2) := by decide +kernel
theorem dc_M_change_132 : decode bc_M_change 132 = .ok (.iload 5, 2) := by decide +kernel
theorem dc_M_change_134 : decode bc_M_change 134 = .ok (.ixor, 1) := by decide +kernel
theorem dc_M_change_135 : decode bc_M_change 135 = .ok (.invokevirtual 75, 3) := by decide +kernel
theorem dc_M_change_138 : decode bc_M_change 138 = .ok (.iinc 6 1, 3) := by decide +kernel
theorem dc_M_change_141 : decode bc_M_change 141 = .ok (.goto (-74), 3) := by decide +kernel
theorem dc_M_change_144 : decode bc_M_change 144 = .ok (.aload_n 0, 1) := by decide +kernel
theorem dc_M_change_145 : decode bc_M_change 145 = .ok (.iload_n 1, 1) := by decide +kernel
theorem dc_M_change_146 : decode bc_M_change 146 = .ok (.invokevirtual 96, 3) := by decide +kernel
theorem dc_M_change_149 : decode bc_M_change 149 = .ok (.ireturn, 1) := by decide +kernel
theorem dc_M_noElement_0 : decode bc_M_noElement 0 = .ok (.iload_n 0, 1) := by decide +kernel
theorem dc_M_noElement_1 : decode bc_M_noElement 1 = .ok (.ifCond .lt 9, 3) := by decide +kernel
theorem dc_M_noElement_4 : decode bc_M_noElement 4 = .ok (.iload_n 0, 1) := by decide +kernel
theorem dc_M_noElement_5 : decode bc_M_noElement 5 = .ok (.bipush 12, 2) := by decide +kernel
theorem dc_M_noElement_7 : decode bc_M_noElement 7 = .ok (.if_icmp .lt 7, 3) := by decide +kernel
theorem dc_M_noElement_10 : decode bc_M_noElement 10 = .ok (.iconst 1, 1) := by decide +kernel
theorem dc_M_noElement_11 : decode bc_M_noElement 11 = .ok (.goto 4, 3) := by decide +kernel
theorem dc_M_noElement_14 : decode bc_M_noElement 14 = .ok (.iconst 0, 1) := by decide +kernel
theorem dc_M_noElement_15 : decode bc_M_noElement 15 = .ok (.ireturn, 1) := by decide +kernel
theorem dc_M_bitOf_0 : decode bc_M_bitOf 0 = .ok (.iconst 1, 1) := by decide +kernel
theorem dc_M_bitOf_1 : decode bc_M_bitOf 1 = .ok (.bipush 11, 2) := by decide +kernel
theorem dc_M_bitOf_3 : decode bc_M_bitOf 3 = .ok (.iload_n 0, 1) := by decide +kernel
theorem dc_M_bitOf_4 : decode bc_M_bitOf 4 = .ok (.isub, 1) := by decide +kernel
theorem dc_M_bitOf_5 : decode bc_M_bitOf 5 = .ok (.ishl, 1) := by decide +kernel
theorem dc_M_bitOf_6 : decode bc_M_bitOf 6 = .ok (.ireturn, 1) := by decide +kernel
theorem dc_M_extreme_0 : decode bc_M_extreme 0 = .ok (.aload_n 0, 1) := by decide +kernel
theorem dc_M_extreme_1 : decode bc_M_extreme 1 = .ok (.iload_n 1, 1) := by decide +kernel
theorem dc_M_extreme_2 : decode bc_M_extreme 2 = .ok (.invokestatic 47, 3) := by decide +kernel
theorem dc_M_extreme_5 : decode bc_M_extreme 5 = .ok (.ifCond .ne 10, 3) := by decide +kernel
theorem dc_M_extreme_8 : decode bc_M_extreme 8 = .ok (.iload_n 2, 1) := by decide +kernel
theorem dc_M_extreme_9 : decode bc_M_extreme 9 = .ok (.invokestatic 47, 3) := by decide +kernel
theorem dc_M_extreme_12 : decode bc_M_extreme 12 = .ok (.ifCond .eq 7, 3) := by decide +kernel
theorem dc_M_extreme_15 : decode bc_M_extreme 15 = .ok (.iconst 1, 1) := by decide +kernel
theorem dc_M_extreme_16 : decode bc_M_extreme 16 = .ok (.goto 4, 3) := by decide +kernel
theorem dc_M_extreme_19 : decode bc_M_extreme 19 = .ok (.iconst 0, 1) := by decide +kernel
theorem dc_M_extreme_20 : decode bc_M_extreme 20 = .ok (.putfield 35, 3) := by decide +kernel
theorem dc_M_extreme_23 : decode bc_M_extreme 23 = .ok (.aload_n 0, 1) := by decide +kernel
theorem dc_M_extreme_24 : decode bc_M_extreme 24 = .ok (.getfield 35, 3) := by decide +kernel
theorem dc_M_extreme_27 : decode bc_M_extreme 27 = .ok (.ifCond .eq 5, 3) := by decide +kernel
theorem dc_M_extreme_30 : decode bc_M_extreme 30 = .ok (.iconst 0, 1) := by decide +kernel
theorem dc_M_extreme_31 : decode bc_M_extreme 31 = .ok (.ireturn, 1) := by decide +kernel
theorem dc_M_extreme_32 : decode bc_M_extreme 32 = .ok (.aload_n 0, 1) := by decide +kernel
theorem dc_M_extreme_33 : decode bc_M_extreme 33 = .ok (.invokevirtual 83, 3) := by decide +kernel
theorem dc_M_extreme_36 : decode bc_M_extreme 36 = .ok (.aload_n 0, 1) := by decide +kernel
theorem dc_M_extreme_37 : decode bc_M_extreme 37 = .ok (.aload_n 0, 1) := by decide +kernel
theorem dc_M_extreme_38 : decode bc_M_extreme 38 = .ok (.getfield 19, 3) := by decide +kernel
theorem dc_M_extreme_41 : decode bc_M_extreme 41 = .ok (.iload_n 2, 1) := by decide +kernel
theorem dc_M_extreme_42 : decode bc_M_extreme 42 = .ok (.invokevirtual 64, 3) := by decide +kernel
theorem dc_M_extreme_45 : decode bc_M_extreme 45 = .ok (.aload_n 0, 1) := by decide +kernel
theorem dc_M_extreme_46 : decode bc_M_extreme 46 = .ok (.getfield 19, 3) := by decide +kernel
theorem dc_M_extreme_49 : decode bc_M_extreme 49 = .ok (.iload_n 3, 1) := by decide +kernel
theorem dc_M_extreme_50 : decode bc_M_extreme 50 = .ok (.invokestatic 68, 3) := by decide +kernel
theorem dc_M_extreme_53 : decode bc_M_extreme 53 = .ok (.iconst 0, 1) := by decide +kernel
theorem dc_M_extreme_54 : decode bc_M_extreme 54 = .ok (.istore 4, 2) := by decide +kernel
theorem dc_M_extreme_56 : decode bc_M_extreme 56 = .ok (.iload 4, 2) := by decide +kernel
theorem dc_M_extreme_58 : decode bc_M_extreme 58 = .ok (.sipush 4096, 3) := by decide +kernel
theorem dc_M_extreme_61 : decode bc_M_extreme 61 = .ok (.if_icmp .ge 36, 3) := by decide +kernel
theorem dc_M_extreme_64 : decode bc_M_extreme 64 = .ok (.aload_n 0, 1) := by decide +kernel
theorem dc_M_extreme_65 : decode bc_M_extreme 65 = .ok (.iload_n 2, 1) := by decide +kernel
theorem dc_M_extreme_66 : decode bc_M_extreme 66 = .ok (.iload 4, 2) := by decide +kernel
theorem dc_M_extreme_68 : decode bc_M_extreme 68 = .ok (.invokevirtual 58, 3) := by decide +kernel
theorem dc_M_extreme_71 : decode bc_M_extreme 71 = .ok (.ifCond .eq 20, 3) := by decide +kernel
theorem dc_M_extreme_74 : decode bc_M_extreme 74 = .ok (.aload_n 0, 1) := by decide +kernel
theorem dc_M_extreme_75 : decode bc_M_extreme 75 = .ok (.getfield 19, 3) := by decide +kernel
theorem dc_M_extreme_78 : decode bc_M_extreme 78 = .ok (.iload 4, 2) := by decide +kernel
theorem dc_M_extreme_80 : decode bc_M_extreme 80 = .ok (.iaload, 1) := by decide +kernel
theorem dc_M_extreme_81 : decode bc_M_extreme 81 = .ok (.iconst 1, 1) := by decide +kernel
theorem dc_M_extreme_82 : decode bc_M_extreme 82 = .ok (.if_icmp .ne 9, 3) := by decide +kernel
theorem dc_M_extreme_85 : decode bc_M_extreme 85 = .ok (.aload_n 0, 1) := by decide +kernel
theorem dc_M_extreme_86 : decode bc_M_extreme 86 = .ok (.iload 4, 2) := by decide +kernel
theorem dc_M_extreme_88 : decode bc_M_extreme 88 = .ok (.invokevirtual 75, 3) := by decide +kernel
theorem dc_M_extreme_91 : decode bc_M_extreme 91 = .ok (.iinc 4 1, 3) := by decide +kernel
theorem dc_M_extreme_94 : decode bc_M_extreme 94 = .ok (.goto (-38), 3) := by decide +kernel
theorem dc_M_extreme_97 : decode bc_M_extreme 97 = .ok (.aload_n 0, 1) := by decide +kernel
theorem dc_M_extreme_98 : decode bc_M_extreme 98 = .ok (.iload_n 1, 1) := by decide +kernel
theorem dc_M_extreme_99 : decode bc_M_extreme 99 = .ok (.invokevirtual 96, 3) := by decide +kernel
theorem dc_M_extreme_102 : decode bc_M_extreme 102 = .ok (.ireturn, 1) := by decide +kernel
theorem dc_M_sized_0 : decode bc_M_sized 0 = .ok (.aload_n 0, 1) := by decide +kernel
theorem dc_M_sized_1 : decode bc_M_sized 1 = .ok (.iload_n 1, 1) := by decide +kernel
theorem dc_M_sized_2 : decode bc_M_sized 2 = .ok (.invokestatic 47, 3) := by decide +kernel
theorem dc_M_sized_5 : decode bc_M_sized 5 = .ok (.ifCond .ne 10, 3) := by decide +kernel
theorem dc_M_sized_8 : decode bc_M_sized 8 = .ok (.iload_n 2, 1) := by decide +kernel
theorem dc_M_sized_9 : decode bc_M_sized 9 = .ok (.invokestatic 47, 3) := by decide +kernel
theorem dc_M_sized_12 : decode bc_M_sized 12 = .ok (.ifCond .eq 7, 3) := by decide +kernel
theorem dc_M_sized_15 : decode bc_M_sized 15 = .ok (.iconst 1, 1) := by decide +kernel
theorem dc_M_sized_16 : decode bc_M_sized 16 = .ok (.goto 18, 3) := by decide +kernel
theorem dc_M_sized_19 : decode bc_M_sized 19 = .ok (.iload_n 3, 1) := by decide +kernel
theorem dc_M_sized_20 : decode bc_M_sized 20 = .ok (.ifCond .lt 9, 3) := by decide +kernel
theorem dc_M_sized_23 : decode bc_M_sized 23 = .ok (.iload_n 3, 1) := by decide +kernel
theorem dc_M_sized_24 : decode bc_M_sized 24 = .ok (.bipush 12, 2) := by decide +kernel
theorem dc_M_sized_26 : decode bc_M_sized 26 = .ok (.if_icmp .le 7, 3) := by decide +kernel
theorem dc_M_sized_29 : decode bc_M_sized 29 = .ok (.iconst 2, 1) := by decide +kernel
theorem dc_M_sized_30 : decode bc_M_sized 30 = .ok (.goto 4, 3) := by decide +kernel
theorem dc_M_sized_33 : decode bc_M_sized 33 = .ok (.iconst 0, 1) := by decide +kernel
theorem dc_M_sized_34 : decode bc_M_sized 34 = .ok (.putfield 35, 3) := by decide +kernel
theorem dc_M_sized_37 : decode bc_M_sized 37 = .ok (.aload_n 0, 1) := by decide +kernel
theorem dc_M_sized_38 : decode bc_M_sized 38 = .ok (.getfield 35, 3) := by decide +kernel
theorem dc_M_sized_41 : decode bc_M_sized 41 = .ok (.ifCond .eq 5, 3) := by decide +kernel
theorem dc_M_sized_44 : decode bc_M_sized 44 = .ok (.iconst 0, 1) := by decide +kernel
theorem dc_M_sized_45 : decode bc_M_sized 45 = .ok (.ireturn, 1) := by decide +kernel
theorem dc_M_sized_46 : decode bc_M_sized 46 = .ok (.aload_n 0, 1) := by decide +kernel
theorem dc_M_sized_47 : decode bc_M_sized 47 = .ok (.invokevirtual 83, 3) := by decide +kernel
theorem dc_M_sized_50 : decode bc_M_sized 50 = .ok (.iconst 0, 1) := by decide +kernel
theorem dc_M_sized_51 : decode bc_M_sized 51 = .ok (.istore 4, 2) := by decide +kernel
theorem dc_M_sized_53 : decode bc_M_sized 53 = .ok (.iload 4, 2) := by decide +kernel
theorem dc_M_sized_55 : decode bc_M_sized 55 = .ok (.sipush 4096, 3) := by decide +kernel
theorem dc_M_sized_58 : decode bc_M_sized 58 = .ok (.if_icmp .ge 35, 3) := by decide +kernel
theorem dc_M_sized_61 : decode bc_M_sized 61 = .ok (.aload_n 0, 1) := by decide +kernel
theorem dc_M_sized_62 : decode bc_M_sized 62 = .ok (.iload_n 2, 1) := by decide +kernel
theorem dc_M_sized_63 : decode bc_M_sized 63 = .ok (.iload 4, 2) := by decide +kernel
theorem dc_M_sized_65 : decode bc_M_sized 65 = .ok (.invokevirtual 58, 3) := by decide +kernel
theorem dc_M_sized_68 : decode bc_M_sized 68 = .ok (.ifCond .eq 19, 3) := by decide +kernel
theorem dc_M_sized_71 : decode bc_M_sized 71 = .ok (.iload 4, 2) := by decide +kernel
theorem dc_M_sized_73 : decode bc_M_sized 73 = .ok (.i2l, 1) := by decide +kernel
theorem dc_M_sized_74 : decode bc_M_sized 74 = .ok (.invokestatic 39, 3) := by decide +kernel
theorem dc_M_sized_77 : decode bc_M_sized 77 = .ok (.iload_n 3, 1) := by decide +kernel
theorem dc_M_sized_78 : decode bc_M_sized 78 = .ok (.if_icmp .ne 9, 3) := by decide +kernel
theorem dc_M_sized_81 : decode bc_M_sized 81 = .ok (.aload_n 0, 1) := by decide +kernel
theorem dc_M_sized_82 : decode bc_M_sized 82 = .ok (.iload 4, 2) := by decide +kernel
theorem dc_M_sized_84 : decode bc_M_sized 84 = .ok (.invokevirtual 75, 3) := by decide +kernel
theorem dc_M_sized_87 : decode bc_M_sized 87 = .ok (.iinc 4 1, 3) := by decide +kernel
theorem dc_M_sized_90 : decode bc_M_sized 90 = .ok (.goto (-37), 3) := by decide +kernel
theorem dc_M_sized_93 : decode bc_M_sized 93 = .ok (.aload_n 0, 1) := by decide +kernel
theorem dc_M_sized_94 : decode bc_M_sized 94 = .ok (.iload_n 1, 1) := by decide +kernel
theorem dc_M_sized_95 : decode bc_M_sized 95 = .ok (.invokevirtual 96, 3) := by decide +kernel
theorem dc_M_sized_98 : decode bc_M_sized 98 = .ok (.ireturn, 1) := by decide +kernel
theorem dc_M_edge_0 : decode bc_M_edge 0 = .ok (.aload_n 0, 1) := by decide +kernel
theorem dc_M_edge_1 : decode bc_M_edge 1 = .ok (.iload_n 1, 1) := by decide +kernel
theorem dc_M_edge_2 : decode bc_M_edge 2 = .ok (.invokestatic 99, 3) := by decide +kernel
theorem dc_M_edge_5 : decode bc_M_edge 5 = .ok (.ifCond .ne 17, 3) := by decide +kernel
theorem dc_M_edge_8 : decode bc_M_edge 8 = .ok (.iload_n 2, 1) := by decide +kernel
theorem dc_M_edge_9 : decode bc_M_edge 9 = .ok (.invokestatic 105, 3) := by decide +kernel
theorem dc_M_edge_12 : decode bc_M_edge 12 = .ok (.ifCond .ne 10, 3) := by decide +kernel
theorem dc_M_edge_15 : decode bc_M_edge 15 = .ok (.iload_n 3, 1) := by decide +kernel
theorem dc_M_edge_16 : decode bc_M_edge 16 = .ok (.invokestatic 105, 3) := by decide +kernel
theorem dc_M_edge_19 : decode bc_M_edge 19 = .ok (.ifCond .eq 7, 3) := by decide +kernel
theorem dc_M_edge_22 : decode bc_M_edge 22 = .ok (.iconst 1, 1) := by decide +kernel
theorem dc_M_edge_23 : decode bc_M_edge 23 = .ok (.goto 13, 3) := by decide +kernel
theorem dc_M_edge_26 : decode bc_M_edge 26 = .ok (.iload_n 2, 1) := by decide +kernel
theorem dc_M_edge_27 : decode bc_M_edge 27 = .ok (.iload_n 3, 1) := by decide +kernel
theorem dc_M_edge_28 : decode bc_M_edge 28 = .ok (.if_icmp .ne 7, 3) := by decide +kernel
theorem dc_M_edge_31 : decode bc_M_edge 31 = .ok (.iconst 2, 1) := by decide +kernel
theorem dc_M_edge_32 : decode bc_M_edge 32 = .ok (.goto 4, 3) := by decide +kernel
theorem dc_M_edge_35 : decode bc_M_edge 35 = .ok (.iconst 0, 1) := by decide +kernel
theorem dc_M_edge_36 : decode bc_M_edge 36 = .ok (.putfield 35, 3) := by decide +kernel
theorem dc_M_edge_39 : decode bc_M_edge 39 = .ok (.aload_n 0, 1) := by decide +kernel
theorem dc_M_edge_40 : decode bc_M_edge 40 = .ok (.getfield 35, 3) := by decide +kernel
theorem dc_M_edge_43 : decode bc_M_edge 43 = .ok (.ifCond .eq 4, 3) := by decide +kernel
theorem dc_M_edge_46 : decode bc_M_edge 46 = .ok (.return_, 1) := by decide +kernel
theorem dc_M_edge_47 : decode bc_M_edge 47 = .ok (.aload_n 0, 1) := by decide +kernel
theorem dc_M_edge_48 : decode bc_M_edge 48 = .ok (.getfield 26, 3) := by decide +kernel
theorem dc_M_edge_51 : decode bc_M_edge 51 = .ok (.iload_n 1, 1) := by decide +kernel
theorem dc_M_edge_52 : decode bc_M_edge 52 = .ok (.iload_n 2, 1) := by decide +kernel
theorem dc_M_edge_53 : decode bc_M_edge 53 = .ok (.iastore, 1) := by decide +kernel
theorem dc_M_edge_54 : decode bc_M_edge 54 = .ok (.aload_n 0, 1) := by decide +kernel
theorem dc_M_edge_55 : decode bc_M_edge 55 = .ok (.getfield 29, 3) := by decide +kernel
theorem dc_M_edge_58 : decode bc_M_edge 58 = .ok (.iload_n 1, 1) := by decide +kernel
theorem dc_M_edge_59 : decode bc_M_edge 59 = .ok (.iload_n 3, 1) := by decide +kernel
theorem dc_M_edge_60 : decode bc_M_edge 60 = .ok (.iastore, 1) := by decide +kernel
theorem dc_M_edge_61 : decode bc_M_edge 61 = .ok (.return_, 1) := by decide +kernel
theorem dc_M_noVertex_0 : decode bc_M_noVertex 0 = .ok (.iload_n 0, 1) := by decide +kernel
theorem dc_M_noVertex_1 : decode bc_M_noVertex 1 = .ok (.ifCond .lt 9, 3) := by decide +kernel
theorem dc_M_noVertex_4 : decode bc_M_noVertex 4 = .ok (.iload_n 0, 1) := by decide +kernel
theorem dc_M_noVertex_5 : decode bc_M_noVertex 5 = .ok (.bipush 7, 2) := by decide +kernel
theorem dc_M_noVertex_7 : decode bc_M_noVertex 7 = .ok (.if_icmp .lt 7, 3) := by decide +kernel
theorem dc_M_noVertex_10 : decode bc_M_noVertex 10 = .ok (.iconst 1, 1) := by decide +kernel
theorem dc_M_noVertex_11 : decode bc_M_noVertex 11 = .ok (.goto 4, 3) := by decide +kernel
theorem dc_M_noVertex_14 : decode bc_M_noVertex 14 = .ok (.iconst 0, 1) := by decide +kernel
theorem dc_M_noVertex_15 : decode bc_M_noVertex 15 = .ok (.ireturn, 1) := by decide +kernel
theorem dc_M_cut_0 : decode bc_M_cut 0 = .ok (.aload_n 0, 1) := by decide +kernel
theorem dc_M_cut_1 : decode bc_M_cut 1 = .ok (.iload_n 1, 1) := by decide +kernel
theorem dc_M_cut_2 : decode bc_M_cut 2 = .ok (.invokestatic 99, 3) := by decide +kernel
theorem dc_M_cut_5 : decode bc_M_cut 5 = .ok (.ifCond .eq 7, 3) := by decide +kernel
theorem dc_M_cut_8 : decode bc_M_cut 8 = .ok (.iconst 1, 1) := by decide +kernel
theorem dc_M_cut_9 : decode bc_M_cut 9 = .ok (.goto 4, 3) := by decide +kernel
theorem dc_M_cut_12 : decode bc_M_cut 12 = .ok (.iconst 0, 1) := by decide +kernel
theorem dc_M_cut_13 : decode bc_M_cut 13 = .ok (.putfield 35, 3) := by decide +kernel
theorem dc_M_cut_16 : decode bc_M_cut 16 = .ok (.aload_n 0, 1) := by decide +kernel
theorem dc_M_cut_17 : decode bc_M_cut 17 = .ok (.getfield 35, 3) := by decide +kernel
theorem dc_M_cut_20 : decode bc_M_cut 20 = .ok (.ifCond .eq 5, 3) := by decide +kernel
theorem dc_M_cut_23 : decode bc_M_cut 23 = .ok (.iconst 0, 1) := by decide +kernel
theorem dc_M_cut_24 : decode bc_M_cut 24 = .ok (.ireturn, 1) := by decide +kernel
theorem dc_M_cut_25 : decode bc_M_cut 25 = .ok (.aload_n 0, 1) := by decide +kernel
theorem dc_M_cut_26 : decode bc_M_cut 26 = .ok (.getfield 26, 3) := by decide +kernel
theorem dc_M_cut_29 : decode bc_M_cut 29 = .ok (.iload_n 1, 1) := by decide +kernel
theorem dc_M_cut_30 : decode bc_M_cut 30 = .ok (.iaload, 1) := by decide +kernel
theorem dc_M_cut_31 : decode bc_M_cut 31 = .ok (.ifCond .lt 7, 3) := by decide +kernel
theorem dc_M_cut_34 : decode bc_M_cut 34 = .ok (.iconst 1, 1) := by decide +kernel
theorem dc_M_cut_35 : decode bc_M_cut 35 = .ok (.goto 4, 3) := by decide +kernel
theorem dc_M_cut_38 : decode bc_M_cut 38 = .ok (.iconst 0, 1) := by decide +kernel
theorem dc_M_cut_39 : decode bc_M_cut 39 = .ok (.istore_n 2, 1) := by decide +kernel
theorem dc_M_cut_40 : decode bc_M_cut 40 = .ok (.aload_n 0, 1) := by decide +kernel
theorem dc_M_cut_41 : decode bc_M_cut 41 = .ok (.getfield 26, 3) := by decide +kernel
theorem dc_M_cut_44 : decode bc_M_cut 44 = .ok (.iload_n 1, 1) := by decide +kernel
theorem dc_M_cut_45 : decode bc_M_cut 45 = .ok (.iconst (-1), 1) := by decide +kernel
theorem dc_M_cut_46 : decode bc_M_cut 46 = .ok (.iastore, 1) := by decide +kernel
theorem dc_M_cut_47 : decode bc_M_cut 47 = .ok (.iload_n 2, 1) := by decide +kernel
theorem dc_M_cut_48 : decode bc_M_cut 48 = .ok (.ireturn, 1) := by decide +kernel
theorem dc_M_paths_0 : decode bc_M_paths 0 = .ok (.aload_n 0, 1) := by decide +kernel
theorem dc_M_paths_1 : decode bc_M_paths 1 = .ok (.iload_n 1, 1) := by decide +kernel
theorem dc_M_paths_2 : decode bc_M_paths 2 = .ok (.invokestatic 47, 3) := by decide +kernel
theorem dc_M_paths_5 : decode bc_M_paths 5 = .ok (.ifCond .ne 17, 3) := by decide +kernel
theorem dc_M_paths_8 : decode bc_M_paths 8 = .ok (.iload_n 2, 1) := by decide +kernel
theorem dc_M_paths_9 : decode bc_M_paths 9 = .ok (.invokestatic 105, 3) := by decide +kernel
theorem dc_M_paths_12 : decode bc_M_paths 12 = .ok (.ifCond .ne 10, 3) := by decide +kernel
theorem dc_M_paths_15 : decode bc_M_paths 15 = .ok (.iload_n 3, 1) := by decide +kernel
theorem dc_M_paths_16 : decode bc_M_paths 16 = .ok (.invokestatic 105, 3) := by decide +kernel
theorem dc_M_paths_19 : decode bc_M_paths 19 = .ok (.ifCond .eq 7, 3) := by decide +kernel
theorem dc_M_paths_22 : decode bc_M_paths 22 = .ok (.iconst 1, 1) := by decide +kernel
theorem dc_M_paths_23 : decode bc_M_paths 23 = .ok (.goto 4, 3) := by decide +kernel
theorem dc_M_paths_26 : decode bc_M_paths 26 = .ok (.iconst 0, 1) := by decide +kernel
theorem dc_M_paths_27 : decode bc_M_paths 27 = .ok (.putfield 35, 3) := by decide +kernel
theorem dc_M_paths_30 : decode bc_M_paths 30 = .ok (.aload_n 0, 1) := by decide +kernel
theorem dc_M_paths_31 : decode bc_M_paths 31 = .ok (.getfield 35, 3) := by decide +kernel
theorem dc_M_paths_34 : decode bc_M_paths 34 = .ok (.ifCond .eq 5, 3) := by decide +kernel
theorem dc_M_paths_37 : decode bc_M_paths 37 = .ok (.iconst 0, 1) := by decide +kernel
theorem dc_M_paths_38 : decode bc_M_paths 38 = .ok (.ireturn, 1) := by decide +kernel
theorem dc_M_paths_39 : decode bc_M_paths 39 = .ok (.aload_n 0, 1) := by decide +kernel
theorem dc_M_paths_40 : decode bc_M_paths 40 = .ok (.invokevirtual 83, 3) := by decide +kernel
theorem dc_M_paths_43 : decode bc_M_paths 43 = .ok (.iconst 0, 1) := by decide +kernel
theorem dc_M_paths_44 : decode bc_M_paths 44 = .ok (.istore 4, 2) := by decide +kernel
theorem dc_M_paths_46 : decode bc_M_paths 46 = .ok (.iload 4, 2) := by decide +kernel
theorem dc_M_paths_48 : decode bc_M_paths 48 = .ok (.sipush 4096, 3) := by decide +kernel
theorem dc_M_paths_51 : decode bc_M_paths 51 = .ok (.if_icmp .ge 38, 3) := by decide +kernel
theorem dc_M_paths_54 : decode bc_M_paths 54 = .ok (.aload_n 0, 1) := by decide +kernel
theorem dc_M_paths_55 : decode bc_M_paths 55 = .ok (.iload 4, 2) := by decide +kernel
theorem dc_M_paths_57 : decode bc_M_paths 57 = .ok (.invokevirtual 111, 3) := by decide +kernel
theorem dc_M_paths_60 : decode bc_M_paths 60 = .ok (.ifCond .eq 23, 3) := by decide +kernel
theorem dc_M_paths_63 : decode bc_M_paths 63 = .ok (.aload_n 0, 1) := by decide +kernel
theorem dc_M_paths_64 : decode bc_M_paths 64 = .ok (.iload 4, 2) := by decide +kernel
theorem dc_M_paths_66 : decode bc_M_paths 66 = .ok (.iload_n 2, 1) := by decide +kernel
theorem dc_M_paths_67 : decode bc_M_paths 67 = .ok (.iload_n 3, 1) := by decide +kernel
theorem dc_M_paths_68 : decode bc_M_paths 68 = .ok (.invokevirtual 114, 3) := by decide +kernel
theorem dc_M_paths_71 : decode bc_M_paths 71 = .ok (.ifCond .eq 12, 3) := by decide +kernel
theorem dc_M_paths_74 : decode bc_M_paths 74 = .ok (.aload_n 0, 1) := by decide +kernel
theorem dc_M_paths_75 : decode bc_M_paths 75 = .ok (.iload 4, 2) := by decide +kernel
theorem dc_M_paths_77 : decode bc_M_paths 77 = .ok (.invokestatic 55, 3) := by decide +kernel
theorem dc_M_paths_80 : decode bc_M_paths 80 = .ok (.invokevirtual 75, 3) := by decide +kernel
theorem dc_M_paths_83 : decode bc_M_paths 83 = .ok (.iinc 4 1, 3) := by decide +kernel
theorem dc_M_paths_86 : decode bc_M_paths 86 = .ok (.goto (-40), 3) := by decide +kernel
theorem dc_M_paths_89 : decode bc_M_paths 89 = .ok (.aload_n 0, 1) := by decide +kernel
theorem dc_M_paths_90 : decode bc_M_paths 90 = .ok (.iload_n 1, 1) := by decide +kernel
theorem dc_M_paths_91 : decode bc_M_paths 91 = .ok (.invokevirtual 96, 3) := by decide +kernel
theorem dc_M_paths_94 : decode bc_M_paths 94 = .ok (.ireturn, 1) := by decide +kernel
theorem dc_M_areEdges_0 : decode bc_M_areEdges 0 = .ok (.iconst 1, 1) := by decide +kernel
theorem dc_M_areEdges_1 : decode bc_M_areEdges 1 = .ok (.istore_n 2, 1) := by decide +kernel
theorem dc_M_areEdges_2 : decode bc_M_areEdges 2 = .ok (.iconst 0, 1) := by decide +kernel
theorem dc_M_areEdges_3 : decode bc_M_areEdges 3 = .ok (.istore_n 3, 1) := by decide +kernel
theorem dc_M_areEdges_4 : decode bc_M_areEdges 4 = .ok (.iload_n 3, 1) := by decide +kernel
theorem dc_M_areEdges_5 : decode bc_M_areEdges 5 = .ok (.bipush 12, 2) := by decide +kernel
theorem dc_M_areEdges_7 : decode bc_M_areEdges 7 = .ok (.if_icmp .ge 36, 3) := by decide +kernel
theorem dc_M_areEdges_10 : decode bc_M_areEdges 10 = .ok (.iload_n 2, 1) := by decide +kernel
theorem dc_M_areEdges_11 : decode bc_M_areEdges 11 = .ok (.ifCond .eq 24, 3) := by decide +kernel
theorem dc_M_areEdges_14 : decode bc_M_areEdges 14 = .ok (.iload_n 1, 1) := by decide +kernel
theorem dc_M_areEdges_15 : decode bc_M_areEdges 15 = .ok (.iload_n 3, 1) := by decide +kernel
theorem dc_M_areEdges_16 : decode bc_M_areEdges 16 = .ok (.ishr, 1) := by decide +kernel
theorem dc_M_areEdges_17 : decode bc_M_areEdges 17 = .ok (.iconst 1, 1) := by decide +kernel
theorem dc_M_areEdges_18 : decode bc_M_areEdges 18 = .ok (.iand, 1) := by decide +kernel
theorem dc_M_areEdges_19 : decode bc_M_areEdges 19 = .ok (.ifCond .eq 12, 3) := by decide +kernel
theorem dc_M_areEdges_22 : decode bc_M_areEdges 22 = .ok (.aload_n 0, 1) := by decide +kernel
theorem dc_M_areEdges_23 : decode bc_M_areEdges 23 = .ok (.getfield 26, 3) := by decide +kernel
theorem dc_M_areEdges_26 : decode bc_M_areEdges 26 = .ok (.iload_n 3, 1) := by decide +kernel
theorem dc_M_areEdges_27 : decode bc_M_areEdges 27 = .ok (.iaload, 1) := by decide +kernel
theorem dc_M_areEdges_28 : decode bc_M_areEdges 28 = .ok (.ifCond .lt 7, 3) := by decide +kernel
theorem dc_M_areEdges_31 : decode bc_M_areEdges 31 = .ok (.iconst 1, 1) := by decide +kernel
theorem dc_M_areEdges_32 : decode bc_M_areEdges 32 = .ok (.goto 4, 3) := by decide +kernel
theorem dc_M_areEdges_35 : decode bc_M_areEdges 35 = .ok (.iconst 0, 1) := by decide +kernel
theorem dc_M_areEdges_36 : decode bc_M_areEdges 36 = .ok (.istore_n 2, 1) := by decide +kernel
theorem dc_M_areEdges_37 : decode bc_M_areEdges 37 = .ok (.iinc 3 1, 3) := by decide +kernel
theorem dc_M_areEdges_40 : decode bc_M_areEdges 40 = .ok (.goto (-36), 3) := by decide +kernel
theorem dc_M_areEdges_43 : decode bc_M_areEdges 43 = .ok (.iload_n 2, 1) := by decide +kernel
theorem dc_M_areEdges_44 : decode bc_M_areEdges 44 = .ok (.ireturn, 1) := by decide +kernel
theorem dc_M_isPath_0 : decode bc_M_isPath 0 = .ok (.iload_n 1, 1) := by decide +kernel
theorem dc_M_isPath_1 : decode bc_M_isPath 1 = .ok (.istore 4, 2) := by decide +kernel
theorem dc_M_isPath_3 : decode bc_M_isPath 3 = .ok (.iload_n 2, 1) := by decide +kernel
theorem dc_M_isPath_4 : decode bc_M_isPath 4 = .ok (.istore 5, 2) := by decide +kernel
theorem dc_M_isPath_6 : decode bc_M_isPath 6 = .ok (.iconst 1, 1) := by decide +kernel
theorem dc_M_isPath_7 : decode bc_M_isPath 7 = .ok (.iload_n 2, 1) := by decide +kernel
theorem dc_M_isPath_8 : decode bc_M_isPath 8 = .ok (.ishl, 1) := by decide +kernel
theorem dc_M_isPath_9 : decode bc_M_isPath 9 = .ok (.istore 6, 2) := by decide +kernel
theorem dc_M_isPath_11 : decode bc_M_isPath 11 = .ok (.iload 5, 2) := by decide +kernel
theorem dc_M_isPath_13 : decode bc_M_isPath 13 = .ok (.iload_n 3, 1) := by decide +kernel
theorem dc_M_isPath_14 : decode bc_M_isPath 14 = .ok (.if_icmp .eq 85, 3) := by decide +kernel
theorem dc_M_isPath_17 : decode bc_M_isPath 17 = .ok (.aload_n 0, 1) := by decide +kernel
theorem dc_M_isPath_18 : decode bc_M_isPath 18 = .ok (.iload 4, 2) := by decide +kernel
theorem dc_M_isPath_20 : decode bc_M_isPath 20 = .ok (.iload 5, 2) := by decide +kernel
theorem dc_M_isPath_22 : decode bc_M_isPath 22 = .ok (.invokevirtual 108, 3) := by decide +kernel
theorem dc_M_isPath_25 : decode bc_M_isPath 25 = .ok (.istore 7, 2) := by decide +kernel
theorem dc_M_isPath_27 : decode bc_M_isPath 27 = .ok (.iload 7, 2) := by decide +kernel
theorem dc_M_isPath_29 : decode bc_M_isPath 29 = .ok (.ifCond .ge 5, 3) := by decide +kernel
theorem dc_M_isPath_32 : decode bc_M_isPath 32 = .ok (.iconst 0, 1) := by decide +kernel
theorem dc_M_isPath_33 : decode bc_M_isPath 33 = .ok (.ireturn, 1) := by decide +kernel
theorem dc_M_isPath_34 : decode bc_M_isPath 34 = .ok (.aload_n 0, 1) := by decide +kernel
theorem dc_M_isPath_35 : decode bc_M_isPath 35 = .ok (.getfield 26, 3) := by decide +kernel
theorem dc_M_isPath_38 : decode bc_M_isPath 38 = .ok (.iload 7, 2) := by decide +kernel
theorem dc_M_isPath_40 : decode bc_M_isPath 40 = .ok (.iaload, 1) := by decide +kernel
theorem dc_M_isPath_41 : decode bc_M_isPath 41 = .ok (.iload 5, 2) := by decide +kernel
theorem dc_M_isPath_43 : decode bc_M_isPath 43 = .ok (.if_icmp .ne 13, 3) := by decide +kernel
theorem dc_M_isPath_46 : decode bc_M_isPath 46 = .ok (.aload_n 0, 1) := by decide +kernel
theorem dc_M_isPath_47 : decode bc_M_isPath 47 = .ok (.getfield 29, 3) := by decide +kernel
theorem dc_M_isPath_50 : decode bc_M_isPath 50 = .ok (.iload 7, 2) := by decide +kernel
theorem dc_M_isPath_52 : decode bc_M_isPath 52 = .ok (.iaload, 1) := by decide +kernel
theorem dc_M_isPath_53 : decode bc_M_isPath 53 = .ok (.goto 10, 3) := by decide +kernel
theorem dc_M_isPath_56 : decode bc_M_isPath 56 = .ok (.aload_n 0, 1) := by decide +kernel
theorem dc_M_isPath_57 : decode bc_M_isPath 57 = .ok (.getfield 26, 3) := by decide +kernel
theorem dc_M_isPath_60 : decode bc_M_isPath 60 = .ok (.iload 7, 2) := by decide +kernel
theorem dc_M_isPath_62 : decode bc_M_isPath 62 = .ok (.iaload, 1) := by decide +kernel
theorem dc_M_isPath_63 : decode bc_M_isPath 63 = .ok (.istore 5, 2) := by decide +kernel
theorem dc_M_isPath_65 : decode bc_M_isPath 65 = .ok (.iload 4, 2) := by decide +kernel
theorem dc_M_isPath_67 : decode bc_M_isPath 67 = .ok (.iconst 1, 1) := by decide +kernel
theorem dc_M_isPath_68 : decode bc_M_isPath 68 = .ok (.iload 7, 2) := by decide +kernel
theorem dc_M_isPath_70 : decode bc_M_isPath 70 = .ok (.ishl, 1) := by decide +kernel
theorem dc_M_isPath_71 : decode bc_M_isPath 71 = .ok (.ixor, 1) := by decide +kernel
theorem dc_M_isPath_72 : decode bc_M_isPath 72 = .ok (.istore 4, 2) := by decide +kernel
theorem dc_M_isPath_74 : decode bc_M_isPath 74 = .ok (.iload 6, 2) := by decide +kernel
theorem dc_M_isPath_76 : decode bc_M_isPath 76 = .ok (.iload 5, 2) := by decide +kernel
theorem dc_M_isPath_78 : decode bc_M_isPath 78 = .ok (.ishr, 1) := by decide +kernel
theorem dc_M_isPath_79 : decode bc_M_isPath 79 = .ok (.iconst 1, 1) := by decide +kernel
theorem dc_M_isPath_80 : decode bc_M_isPath 80 = .ok (.iand, 1) := by decide +kernel
theorem dc_M_isPath_81 : decode bc_M_isPath 81 = .ok (.iconst 1, 1) := by decide +kernel
theorem dc_M_isPath_82 : decode bc_M_isPath 82 = .ok (.if_icmp .ne 5, 3) := by decide +kernel
theorem dc_M_isPath_85 : decode bc_M_isPath 85 = .ok (.iconst 0, 1) := by decide +kernel
theorem dc_M_isPath_86 : decode bc_M_isPath 86 = .ok (.ireturn, 1) := by decide +kernel
theorem dc_M_isPath_87 : decode bc_M_isPath 87 = .ok (.iload 6, 2) := by decide +kernel
theorem dc_M_isPath_89 : decode bc_M_isPath 89 = .ok (.iconst 1, 1) := by decide +kernel
theorem dc_M_isPath_90 : decode bc_M_isPath 90 = .ok (.iload 5, 2) := by decide +kernel
theorem dc_M_isPath_92 : decode bc_M_isPath 92 = .ok (.ishl, 1) := by decide +kernel
theorem dc_M_isPath_93 : decode bc_M_isPath 93 = .ok (.ior, 1) := by decide +kernel
theorem dc_M_isPath_94 : decode bc_M_isPath 94 = .ok (.istore 6, 2) := by decide +kernel
theorem dc_M_isPath_96 : decode bc_M_isPath 96 = .ok (.goto (-85), 3) := by decide +kernel
theorem dc_M_isPath_99 : decode bc_M_isPath 99 = .ok (.iload 4, 2) := by decide +kernel
theorem dc_M_isPath_101 : decode bc_M_isPath 101 = .ok (.ifCond .ne 7, 3) := by decide +kernel
theorem dc_M_isPath_104 : decode bc_M_isPath 104 = .ok (.iconst 1, 1) := by decide +kernel
theorem dc_M_isPath_105 : decode bc_M_isPath 105 = .ok (.goto 4, 3) := by decide +kernel
theorem dc_M_isPath_108 : decode bc_M_isPath 108 = .ok (.iconst 0, 1) := by decide +kernel
theorem dc_M_isPath_109 : decode bc_M_isPath 109 = .ok (.ireturn, 1) := by decide +kernel
theorem dc_M_onlyEdge_0 : decode bc_M_onlyEdge 0 = .ok (.iconst (-1), 1) := by decide +kernel
theorem dc_M_onlyEdge_1 : decode bc_M_onlyEdge 1 = .ok (.istore_n 3, 1) := by decide +kernel
theorem dc_M_onlyEdge_2 : decode bc_M_onlyEdge 2 = .ok (.iconst 0, 1) := by decide +kernel
theorem dc_M_onlyEdge_3 : decode bc_M_onlyEdge 3 = .ok (.istore 4, 2) := by decide +kernel
theorem dc_M_onlyEdge_5 : decode bc_M_onlyEdge 5 = .ok (.iconst 0, 1) := by decide +kernel
theorem dc_M_onlyEdge_6 : decode bc_M_onlyEdge 6 = .ok (.istore 5, 2) := by decide +kernel
theorem dc_M_onlyEdge_8 : decode bc_M_onlyEdge 8 = .ok (.iload 5, 2) := by decide +kernel
theorem dc_M_onlyEdge_10 : decode bc_M_onlyEdge 10 = .ok (.bipush 12, 2) := by decide +kernel
theorem dc_M_onlyEdge_12 : decode bc_M_onlyEdge 12 = .ok (.if_icmp .ge 47, 3) := by decide +kernel
theorem dc_M_onlyEdge_15 : decode bc_M_onlyEdge 15 = .ok (.iload_n 1, 1) := by decide +kernel
theorem dc_M_onlyEdge_16 : decode bc_M_onlyEdge 16 = .ok (.iload 5, 2) := by decide +kernel
theorem dc_M_onlyEdge_18 : decode bc_M_onlyEdge 18 = .ok (.ishr, 1) := by decide +kernel
theorem dc_M_onlyEdge_19 : decode bc_M_onlyEdge 19 = .ok (.iconst 1, 1) := by decide +kernel
theorem dc_M_onlyEdge_20 : decode bc_M_onlyEdge 20 = .ok (.iand, 1) := by decide +kernel
theorem dc_M_onlyEdge_21 : decode bc_M_onlyEdge 21 = .ok (.iconst 1, 1) := by decide +kernel
theorem dc_M_onlyEdge_22 : decode bc_M_onlyEdge 22 = .ok (.if_icmp .ne 31, 3) := by decide +kernel
theorem dc_M_onlyEdge_25 : decode bc_M_onlyEdge 25 = .ok (.aload_n 0, 1) := by decide +kernel
theorem dc_M_onlyEdge_26 : decode bc_M_onlyEdge 26 = .ok (.getfield 26, 3) := by decide +kernel
theorem dc_M_onlyEdge_29 : decode bc_M_onlyEdge 29 = .ok (.iload 5, 2) := by decide +kernel
theorem dc_M_onlyEdge_31 : decode bc_M_onlyEdge 31 = .ok (.iaload, 1) := by decide +kernel
theorem dc_M_onlyEdge_32 : decode bc_M_onlyEdge 32 = .ok (.iload_n 2, 1) := by decide +kernel
theorem dc_M_onlyEdge_33 : decode bc_M_onlyEdge 33 = .ok (.if_icmp .eq 14, 3) := by decide +kernel
theorem dc_M_onlyEdge_36 : decode bc_M_onlyEdge 36 = .ok (.aload_n 0, 1) := by decide +kernel
theorem dc_M_onlyEdge_37 : decode bc_M_onlyEdge 37 = .ok (.getfield 29, 3) := by decide +kernel
theorem dc_M_onlyEdge_40 : decode bc_M_onlyEdge 40 = .ok (.iload 5, 2) := by decide +kernel
theorem dc_M_onlyEdge_42 : decode bc_M_onlyEdge 42 = .ok (.iaload, 1) := by decide +kernel
theorem dc_M_onlyEdge_43 : decode bc_M_onlyEdge 43 = .ok (.iload_n 2, 1) := by decide +kernel
theorem dc_M_onlyEdge_44 : decode bc_M_onlyEdge 44 = .ok (.if_icmp .ne 9, 3) := by decide +kernel
theorem dc_M_onlyEdge_47 : decode bc_M_onlyEdge 47 = .ok (.iload 5, 2) := by decide +kernel
theorem dc_M_onlyEdge_49 : decode bc_M_onlyEdge 49 = .ok (.istore_n 3, 1) := by decide +kernel
theorem dc_M_onlyEdge_50 : decode bc_M_onlyEdge 50 = .ok (.iinc 4 1, 3) := by decide +kernel
theorem dc_M_onlyEdge_53 : decode bc_M_onlyEdge 53 = .ok (.iinc 5 1, 3) := by decide +kernel
theorem dc_M_onlyEdge_56 : decode bc_M_onlyEdge 56 = .ok (.goto (-48), 3) := by decide +kernel
theorem dc_M_onlyEdge_59 : decode bc_M_onlyEdge 59 = .ok (.iload 4, 2) := by decide +kernel
theorem dc_M_onlyEdge_61 : decode bc_M_onlyEdge 61 = .ok (.iconst 1, 1) := by decide +kernel
theorem dc_M_onlyEdge_62 : decode bc_M_onlyEdge 62 = .ok (.if_icmp .ne 7, 3) := by decide +kernel
theorem dc_M_onlyEdge_65 : decode bc_M_onlyEdge 65 = .ok (.iload_n 3, 1) := by decide +kernel
theorem dc_M_onlyEdge_66 : decode bc_M_onlyEdge 66 = .ok (.goto 4, 3) := by decide +kernel
theorem dc_M_onlyEdge_69 : decode bc_M_onlyEdge 69 = .ok (.iconst (-1), 1) := by decide +kernel
theorem dc_M_onlyEdge_70 : decode bc_M_onlyEdge 70 = .ok (.ireturn, 1) := by decide +kernel
theorem dc_M_matchings_0 : decode bc_M_matchings 0 = .ok (.aload_n 0, 1) := by decide +kernel
theorem dc_M_matchings_1 : decode bc_M_matchings 1 = .ok (.iload_n 1, 1) := by decide +kernel
theorem dc_M_matchings_2 : decode bc_M_matchings 2 = .ok (.invokestatic 47, 3) := by decide +kernel
theorem dc_M_matchings_5 : decode bc_M_matchings 5 = .ok (.ifCond .eq 7, 3) := by decide +kernel
theorem dc_M_matchings_8 : decode bc_M_matchings 8 = .ok (.iconst 1, 1) := by decide +kernel
theorem dc_M_matchings_9 : decode bc_M_matchings 9 = .ok (.goto 4, 3) := by decide +kernel
theorem dc_M_matchings_12 : decode bc_M_matchings 12 = .ok (.iconst 0, 1) := by decide +kernel
theorem dc_M_matchings_13 : decode bc_M_matchings 13 = .ok (.putfield 35, 3) := by decide +kernel
theorem dc_M_matchings_16 : decode bc_M_matchings 16 = .ok (.aload_n 0, 1) := by decide +kernel
theorem dc_M_matchings_17 : decode bc_M_matchings 17 = .ok (.getfield 35, 3) := by decide +kernel
theorem dc_M_matchings_20 : decode bc_M_matchings 20 = .ok (.ifCond .eq 5, 3) := by decide +kernel
theorem dc_M_matchings_23 : decode bc_M_matchings 23 = .ok (.iconst 0, 1) := by decide +kernel
theorem dc_M_matchings_24 : decode bc_M_matchings 24 = .ok (.ireturn, 1) := by decide +kernel
theorem dc_M_matchings_25 : decode bc_M_matchings 25 = .ok (.aload_n 0, 1) := by decide +kernel
theorem dc_M_matchings_26 : decode bc_M_matchings 26 = .ok (.invokevirtual 83, 3) := by decide +kernel
theorem dc_M_matchings_29 : decode bc_M_matchings 29 = .ok (.iconst 0, 1) := by decide +kernel
theorem dc_M_matchings_30 : decode bc_M_matchings 30 = .ok (.istore_n 2, 1) := by decide +kernel
theorem dc_M_matchings_31 : decode bc_M_matchings 31 = .ok (.iload_n 2, 1) := by decide +kernel
theorem dc_M_matchings_32 : decode bc_M_matchings 32 = .ok (.sipush 4096, 3) := by decide +kernel
theorem dc_M_matchings_35 : decode bc_M_matchings 35 = .ok (.if_icmp .ge 33, 3) := by decide +kernel
theorem dc_M_matchings_38 : decode bc_M_matchings 38 = .ok (.aload_n 0, 1) := by decide +kernel
theorem dc_M_matchings_39 : decode bc_M_matchings 39 = .ok (.iload_n 2, 1) := by decide +kernel
theorem dc_M_matchings_40 : decode bc_M_matchings 40 = .ok (.invokevirtual 111, 3) := by decide +kernel
theorem dc_M_matchings_43 : decode bc_M_matchings 43 = .ok (.ifCond .eq 19, 3) := by decide +kernel
theorem dc_M_matchings_46 : decode bc_M_matchings 46 = .ok (.aload_n 0, 1) := by decide +kernel
theorem dc_M_matchings_47 : decode bc_M_matchings 47 = .ok (.iload_n 2, 1) := by decide +kernel
theorem dc_M_matchings_48 : decode bc_M_matchings 48 = .ok (.invokevirtual 118, 3) := by decide +kernel
theorem dc_M_matchings_51 : decode bc_M_matchings 51 = .ok (.ifCond .eq 11, 3) := by decide +kernel
theorem dc_M_matchings_54 : decode bc_M_matchings 54 = .ok (.aload_n 0, 1) := by decide +kernel
theorem dc_M_matchings_55 : decode bc_M_matchings 55 = .ok (.iload_n 2, 1) := by decide +kernel
theorem dc_M_matchings_56 : decode bc_M_matchings 56 = .ok (.invokestatic 55, 3) := by decide +kernel
theorem dc_M_matchings_59 : decode bc_M_matchings 59 = .ok (.invokevirtual 75, 3) := by decide +kernel
theorem dc_M_matchings_62 : decode bc_M_matchings 62 = .ok (.iinc 2 1, 3) := by decide +kernel
theorem dc_M_matchings_65 : decode bc_M_matchings 65 = .ok (.goto (-34), 3) := by decide +kernel
theorem dc_M_matchings_68 : decode bc_M_matchings 68 = .ok (.aload_n 0, 1) := by decide +kernel
theorem dc_M_matchings_69 : decode bc_M_matchings 69 = .ok (.iload_n 1, 1) := by decide +kernel
theorem dc_M_matchings_70 : decode bc_M_matchings 70 = .ok (.invokevirtual 96, 3) := by decide +kernel
theorem dc_M_matchings_73 : decode bc_M_matchings 73 = .ok (.ireturn, 1) := by decide +kernel
theorem dc_M_isMatching_0 : decode bc_M_isMatching 0 = .ok (.iconst 0, 1) := by decide +kernel
theorem dc_M_isMatching_1 : decode bc_M_isMatching 1 = .ok (.istore_n 2, 1) := by decide +kernel
theorem dc_M_isMatching_2 : decode bc_M_isMatching 2 = .ok (.iconst 0, 1) := by decide +kernel
theorem dc_M_isMatching_3 : decode bc_M_isMatching 3 = .ok (.istore_n 3, 1) := by decide +kernel
theorem dc_M_isMatching_4 : decode bc_M_isMatching 4 = .ok (.iload_n 3, 1) := by decide +kernel
theorem dc_M_isMatching_5 : decode bc_M_isMatching 5 = .ok (.bipush 12, 2) := by decide +kernel
theorem dc_M_isMatching_7 : decode bc_M_isMatching 7 = .ok (.if_icmp .ge 53, 3) := by decide +kernel
theorem dc_M_isMatching_10 : decode bc_M_isMatching 10 = .ok (.iload_n 1, 1) := by decide +kernel
theorem dc_M_isMatching_11 : decode bc_M_isMatching 11 = .ok (.iload_n 3, 1) := by decide +kernel
theorem dc_M_isMatching_12 : decode bc_M_isMatching 12 = .ok (.ishr, 1) := by decide +kernel
theorem dc_M_isMatching_13 : decode bc_M_isMatching 13 = .ok (.iconst 1, 1) := by decide +kernel
theorem dc_M_isMatching_14 : decode bc_M_isMatching 14 = .ok (.iand, 1) := by decide +kernel
theorem dc_M_isMatching_15 : decode bc_M_isMatching 15 = .ok (.ifCond .ne 6, 3) := by decide +kernel
theorem dc_M_isMatching_18 : decode bc_M_isMatching 18 = .ok (.goto 36, 3) := by decide +kernel
theorem dc_M_isMatching_21 : decode bc_M_isMatching 21 = .ok (.iconst 1, 1) := by decide +kernel
theorem dc_M_isMatching_22 : decode bc_M_isMatching 22 = .ok (.aload_n 0, 1) := by decide +kernel
theorem dc_M_isMatching_23 : decode bc_M_isMatching 23 = .ok (.getfield 26, 3) := by decide +kernel
theorem dc_M_isMatching_26 : decode bc_M_isMatching 26 = .ok (.iload_n 3, 1) := by decide +kernel
theorem dc_M_isMatching_27 : decode bc_M_isMatching 27 = .ok (.iaload, 1) := by decide +kernel
theorem dc_M_isMatching_28 : decode bc_M_isMatching 28 = .ok (.ishl, 1) := by decide +kernel
theorem dc_M_isMatching_29 : decode bc_M_isMatching 29 = .ok (.iconst 1, 1) := by decide +kernel
theorem dc_M_isMatching_30 : decode bc_M_isMatching 30 = .ok (.aload_n 0, 1) := by decide +kernel
theorem dc_M_isMatching_31 : decode bc_M_isMatching 31 = .ok (.getfield 29, 3) := by decide +kernel
theorem dc_M_isMatching_34 : decode bc_M_isMatching 34 = .ok (.iload_n 3, 1) := by decide +kernel
theorem dc_M_isMatching_35 : decode bc_M_isMatching 35 = .ok (.iaload, 1) := by decide +kernel
theorem dc_M_isMatching_36 : decode bc_M_isMatching 36 = .ok (.ishl, 1) := by decide +kernel
theorem dc_M_isMatching_37 : decode bc_M_isMatching 37 = .ok (.ior, 1) := by decide +kernel
theorem dc_M_isMatching_38 : decode bc_M_isMatching 38 = .ok (.istore 4, 2) := by decide +kernel
theorem dc_M_isMatching_40 : decode bc_M_isMatching 40 = .ok (.iload_n 2, 1) := by decide +kernel
theorem dc_M_isMatching_41 : decode bc_M_isMatching 41 = .ok (.iload 4, 2) := by decide +kernel
theorem dc_M_isMatching_43 : decode bc_M_isMatching 43 = .ok (.iand, 1) := by decide +kernel
theorem dc_M_isMatching_44 : decode bc_M_isMatching 44 = .ok (.ifCond .eq 5, 3) := by decide +kernel
theorem dc_M_isMatching_47 : decode bc_M_isMatching 47 = .ok (.iconst 0, 1) := by decide +kernel
theorem dc_M_isMatching_48 : decode bc_M_isMatching 48 = .ok (.ireturn, 1) := by decide +kernel
theorem dc_M_isMatching_49 : decode bc_M_isMatching 49 = .ok (.iload_n 2, 1) := by decide +kernel
theorem dc_M_isMatching_50 : decode bc_M_isMatching 50 = .ok (.iload 4, 2) := by decide +kernel
theorem dc_M_isMatching_52 : decode bc_M_isMatching 52 = .ok (.ior, 1) := by decide +kernel
theorem dc_M_isMatching_53 : decode bc_M_isMatching 53 = .ok (.istore_n 2, 1) := by decide +kernel
theorem dc_M_isMatching_54 : decode bc_M_isMatching 54 = .ok (.iinc 3 1, 3) := by decide +kernel
theorem dc_M_isMatching_57 : decode bc_M_isMatching 57 = .ok (.goto (-53), 3) := by decide +kernel
theorem dc_M_isMatching_60 : decode bc_M_isMatching 60 = .ok (.iconst 1, 1) := by decide +kernel
theorem dc_M_isMatching_61 : decode bc_M_isMatching 61 = .ok (.ireturn, 1) := by decide +kernel
theorem dc_M_weight_0 : decode bc_M_weight 0 = .ok (.aload_n 0, 1) := by decide +kernel
theorem dc_M_weight_1 : decode bc_M_weight 1 = .ok (.iload_n 1, 1) := by decide +kernel
theorem dc_M_weight_2 : decode bc_M_weight 2 = .ok (.invokestatic 99, 3) := by decide +kernel
theorem dc_M_weight_5 : decode bc_M_weight 5 = .ok (.ifCond .eq 7, 3) := by decide +kernel
theorem dc_M_weight_8 : decode bc_M_weight 8 = .ok (.iconst 1, 1) := by decide +kernel
theorem dc_M_weight_9 : decode bc_M_weight 9 = .ok (.goto 20, 3) := by decide +kernel
theorem dc_M_weight_12 : decode bc_M_weight 12 = .ok (.iload_n 2, 1) := by decide +kernel
theorem dc_M_weight_13 : decode bc_M_weight 13 = .ok (.bipush (-99), 2) := by decide +kernel
theorem dc_M_weight_15 : decode bc_M_weight 15 = .ok (.if_icmp .lt 9, 3) := by decide +kernel
theorem dc_M_weight_18 : decode bc_M_weight 18 = .ok (.iload_n 2, 1) := by decide +kernel
theorem dc_M_weight_19 : decode bc_M_weight 19 = .ok (.bipush 99, 2) := by decide +kernel
theorem dc_M_weight_21 : decode bc_M_weight 21 = .ok (.if_icmp .le 7, 3) := by decide +kernel
theorem dc_M_weight_24 : decode bc_M_weight 24 = .ok (.iconst 2, 1) := by decide +kernel
theorem dc_M_weight_25 : decode bc_M_weight 25 = .ok (.goto 4, 3) := by decide +kernel
theorem dc_M_weight_28 : decode bc_M_weight 28 = .ok (.iconst 0, 1) := by decide +kernel
theorem dc_M_weight_29 : decode bc_M_weight 29 = .ok (.putfield 35, 3) := by decide +kernel
theorem dc_M_weight_32 : decode bc_M_weight 32 = .ok (.aload_n 0, 1) := by decide +kernel
theorem dc_M_weight_33 : decode bc_M_weight 33 = .ok (.getfield 35, 3) := by decide +kernel
theorem dc_M_weight_36 : decode bc_M_weight 36 = .ok (.ifCond .eq 5, 3) := by decide +kernel
theorem dc_M_weight_39 : decode bc_M_weight 39 = .ok (.iconst 0, 1) := by decide +kernel
theorem dc_M_weight_40 : decode bc_M_weight 40 = .ok (.ireturn, 1) := by decide +kernel
theorem dc_M_weight_41 : decode bc_M_weight 41 = .ok (.aload_n 0, 1) := by decide +kernel
theorem dc_M_weight_42 : decode bc_M_weight 42 = .ok (.getfield 32, 3) := by decide +kernel
theorem dc_M_weight_45 : decode bc_M_weight 45 = .ok (.iload_n 1, 1) := by decide +kernel
theorem dc_M_weight_46 : decode bc_M_weight 46 = .ok (.iaload, 1) := by decide +kernel
theorem dc_M_weight_47 : decode bc_M_weight 47 = .ok (.istore_n 3, 1) := by decide +kernel
theorem dc_M_weight_48 : decode bc_M_weight 48 = .ok (.aload_n 0, 1) := by decide +kernel
theorem dc_M_weight_49 : decode bc_M_weight 49 = .ok (.getfield 32, 3) := by decide +kernel
theorem dc_M_weight_52 : decode bc_M_weight 52 = .ok (.iload_n 1, 1) := by decide +kernel
theorem dc_M_weight_53 : decode bc_M_weight 53 = .ok (.iload_n 2, 1) := by decide +kernel
theorem dc_M_weight_54 : decode bc_M_weight 54 = .ok (.iastore, 1) := by decide +kernel
theorem dc_M_weight_55 : decode bc_M_weight 55 = .ok (.iload_n 3, 1) := by decide +kernel
theorem dc_M_weight_56 : decode bc_M_weight 56 = .ok (.ireturn, 1) := by decide +kernel
theorem dc_M_count_0 : decode bc_M_count 0 = .ok (.aload_n 0, 1) := by decide +kernel
theorem dc_M_count_1 : decode bc_M_count 1 = .ok (.iload_n 1, 1) := by decide +kernel
theorem dc_M_count_2 : decode bc_M_count 2 = .ok (.invokestatic 47, 3) := by decide +kernel
theorem dc_M_count_5 : decode bc_M_count 5 = .ok (.ifCond .eq 7, 3) := by decide +kernel
theorem dc_M_count_8 : decode bc_M_count 8 = .ok (.iconst 1, 1) := by decide +kernel
theorem dc_M_count_9 : decode bc_M_count 9 = .ok (.goto 4, 3) := by decide +kernel
theorem dc_M_count_12 : decode bc_M_count 12 = .ok (.iconst 0, 1) := by decide +kernel
theorem dc_M_count_13 : decode bc_M_count 13 = .ok (.putfield 35, 3) := by decide +kernel
theorem dc_M_count_16 : decode bc_M_count 16 = .ok (.aload_n 0, 1) := by decide +kernel
theorem dc_M_count_17 : decode bc_M_count 17 = .ok (.getfield 35, 3) := by decide +kernel
theorem dc_M_count_20 : decode bc_M_count 20 = .ok (.ifCond .ne 11, 3) := by decide +kernel
theorem dc_M_count_23 : decode bc_M_count 23 = .ok (.aload_n 0, 1) := by decide +kernel
theorem dc_M_count_24 : decode bc_M_count 24 = .ok (.iload_n 1, 1) := by decide +kernel
theorem dc_M_count_25 : decode bc_M_count 25 = .ok (.invokevirtual 43, 3) := by decide +kernel
theorem dc_M_count_28 : decode bc_M_count 28 = .ok (.goto 4, 3) := by decide +kernel
theorem dc_M_count_31 : decode bc_M_count 31 = .ok (.iconst 0, 1) := by decide +kernel
theorem dc_M_count_32 : decode bc_M_count 32 = .ok (.ireturn, 1) := by decide +kernel
theorem dc_M_has_0 : decode bc_M_has 0 = .ok (.aload_n 0, 1) := by decide +kernel
theorem dc_M_has_1 : decode bc_M_has 1 = .ok (.iload_n 1, 1) := by decide +kernel
theorem dc_M_has_2 : decode bc_M_has 2 = .ok (.iload_n 2, 1) := by decide +kernel
theorem dc_M_has_3 : decode bc_M_has 3 = .ok (.invokestatic 51, 3) := by decide +kernel
theorem dc_M_has_6 : decode bc_M_has 6 = .ok (.putfield 35, 3) := by decide +kernel
theorem dc_M_has_9 : decode bc_M_has 9 = .ok (.aload_n 0, 1) := by decide +kernel
theorem dc_M_has_10 : decode bc_M_has 10 = .ok (.getfield 35, 3) := by decide +kernel
theorem dc_M_has_13 : decode bc_M_has 13 = .ok (.ifCond .ne 19, 3) := by decide +kernel
theorem dc_M_has_16 : decode bc_M_has 16 = .ok (.aload_n 0, 1) := by decide +kernel
theorem dc_M_has_17 : decode bc_M_has 17 = .ok (.iload_n 1, 1) := by decide +kernel
theorem dc_M_has_18 : decode bc_M_has 18 = .ok (.iload_n 2, 1) := by decide +kernel
theorem dc_M_has_19 : decode bc_M_has 19 = .ok (.invokestatic 55, 3) := by decide +kernel
theorem dc_M_has_22 : decode bc_M_has 22 = .ok (.invokevirtual 58, 3) := by decide +kernel
theorem dc_M_has_25 : decode bc_M_has 25 = .ok (.ifCond .eq 7, 3) := by decide +kernel
theorem dc_M_has_28 : decode bc_M_has 28 = .ok (.iconst 1, 1) := by decide +kernel
theorem dc_M_has_29 : decode bc_M_has 29 = .ok (.goto 4, 3) := by decide +kernel
theorem dc_M_has_32 : decode bc_M_has 32 = .ok (.iconst 0, 1) := by decide +kernel
theorem dc_M_has_33 : decode bc_M_has 33 = .ok (.ireturn, 1) := by decide +kernel
theorem dc_M_nth_0 : decode bc_M_nth 0 = .ok (.aload_n 0, 1) := by decide +kernel
theorem dc_M_nth_1 : decode bc_M_nth 1 = .ok (.iload_n 1, 1) := by decide +kernel
theorem dc_M_nth_2 : decode bc_M_nth 2 = .ok (.invokestatic 47, 3) := by decide +kernel
theorem dc_M_nth_5 : decode bc_M_nth 5 = .ok (.ifCond .eq 7, 3) := by decide +kernel
theorem dc_M_nth_8 : decode bc_M_nth 8 = .ok (.iconst 1, 1) := by decide +kernel
theorem dc_M_nth_9 : decode bc_M_nth 9 = .ok (.goto 4, 3) := by decide +kernel
theorem dc_M_nth_12 : decode bc_M_nth 12 = .ok (.iconst 0, 1) := by decide +kernel
theorem dc_M_nth_13 : decode bc_M_nth 13 = .ok (.putfield 35, 3) := by decide +kernel
theorem dc_M_nth_16 : decode bc_M_nth 16 = .ok (.aload_n 0, 1) := by decide +kernel
theorem dc_M_nth_17 : decode bc_M_nth 17 = .ok (.getfield 35, 3) := by decide +kernel
theorem dc_M_nth_20 : decode bc_M_nth 20 = .ok (.ifCond .eq 5, 3) := by decide +kernel
theorem dc_M_nth_23 : decode bc_M_nth 23 = .ok (.iconst 0, 1) := by decide +kernel
theorem dc_M_nth_24 : decode bc_M_nth 24 = .ok (.ireturn, 1) := by decide +kernel
theorem dc_M_nth_25 : decode bc_M_nth 25 = .ok (.iload_n 2, 1) := by decide +kernel
theorem dc_M_nth_26 : decode bc_M_nth 26 = .ok (.istore_n 3, 1) := by decide +kernel
theorem dc_M_nth_27 : decode bc_M_nth 27 = .ok (.iconst 0, 1) := by decide +kernel
theorem dc_M_nth_28 : decode bc_M_nth 28 = .ok (.istore 4, 2) := by decide +kernel
theorem dc_M_nth_30 : decode bc_M_nth 30 = .ok (.iload 4, 2) := by decide +kernel
theorem dc_M_nth_32 : decode bc_M_nth 32 = .ok (.sipush 4096, 3) := by decide +kernel
theorem dc_M_nth_35 : decode bc_M_nth 35 = .ok (.if_icmp .ge 39, 3) := by decide +kernel
theorem dc_M_nth_38 : decode bc_M_nth 38 = .ok (.iload_n 3, 1) := by decide +kernel
theorem dc_M_nth_39 : decode bc_M_nth 39 = .ok (.ifCond .lt 35, 3) := by decide +kernel
theorem dc_M_nth_42 : decode bc_M_nth 42 = .ok (.aload_n 0, 1) := by decide +kernel
theorem dc_M_nth_43 : decode bc_M_nth 43 = .ok (.iload_n 1, 1) := by decide +kernel
theorem dc_M_nth_44 : decode bc_M_nth 44 = .ok (.iload 4, 2) := by decide +kernel
theorem dc_M_nth_46 : decode bc_M_nth 46 = .ok (.invokevirtual 58, 3) := by decide +kernel
theorem dc_M_nth_49 : decode bc_M_nth 49 = .ok (.ifCond .ne 6, 3) := by decide +kernel
theorem dc_M_nth_52 : decode bc_M_nth 52 = .ok (.goto 16, 3) := by decide +kernel
theorem dc_M_nth_55 : decode bc_M_nth 55 = .ok (.iload_n 3, 1) := by decide +kernel
theorem dc_M_nth_56 : decode bc_M_nth 56 = .ok (.ifCond .ne 9, 3) := by decide +kernel
theorem dc_M_nth_59 : decode bc_M_nth 59 = .ok (.iload 4, 2) := by decide +kernel
theorem dc_M_nth_61 : decode bc_M_nth 61 = .ok (.invokestatic 55, 3) := by decide +kernel
theorem dc_M_nth_64 : decode bc_M_nth 64 = .ok (.ireturn, 1) := by decide +kernel
theorem dc_M_nth_65 : decode bc_M_nth 65 = .ok (.iinc 3 (-1), 3) := by decide +kernel
theorem dc_M_nth_68 : decode bc_M_nth 68 = .ok (.iinc 4 1, 3) := by decide +kernel
theorem dc_M_nth_71 : decode bc_M_nth 71 = .ok (.goto (-41), 3) := by decide +kernel
theorem dc_M_nth_74 : decode bc_M_nth 74 = .ok (.iconst (-1), 1) := by decide +kernel
theorem dc_M_nth_75 : decode bc_M_nth 75 = .ok (.ireturn, 1) := by decide +kernel
theorem dc_M_rank_0 : decode bc_M_rank 0 = .ok (.aload_n 0, 1) := by decide +kernel
theorem dc_M_rank_1 : decode bc_M_rank 1 = .ok (.iload_n 1, 1) := by decide +kernel
theorem dc_M_rank_2 : decode bc_M_rank 2 = .ok (.iload_n 2, 1) := by decide +kernel
theorem dc_M_rank_3 : decode bc_M_rank 3 = .ok (.invokestatic 51, 3) := by decide +kernel
theorem dc_M_rank_6 : decode bc_M_rank 6 = .ok (.putfield 35, 3) := by decide +kernel
theorem dc_M_rank_9 : decode bc_M_rank 9 = .ok (.aload_n 0, 1) := by decide +kernel
theorem dc_M_rank_10 : decode bc_M_rank 10 = .ok (.getfield 35, 3) := by decide +kernel
theorem dc_M_rank_13 : decode bc_M_rank 13 = .ok (.ifCond .eq 5, 3) := by decide +kernel
theorem dc_M_rank_16 : decode bc_M_rank 16 = .ok (.iconst 0, 1) := by decide +kernel
theorem dc_M_rank_17 : decode bc_M_rank 17 = .ok (.ireturn, 1) := by decide +kernel
theorem dc_M_rank_18 : decode bc_M_rank 18 = .ok (.iconst 0, 1) := by decide +kernel
theorem dc_M_rank_19 : decode bc_M_rank 19 = .ok (.istore_n 3, 1) := by decide +kernel
theorem dc_M_rank_20 : decode bc_M_rank 20 = .ok (.iload_n 2, 1) := by decide +kernel
theorem dc_M_rank_21 : decode bc_M_rank 21 = .ok (.invokestatic 55, 3) := by decide +kernel
theorem dc_M_rank_24 : decode bc_M_rank 24 = .ok (.istore 4, 2) := by decide +kernel
theorem dc_M_rank_26 : decode bc_M_rank 26 = .ok (.iconst 0, 1) := by decide +kernel
theorem dc_M_rank_27 : decode bc_M_rank 27 = .ok (.istore 5, 2) := by decide +kernel
theorem dc_M_rank_29 : decode bc_M_rank 29 = .ok (.iload 5, 2) := by decide +kernel
theorem dc_M_rank_31 : decode bc_M_rank 31 = .ok (.iload 4, 2) := by decide +kernel
theorem dc_M_rank_33 : decode bc_M_rank 33 = .ok (.if_icmp .ge 27, 3) := by decide +kernel
theorem dc_M_rank_36 : decode bc_M_rank 36 = .ok (.iload_n 3, 1) := by decide +kernel
theorem dc_M_rank_37 : decode bc_M_rank 37 = .ok (.aload_n 0, 1) := by decide +kernel
theorem dc_M_rank_38 : decode bc_M_rank 38 = .ok (.iload_n 1, 1) := by decide +kernel
theorem dc_M_rank_39 : decode bc_M_rank 39 = .ok (.iload 5, 2) := by decide +kernel
theorem dc_M_rank_41 : decode bc_M_rank 41 = .ok (.invokevirtual 58, 3) := by decide +kernel
theorem dc_M_rank_44 : decode bc_M_rank 44 = .ok (.ifCond .eq 7, 3) := by decide +kernel
theorem dc_M_rank_47 : decode bc_M_rank 47 = .ok (.iconst 1, 1) := by decide +kernel
theorem dc_M_rank_48 : decode bc_M_rank 48 = .ok (.goto 4, 3) := by decide +kernel
theorem dc_M_rank_51 : decode bc_M_rank 51 = .ok (.iconst 0, 1) := by decide +kernel
theorem dc_M_rank_52 : decode bc_M_rank 52 = .ok (.iadd, 1) := by decide +kernel
theorem dc_M_rank_53 : decode bc_M_rank 53 = .ok (.istore_n 3, 1) := by decide +kernel
theorem dc_M_rank_54 : decode bc_M_rank 54 = .ok (.iinc 5 1, 3) := by decide +kernel
theorem dc_M_rank_57 : decode bc_M_rank 57 = .ok (.goto (-28), 3) := by decide +kernel
theorem dc_M_rank_60 : decode bc_M_rank 60 = .ok (.iload_n 3, 1) := by decide +kernel
theorem dc_M_rank_61 : decode bc_M_rank 61 = .ok (.ireturn, 1) := by decide +kernel
theorem dc_M_heaviest_0 : decode bc_M_heaviest 0 = .ok (.aload_n 0, 1) := by decide +kernel
theorem dc_M_heaviest_1 : decode bc_M_heaviest 1 = .ok (.iload_n 1, 1) := by decide +kernel
theorem dc_M_heaviest_2 : decode bc_M_heaviest 2 = .ok (.invokestatic 47, 3) := by decide +kernel
theorem dc_M_heaviest_5 : decode bc_M_heaviest 5 = .ok (.ifCond .eq 7, 3) := by decide +kernel
theorem dc_M_heaviest_8 : decode bc_M_heaviest 8 = .ok (.iconst 1, 1) := by decide +kernel
theorem dc_M_heaviest_9 : decode bc_M_heaviest 9 = .ok (.goto 4, 3) := by decide +kernel
theorem dc_M_heaviest_12 : decode bc_M_heaviest 12 = .ok (.iconst 0, 1) := by decide +kernel
theorem dc_M_heaviest_13 : decode bc_M_heaviest 13 = .ok (.putfield 35, 3) := by decide +kernel
theorem dc_M_heaviest_16 : decode bc_M_heaviest 16 = .ok (.aload_n 0, 1) := by decide +kernel
theorem dc_M_heaviest_17 : decode bc_M_heaviest 17 = .ok (.getfield 35, 3) := by decide +kernel
theorem dc_M_heaviest_20 : decode bc_M_heaviest 20 = .ok (.ifCond .eq 5, 3) := by decide +kernel
theorem dc_M_heaviest_23 : decode bc_M_heaviest 23 = .ok (.iconst 0, 1) := by decide +kernel
theorem dc_M_heaviest_24 : decode bc_M_heaviest 24 = .ok (.ireturn, 1) := by decide +kernel
theorem dc_M_heaviest_25 : decode bc_M_heaviest 25 = .ok (.iconst (-1), 1) := by decide +kernel
theorem dc_M_heaviest_26 : decode bc_M_heaviest 26 = .ok (.istore_n 2, 1) := by decide +kernel
theorem dc_M_heaviest_27 : decode bc_M_heaviest 27 = .ok (.iconst 0, 1) := by decide +kernel
theorem dc_M_heaviest_28 : decode bc_M_heaviest 28 = .ok (.istore_n 3, 1) := by decide +kernel
theorem dc_M_heaviest_29 : decode bc_M_heaviest 29 = .ok (.iconst 0, 1) := by decide +kernel
theorem dc_M_heaviest_30 : decode bc_M_heaviest 30 = .ok (.istore 4, 2) := by decide +kernel
theorem dc_M_heaviest_32 : decode bc_M_heaviest 32 = .ok (.iload 4, 2) := by decide +kernel
theorem dc_M_heaviest_34 : decode bc_M_heaviest 34 = .ok (.sipush 4096, 3) := by decide +kernel
theorem dc_M_heaviest_37 : decode bc_M_heaviest 37 = .ok (.if_icmp .ge 74, 3) := by decide +kernel
theorem dc_M_heaviest_40 : decode bc_M_heaviest 40 = .ok (.aload_n 0, 1) := by decide +kernel
theorem dc_M_heaviest_41 : decode bc_M_heaviest 41 = .ok (.iload_n 1, 1) := by decide +kernel
theorem dc_M_heaviest_42 : decode bc_M_heaviest 42 = .ok (.iload 4, 2) := by decide +kernel
theorem dc_M_heaviest_44 : decode bc_M_heaviest 44 = .ok (.invokevirtual 58, 3) := by decide +kernel
theorem dc_M_heaviest_47 : decode bc_M_heaviest 47 = .ok (.ifCond .ne 6, 3) := by decide +kernel
theorem dc_M_heaviest_50 : decode bc_M_heaviest 50 = .ok (.goto 55, 3) := by decide +kernel
theorem dc_M_heaviest_53 : decode bc_M_heaviest 53 = .ok (.aload_n 0, 1) := by decide +kernel
theorem dc_M_heaviest_54 : decode bc_M_heaviest 54 = .ok (.iload 4, 2) := by decide +kernel
theorem dc_M_heaviest_56 : decode bc_M_heaviest 56 = .ok (.invokevirtual 121, 3) := by decide +kernel
theorem dc_M_heaviest_59 : decode bc_M_heaviest 59 = .ok (.istore 5, 2) := by decide +kernel
theorem dc_M_heaviest_61 : decode bc_M_heaviest 61 = .ok (.iload_n 2, 1) := by decide +kernel
theorem dc_M_heaviest_62 : decode bc_M_heaviest 62 = .ok (.ifCond .lt 9, 3) := by decide +kernel
theorem dc_M_heaviest_65 : decode bc_M_heaviest 65 = .ok (.iload 5, 2) := by decide +kernel
theorem dc_M_heaviest_67 : decode bc_M_heaviest 67 = .ok (.iload_n 3, 1) := by decide +kernel
theorem dc_M_heaviest_68 : decode bc_M_heaviest 68 = .ok (.if_icmp .le 8, 3) := by decide +kernel
theorem dc_M_heaviest_71 : decode bc_M_heaviest 71 = .ok (.iload 5, 2) := by decide +kernel
theorem dc_M_heaviest_73 : decode bc_M_heaviest 73 = .ok (.goto 4, 3) := by decide +kernel
theorem dc_M_heaviest_76 : decode bc_M_heaviest 76 = .ok (.iload_n 3, 1) := by decide +kernel
theorem dc_M_heaviest_77 : decode bc_M_heaviest 77 = .ok (.istore_n 3, 1) := by decide +kernel
theorem dc_M_heaviest_78 : decode bc_M_heaviest 78 = .ok (.iload_n 2, 1) := by decide +kernel
theorem dc_M_heaviest_79 : decode bc_M_heaviest 79 = .ok (.ifCond .lt 19, 3) := by decide +kernel
theorem dc_M_heaviest_82 : decode bc_M_heaviest 82 = .ok (.iload 5, 2) := by decide +kernel
theorem dc_M_heaviest_84 : decode bc_M_heaviest 84 = .ok (.iload_n 3, 1) := by decide +kernel
theorem dc_M_heaviest_85 : decode bc_M_heaviest 85 = .ok (.if_icmp .ne 18, 3) := by decide +kernel
theorem dc_M_heaviest_88 : decode bc_M_heaviest 88 = .ok (.aload_n 0, 1) := by decide +kernel
theorem dc_M_heaviest_89 : decode bc_M_heaviest 89 = .ok (.iload_n 2, 1) := by decide +kernel
theorem dc_M_heaviest_90 : decode bc_M_heaviest 90 = .ok (.invokevirtual 121, 3) := by decide +kernel
theorem dc_M_heaviest_93 : decode bc_M_heaviest 93 = .ok (.iload 5, 2) := by decide +kernel
theorem dc_M_heaviest_95 : decode bc_M_heaviest 95 = .ok (.if_icmp .ge 8, 3) := by decide +kernel
theorem dc_M_heaviest_98 : decode bc_M_heaviest 98 = .ok (.iload 4, 2) := by decide +kernel
theorem dc_M_heaviest_100 : decode bc_M_heaviest 100 = .ok (.goto 4, 3) := by decide +kernel
theorem dc_M_heaviest_103 : decode bc_M_heaviest 103 = .ok (.iload_n 2, 1) := by decide +kernel
theorem dc_M_heaviest_104 : decode bc_M_heaviest 104 = .ok (.istore_n 2, 1) := by decide +kernel
theorem dc_M_heaviest_105 : decode bc_M_heaviest 105 = .ok (.iinc 4 1, 3) := by decide +kernel
theorem dc_M_heaviest_108 : decode bc_M_heaviest 108 = .ok (.goto (-76), 3) := by decide +kernel
theorem dc_M_heaviest_111 : decode bc_M_heaviest 111 = .ok (.aload_n 0, 1) := by decide +kernel
theorem dc_M_heaviest_112 : decode bc_M_heaviest 112 = .ok (.iload_n 2, 1) := by decide +kernel
theorem dc_M_heaviest_113 : decode bc_M_heaviest 113 = .ok (.ifCond .ge 7, 3) := by decide +kernel
theorem dc_M_heaviest_116 : decode bc_M_heaviest 116 = .ok (.iconst 2, 1) := by decide +kernel
theorem dc_M_heaviest_117 : decode bc_M_heaviest 117 = .ok (.goto 4, 3) := by decide +kernel
theorem dc_M_heaviest_120 : decode bc_M_heaviest 120 = .ok (.iconst 0, 1) := by decide +kernel
theorem dc_M_heaviest_121 : decode bc_M_heaviest 121 = .ok (.putfield 35, 3) := by decide +kernel
theorem dc_M_heaviest_124 : decode bc_M_heaviest 124 = .ok (.iload_n 2, 1) := by decide +kernel
theorem dc_M_heaviest_125 : decode bc_M_heaviest 125 = .ok (.ifCond .ge 7, 3) := by decide +kernel
theorem dc_M_heaviest_128 : decode bc_M_heaviest 128 = .ok (.iconst 0, 1) := by decide +kernel
theorem dc_M_heaviest_129 : decode bc_M_heaviest 129 = .ok (.goto 7, 3) := by decide +kernel
theorem dc_M_heaviest_132 : decode bc_M_heaviest 132 = .ok (.iload_n 2, 1) := by decide +kernel
theorem dc_M_heaviest_133 : decode bc_M_heaviest 133 = .ok (.invokestatic 55, 3) := by decide +kernel
theorem dc_M_heaviest_136 : decode bc_M_heaviest 136 = .ok (.ireturn, 1) := by decide +kernel
theorem dc_M_weigh_0 : decode bc_M_weigh 0 = .ok (.iconst 0, 1) := by decide +kernel
theorem dc_M_weigh_1 : decode bc_M_weigh 1 = .ok (.istore_n 2, 1) := by decide +kernel
theorem dc_M_weigh_2 : decode bc_M_weigh 2 = .ok (.iconst 0, 1) := by decide +kernel
theorem dc_M_weigh_3 : decode bc_M_weigh 3 = .ok (.istore_n 3, 1) := by decide +kernel
theorem dc_M_weigh_4 : decode bc_M_weigh 4 = .ok (.iload_n 3, 1) := by decide +kernel
theorem dc_M_weigh_5 : decode bc_M_weigh 5 = .ok (.bipush 12, 2) := by decide +kernel
theorem dc_M_weigh_7 : decode bc_M_weigh 7 = .ok (.if_icmp .ge 31, 3) := by decide +kernel
theorem dc_M_weigh_10 : decode bc_M_weigh 10 = .ok (.iload_n 2, 1) := by decide +kernel
theorem dc_M_weigh_11 : decode bc_M_weigh 11 = .ok (.iload_n 1, 1) := by decide +kernel
theorem dc_M_weigh_12 : decode bc_M_weigh 12 = .ok (.iload_n 3, 1) := by decide +kernel
theorem dc_M_weigh_13 : decode bc_M_weigh 13 = .ok (.invokestatic 102, 3) := by decide +kernel
theorem dc_M_weigh_16 : decode bc_M_weigh 16 = .ok (.iand, 1) := by decide +kernel
theorem dc_M_weigh_17 : decode bc_M_weigh 17 = .ok (.ifCond .eq 12, 3) := by decide +kernel
theorem dc_M_weigh_20 : decode bc_M_weigh 20 = .ok (.aload_n 0, 1) := by decide +kernel
theorem dc_M_weigh_21 : decode bc_M_weigh 21 = .ok (.getfield 32, 3) := by decide +kernel
theorem dc_M_weigh_24 : decode bc_M_weigh 24 = .ok (.iload_n 3, 1) := by decide +kernel
theorem dc_M_weigh_25 : decode bc_M_weigh 25 = .ok (.iaload, 1) := by decide +kernel
theorem dc_M_weigh_26 : decode bc_M_weigh 26 = .ok (.goto 4, 3) := by decide +kernel
theorem dc_M_weigh_29 : decode bc_M_weigh 29 = .ok (.iconst 0, 1) := by decide +kernel
theorem dc_M_weigh_30 : decode bc_M_weigh 30 = .ok (.iadd, 1) := by decide +kernel
theorem dc_M_weigh_31 : decode bc_M_weigh 31 = .ok (.istore_n 2, 1) := by decide +kernel
theorem dc_M_weigh_32 : decode bc_M_weigh 32 = .ok (.iinc 3 1, 3) := by decide +kernel
theorem dc_M_weigh_35 : decode bc_M_weigh 35 = .ok (.goto (-31), 3) := by decide +kernel
theorem dc_M_weigh_38 : decode bc_M_weigh 38 = .ok (.iload_n 2, 1) := by decide +kernel
theorem dc_M_weigh_39 : decode bc_M_weigh 39 = .ok (.ireturn, 1) := by decide +kernel
theorem dc_M_size_0 : decode bc_M_size 0 = .ok (.aload_n 0, 1) := by decide +kernel
theorem dc_M_size_1 : decode bc_M_size 1 = .ok (.iload_n 1, 1) := by decide +kernel
theorem dc_M_size_2 : decode bc_M_size 2 = .ok (.invokestatic 47, 3) := by decide +kernel
theorem dc_M_size_5 : decode bc_M_size 5 = .ok (.ifCond .eq 7, 3) := by decide +kernel
theorem dc_M_size_8 : decode bc_M_size 8 = .ok (.iconst 1, 1) := by decide +kernel
theorem dc_M_size_9 : decode bc_M_size 9 = .ok (.goto 4, 3) := by decide +kernel
theorem dc_M_size_12 : decode bc_M_size 12 = .ok (.iconst 0, 1) := by decide +kernel
theorem dc_M_size_13 : decode bc_M_size 13 = .ok (.putfield 35, 3) := by decide +kernel
theorem dc_M_size_16 : decode bc_M_size 16 = .ok (.aload_n 0, 1) := by decide +kernel
theorem dc_M_size_17 : decode bc_M_size 17 = .ok (.getfield 35, 3) := by decide +kernel
theorem dc_M_size_20 : decode bc_M_size 20 = .ok (.ifCond .eq 5, 3) := by decide +kernel
theorem dc_M_size_23 : decode bc_M_size 23 = .ok (.iconst 0, 1) := by decide +kernel
theorem dc_M_size_24 : decode bc_M_size 24 = .ok (.ireturn, 1) := by decide +kernel
theorem dc_M_size_25 : decode bc_M_size 25 = .ok (.iconst 0, 1) := by decide +kernel
theorem dc_M_size_26 : decode bc_M_size 26 = .ok (.istore_n 2, 1) := by decide +kernel
theorem dc_M_size_27 : decode bc_M_size 27 = .ok (.sipush 4096, 3) := by decide +kernel
theorem dc_M_size_30 : decode bc_M_size 30 = .ok (.istore_n 3, 1) := by decide +kernel
theorem dc_M_size_31 : decode bc_M_size 31 = .ok (.iload_n 3, 1) := by decide +kernel
theorem dc_M_size_32 : decode bc_M_size 32 = .ok (.iconst 1, 1) := by decide +kernel
theorem dc_M_size_33 : decode bc_M_size 33 = .ok (.if_icmp .le 19, 3) := by decide +kernel
theorem dc_M_size_36 : decode bc_M_size 36 = .ok (.iload_n 2, 1) := by decide +kernel
theorem dc_M_size_37 : decode bc_M_size 37 = .ok (.aload_n 0, 1) := by decide +kernel
theorem dc_M_size_38 : decode bc_M_size 38 = .ok (.iload_n 1, 1) := by decide +kernel
theorem dc_M_size_39 : decode bc_M_size 39 = .ok (.iload_n 3, 1) := by decide +kernel
theorem dc_M_size_40 : decode bc_M_size 40 = .ok (.invokevirtual 131, 3) := by decide +kernel
theorem dc_M_size_43 : decode bc_M_size 43 = .ok (.iadd, 1) := by decide +kernel
theorem dc_M_size_44 : decode bc_M_size 44 = .ok (.istore_n 2, 1) := by decide +kernel
theorem dc_M_size_45 : decode bc_M_size 45 = .ok (.iload_n 3, 1) := by decide +kernel
theorem dc_M_size_46 : decode bc_M_size 46 = .ok (.iconst 2, 1) := by decide +kernel
theorem dc_M_size_47 : decode bc_M_size 47 = .ok (.idiv, 1) := by decide +kernel
theorem dc_M_size_48 : decode bc_M_size 48 = .ok (.istore_n 3, 1) := by decide +kernel
theorem dc_M_size_49 : decode bc_M_size 49 = .ok (.goto (-18), 3) := by decide +kernel
theorem dc_M_size_52 : decode bc_M_size 52 = .ok (.iload_n 2, 1) := by decide +kernel
theorem dc_M_size_53 : decode bc_M_size 53 = .ok (.ireturn, 1) := by decide +kernel
theorem dc_M_different_0 : decode bc_M_different 0 = .ok (.iconst 0, 1) := by decide +kernel
theorem dc_M_different_1 : decode bc_M_different 1 = .ok (.istore_n 3, 1) := by decide +kernel
theorem dc_M_different_2 : decode bc_M_different 2 = .ok (.iconst 0, 1) := by decide +kernel
theorem dc_M_different_3 : decode bc_M_different 3 = .ok (.istore 4, 2) := by decide +kernel
theorem dc_M_different_5 : decode bc_M_different 5 = .ok (.iload 4, 2) := by decide +kernel
theorem dc_M_different_7 : decode bc_M_different 7 = .ok (.sipush 4096, 3) := by decide +kernel
theorem dc_M_different_10 : decode bc_M_different 10 = .ok (.if_icmp .ge 89, 3) := by decide +kernel
theorem dc_M_different_13 : decode bc_M_different 13 = .ok (.aload_n 0, 1) := by decide +kernel
theorem dc_M_different_14 : decode bc_M_different 14 = .ok (.iload_n 1, 1) := by decide +kernel
theorem dc_M_different_15 : decode bc_M_different 15 = .ok (.iload 4, 2) := by decide +kernel
theorem dc_M_different_17 : decode bc_M_different 17 = .ok (.iload_n 2, 1) := by decide +kernel
theorem dc_M_different_18 : decode bc_M_different 18 = .ok (.iconst 2, 1) := by decide +kernel
theorem dc_M_different_19 : decode bc_M_different 19 = .ok (.idiv, 1) := by decide +kernel
theorem dc_M_different_20 : decode bc_M_different 20 = .ok (.iadd, 1) := by decide +kernel
theorem dc_M_different_21 : decode bc_M_different 21 = .ok (.iload_n 2, 1) := by decide +kernel
theorem dc_M_different_22 : decode bc_M_different 22 = .ok (.iconst 2, 1) := by decide +kernel
theorem dc_M_different_23 : decode bc_M_different 23 = .ok (.idiv, 1) := by decide +kernel
theorem dc_M_different_24 : decode bc_M_different 24 = .ok (.invokevirtual 124, 3) := by decide +kernel
theorem dc_M_different_27 : decode bc_M_different 27 = .ok (.istore 5, 2) := by decide +kernel
theorem dc_M_different_29 : decode bc_M_different 29 = .ok (.iconst 0, 1) := by decide +kernel
theorem dc_M_different_30 : decode bc_M_different 30 = .ok (.istore 6, 2) := by decide +kernel
theorem dc_M_different_32 : decode bc_M_different 32 = .ok (.iload 6, 2) := by decide +kernel
theorem dc_M_different_34 : decode bc_M_different 34 = .ok (.iload_n 3, 1) := by decide +kernel
theorem dc_M_different_35 : decode bc_M_different 35 = .ok (.if_icmp .ge 39, 3) := by decide +kernel
theorem dc_M_different_38 : decode bc_M_different 38 = .ok (.iload 5, 2) := by decide +kernel
theorem dc_M_different_40 : decode bc_M_different 40 = .ok (.ifCond .eq 34, 3) := by decide +kernel
theorem dc_M_different_43 : decode bc_M_different 43 = .ok (.aload_n 0, 1) := by decide +kernel
theorem dc_M_different_44 : decode bc_M_different 44 = .ok (.iload_n 1, 1) := by decide +kernel
theorem dc_M_different_45 : decode bc_M_different 45 = .ok (.aload_n 0, 1) := by decide +kernel
theorem dc_M_different_46 : decode bc_M_different 46 = .ok (.getfield 19, 3) := by decide +kernel
theorem dc_M_different_49 : decode bc_M_different 49 = .ok (.iload 6, 2) := by decide +kernel
theorem dc_M_different_51 : decode bc_M_different 51 = .ok (.iaload, 1) := by decide +kernel
theorem dc_M_different_52 : decode bc_M_different 52 = .ok (.iload 4, 2) := by decide +kernel
theorem dc_M_different_54 : decode bc_M_different 54 = .ok (.iload_n 2, 1) := by decide +kernel
theorem dc_M_different_55 : decode bc_M_different 55 = .ok (.invokevirtual 127, 3) := by decide +kernel
theorem dc_M_different_58 : decode bc_M_different 58 = .ok (.ifCond .ne 7, 3) := by decide +kernel
theorem dc_M_different_61 : decode bc_M_different 61 = .ok (.iconst 1, 1) := by decide +kernel
theorem dc_M_different_62 : decode bc_M_different 62 = .ok (.goto 4, 3) := by decide +kernel
theorem dc_M_different_65 : decode bc_M_different 65 = .ok (.iconst 0, 1) := by decide +kernel
theorem dc_M_different_66 : decode bc_M_different 66 = .ok (.istore 5, 2) := by decide +kernel
theorem dc_M_different_68 : decode bc_M_different 68 = .ok (.iinc 6 1, 3) := by decide +kernel
theorem dc_M_different_71 : decode bc_M_different 71 = .ok (.goto (-39), 3) := by decide +kernel
theorem dc_M_different_74 : decode bc_M_different 74 = .ok (.iload 5, 2) := by decide +kernel
theorem dc_M_different_76 : decode bc_M_different 76 = .ok (.ifCond .eq 14, 3) := by decide +kernel
theorem dc_M_different_79 : decode bc_M_different 79 = .ok (.aload_n 0, 1) := by decide +kernel
theorem dc_M_different_80 : decode bc_M_different 80 = .ok (.getfield 19, 3) := by decide +kernel
theorem dc_M_different_83 : decode bc_M_different 83 = .ok (.iload_n 3, 1) := by decide +kernel
theorem dc_M_different_84 : decode bc_M_different 84 = .ok (.iload 4, 2) := by decide +kernel
theorem dc_M_different_86 : decode bc_M_different 86 = .ok (.iastore, 1) := by decide +kernel
theorem dc_M_different_87 : decode bc_M_different 87 = .ok (.iinc 3 1, 3) := by decide +kernel
theorem dc_M_different_90 : decode bc_M_different 90 = .ok (.iload 4, 2) := by decide +kernel
theorem dc_M_different_92 : decode bc_M_different 92 = .ok (.iload_n 2, 1) := by decide +kernel
theorem dc_M_different_93 : decode bc_M_different 93 = .ok (.iadd, 1) := by decide +kernel
theorem dc_M_different_94 : decode bc_M_different 94 = .ok (.istore 4, 2) := by decide +kernel
theorem dc_M_different_96 : decode bc_M_different 96 = .ok (.goto (-91), 3) := by decide +kernel
theorem dc_M_different_99 : decode bc_M_different 99 = .ok (.iload_n 3, 1) := by decide +kernel
theorem dc_M_different_100 : decode bc_M_different 100 = .ok (.ireturn, 1) := by decide +kernel
theorem dc_M_isAny_0 : decode bc_M_isAny 0 = .ok (.iload_n 2, 1) := by decide +kernel
theorem dc_M_isAny_1 : decode bc_M_isAny 1 = .ok (.istore 4, 2) := by decide +kernel
theorem dc_M_isAny_3 : decode bc_M_isAny 3 = .ok (.iload 4, 2) := by decide +kernel
theorem dc_M_isAny_5 : decode bc_M_isAny 5 = .ok (.iload_n 2, 1) := by decide +kernel
theorem dc_M_isAny_6 : decode bc_M_isAny 6 = .ok (.iload_n 3, 1) := by decide +kernel
theorem dc_M_isAny_7 : decode bc_M_isAny 7 = .ok (.iadd, 1) := by decide +kernel
theorem dc_M_isAny_8 : decode bc_M_isAny 8 = .ok (.if_icmp .ge 21, 3) := by decide +kernel
theorem dc_M_isAny_11 : decode bc_M_isAny 11 = .ok (.aload_n 0, 1) := by decide +kernel
theorem dc_M_isAny_12 : decode bc_M_isAny 12 = .ok (.iload_n 1, 1) := by decide +kernel
theorem dc_M_isAny_13 : decode bc_M_isAny 13 = .ok (.iload 4, 2) := by decide +kernel
theorem dc_M_isAny_15 : decode bc_M_isAny 15 = .ok (.invokevirtual 58, 3) := by decide +kernel
theorem dc_M_isAny_18 : decode bc_M_isAny 18 = .ok (.ifCond .eq 5, 3) := by decide +kernel
theorem dc_M_isAny_21 : decode bc_M_isAny 21 = .ok (.iconst 1, 1) := by decide +kernel
theorem dc_M_isAny_22 : decode bc_M_isAny 22 = .ok (.ireturn, 1) := by decide +kernel
theorem dc_M_isAny_23 : decode bc_M_isAny 23 = .ok (.iinc 4 1, 3) := by decide +kernel
theorem dc_M_isAny_26 : decode bc_M_isAny 26 = .ok (.goto (-23), 3) := by decide +kernel
theorem dc_M_isAny_29 : decode bc_M_isAny 29 = .ok (.iconst 0, 1) := by decide +kernel
theorem dc_M_isAny_30 : decode bc_M_isAny 30 = .ok (.ireturn, 1) := by decide +kernel
theorem dc_M_alike_0 : decode bc_M_alike 0 = .ok (.iconst 0, 1) := by decide +kernel
theorem dc_M_alike_1 : decode bc_M_alike 1 = .ok (.istore 5, 2) := by decide +kernel
theorem dc_M_alike_3 : decode bc_M_alike 3 = .ok (.iload 5, 2) := by decide +kernel
theorem dc_M_alike_5 : decode bc_M_alike 5 = .ok (.iload 4, 2) := by decide +kernel
theorem dc_M_alike_7 : decode bc_M_alike 7 = .ok (.if_icmp .ge 32, 3) := by decide +kernel
theorem dc_M_alike_10 : decode bc_M_alike 10 = .ok (.aload_n 0, 1) := by decide +kernel
theorem dc_M_alike_11 : decode bc_M_alike 11 = .ok (.iload_n 1, 1) := by decide +kernel
theorem dc_M_alike_12 : decode bc_M_alike 12 = .ok (.iload_n 2, 1) := by decide +kernel
theorem dc_M_alike_13 : decode bc_M_alike 13 = .ok (.iload 5, 2) := by decide +kernel
theorem dc_M_alike_15 : decode bc_M_alike 15 = .ok (.iadd, 1) := by decide +kernel
theorem dc_M_alike_16 : decode bc_M_alike 16 = .ok (.invokevirtual 58, 3) := by decide +kernel
theorem dc_M_alike_19 : decode bc_M_alike 19 = .ok (.aload_n 0, 1) := by decide +kernel
theorem dc_M_alike_20 : decode bc_M_alike 20 = .ok (.iload_n 1, 1) := by decide +kernel
theorem dc_M_alike_21 : decode bc_M_alike 21 = .ok (.iload_n 3, 1) := by decide +kernel
theorem dc_M_alike_22 : decode bc_M_alike 22 = .ok (.iload 5, 2) := by decide +kernel
theorem dc_M_alike_24 : decode bc_M_alike 24 = .ok (.iadd, 1) := by decide +kernel
theorem dc_M_alike_25 : decode bc_M_alike 25 = .ok (.invokevirtual 58, 3) := by decide +kernel
theorem dc_M_alike_28 : decode bc_M_alike 28 = .ok (.if_icmp .eq 5, 3) := by decide +kernel
theorem dc_M_alike_31 : decode bc_M_alike 31 = .ok (.iconst 0, 1) := by decide +kernel
theorem dc_M_alike_32 : decode bc_M_alike 32 = .ok (.ireturn, 1) := by decide +kernel
theorem dc_M_alike_33 : decode bc_M_alike 33 = .ok (.iinc 5 1, 3) := by decide +kernel
theorem dc_M_alike_36 : decode bc_M_alike 36 = .ok (.goto (-33), 3) := by decide +kernel
theorem dc_M_alike_39 : decode bc_M_alike 39 = .ok (.iconst 1, 1) := by decide +kernel
theorem dc_M_alike_40 : decode bc_M_alike 40 = .ok (.ireturn, 1) := by decide +kernel
theorem dc_M_parts_0 : decode bc_M_parts 0 = .ok (.aload_n 0, 1) := by decide +kernel
theorem dc_M_parts_1 : decode bc_M_parts 1 = .ok (.iload_n 1, 1) := by decide +kernel
theorem dc_M_parts_2 : decode bc_M_parts 2 = .ok (.invokestatic 47, 3) := by decide +kernel
theorem dc_M_parts_5 : decode bc_M_parts 5 = .ok (.ifCond .eq 7, 3) := by decide +kernel
theorem dc_M_parts_8 : decode bc_M_parts 8 = .ok (.iconst 1, 1) := by decide +kernel
theorem dc_M_parts_9 : decode bc_M_parts 9 = .ok (.goto 4, 3) := by decide +kernel
theorem dc_M_parts_12 : decode bc_M_parts 12 = .ok (.iconst 0, 1) := by decide +kernel
theorem dc_M_parts_13 : decode bc_M_parts 13 = .ok (.putfield 35, 3) := by decide +kernel
theorem dc_M_parts_16 : decode bc_M_parts 16 = .ok (.aload_n 0, 1) := by decide +kernel
theorem dc_M_parts_17 : decode bc_M_parts 17 = .ok (.getfield 35, 3) := by decide +kernel
theorem dc_M_parts_20 : decode bc_M_parts 20 = .ok (.ifCond .eq 5, 3) := by decide +kernel
theorem dc_M_parts_23 : decode bc_M_parts 23 = .ok (.iconst 0, 1) := by decide +kernel
theorem dc_M_parts_24 : decode bc_M_parts 24 = .ok (.ireturn, 1) := by decide +kernel
theorem dc_M_parts_25 : decode bc_M_parts 25 = .ok (.iconst 0, 1) := by decide +kernel
theorem dc_M_parts_26 : decode bc_M_parts 26 = .ok (.istore_n 2, 1) := by decide +kernel
theorem dc_M_parts_27 : decode bc_M_parts 27 = .ok (.iload_n 2, 1) := by decide +kernel
theorem dc_M_parts_28 : decode bc_M_parts 28 = .ok (.bipush 12, 2) := by decide +kernel
theorem dc_M_parts_30 : decode bc_M_parts 30 = .ok (.if_icmp .ge 104, 3) := by decide +kernel
theorem dc_M_parts_33 : decode bc_M_parts 33 = .ok (.iconst 0, 1) := by decide +kernel
theorem dc_M_parts_34 : decode bc_M_parts 34 = .ok (.istore_n 3, 1) := by decide +kernel
theorem dc_M_parts_35 : decode bc_M_parts 35 = .ok (.iconst 0, 1) := by decide +kernel
theorem dc_M_parts_36 : decode bc_M_parts 36 = .ok (.istore 4, 2) := by decide +kernel
theorem dc_M_parts_38 : decode bc_M_parts 38 = .ok (.iconst 0, 1) := by decide +kernel
theorem dc_M_parts_39 : decode bc_M_parts 39 = .ok (.istore 5, 2) := by decide +kernel
theorem dc_M_parts_41 : decode bc_M_parts 41 = .ok (.iload 5, 2) := by decide +kernel
theorem dc_M_parts_43 : decode bc_M_parts 43 = .ok (.sipush 4096, 3) := by decide +kernel
theorem dc_M_parts_46 : decode bc_M_parts 46 = .ok (.if_icmp .ge 71, 3) := by decide +kernel
theorem dc_M_parts_49 : decode bc_M_parts 49 = .ok (.iload_n 3, 1) := by decide +kernel
theorem dc_M_parts_50 : decode bc_M_parts 50 = .ok (.ifCond .ne 23, 3) := by decide +kernel
theorem dc_M_parts_53 : decode bc_M_parts 53 = .ok (.aload_n 0, 1) := by decide +kernel
theorem dc_M_parts_54 : decode bc_M_parts 54 = .ok (.iload_n 1, 1) := by decide +kernel
theorem dc_M_parts_55 : decode bc_M_parts 55 = .ok (.iload 5, 2) := by decide +kernel
theorem dc_M_parts_57 : decode bc_M_parts 57 = .ok (.invokevirtual 58, 3) := by decide +kernel
theorem dc_M_parts_60 : decode bc_M_parts 60 = .ok (.ifCond .eq 17, 3) := by decide +kernel
theorem dc_M_parts_63 : decode bc_M_parts 63 = .ok (.iload 5, 2) := by decide +kernel
theorem dc_M_parts_65 : decode bc_M_parts 65 = .ok (.iload_n 2, 1) := by decide +kernel
theorem dc_M_parts_66 : decode bc_M_parts 66 = .ok (.invokestatic 102, 3) := by decide +kernel
theorem dc_M_parts_69 : decode bc_M_parts 69 = .ok (.iand, 1) := by decide +kernel
theorem dc_M_parts_70 : decode bc_M_parts 70 = .ok (.ifCond .eq 7, 3) := by decide +kernel
theorem dc_M_parts_73 : decode bc_M_parts 73 = .ok (.iconst 1, 1) := by decide +kernel
theorem dc_M_parts_74 : decode bc_M_parts 74 = .ok (.goto 4, 3) := by decide +kernel
theorem dc_M_parts_77 : decode bc_M_parts 77 = .ok (.iconst 0, 1) := by decide +kernel
theorem dc_M_parts_78 : decode bc_M_parts 78 = .ok (.istore_n 3, 1) := by decide +kernel
theorem dc_M_parts_79 : decode bc_M_parts 79 = .ok (.iload 4, 2) := by decide +kernel
theorem dc_M_parts_81 : decode bc_M_parts 81 = .ok (.ifCond .ne 23, 3) := by decide +kernel
theorem dc_M_parts_84 : decode bc_M_parts 84 = .ok (.aload_n 0, 1) := by decide +kernel
theorem dc_M_parts_85 : decode bc_M_parts 85 = .ok (.iload_n 1, 1) := by decide +kernel
theorem dc_M_parts_86 : decode bc_M_parts 86 = .ok (.iload 5, 2) := by decide +kernel
theorem dc_M_parts_88 : decode bc_M_parts 88 = .ok (.invokevirtual 58, 3) := by decide +kernel
theorem dc_M_parts_91 : decode bc_M_parts 91 = .ok (.ifCond .eq 17, 3) := by decide +kernel
theorem dc_M_parts_94 : decode bc_M_parts 94 = .ok (.iload 5, 2) := by decide +kernel
theorem dc_M_parts_96 : decode bc_M_parts 96 = .ok (.iload_n 2, 1) := by decide +kernel
theorem dc_M_parts_97 : decode bc_M_parts 97 = .ok (.invokestatic 102, 3) := by decide +kernel
theorem dc_M_parts_100 : decode bc_M_parts 100 = .ok (.iand, 1) := by decide +kernel
theorem dc_M_parts_101 : decode bc_M_parts 101 = .ok (.ifCond .ne 7, 3) := by decide +kernel
theorem dc_M_parts_104 : decode bc_M_parts 104 = .ok (.iconst 1, 1) := by decide +kernel
theorem dc_M_parts_105 : decode bc_M_parts 105 = .ok (.goto 4, 3) := by decide +kernel
theorem dc_M_parts_108 : decode bc_M_parts 108 = .ok (.iconst 0, 1) := by decide +kernel
theorem dc_M_parts_109 : decode bc_M_parts 109 = .ok (.istore 4, 2) := by decide +kernel
theorem dc_M_parts_111 : decode bc_M_parts 111 = .ok (.iinc 5 1, 3) := by decide +kernel
theorem dc_M_parts_114 : decode bc_M_parts 114 = .ok (.goto (-73), 3) := by decide +kernel
theorem dc_M_parts_117 : decode bc_M_parts 117 = .ok (.iload_n 3, 1) := by decide +kernel
theorem dc_M_parts_118 : decode bc_M_parts 118 = .ok (.ifCond .eq 10, 3) := by decide +kernel
theorem dc_M_parts_121 : decode bc_M_parts 121 = .ok (.iload 4, 2) := by decide +kernel
theorem dc_M_parts_123 : decode bc_M_parts 123 = .ok (.ifCond .eq 5, 3) := by decide +kernel
theorem dc_M_parts_126 : decode bc_M_parts 126 = .ok (.iload_n 2, 1) := by decide +kernel
theorem dc_M_parts_127 : decode bc_M_parts 127 = .ok (.ireturn, 1) := by decide +kernel
theorem dc_M_parts_128 : decode bc_M_parts 128 = .ok (.iinc 2 1, 3) := by decide +kernel
theorem dc_M_parts_131 : decode bc_M_parts 131 = .ok (.goto (-104), 3) := by decide +kernel
theorem dc_M_parts_134 : decode bc_M_parts 134 = .ok (.iconst (-1), 1) := by decide +kernel
theorem dc_M_parts_135 : decode bc_M_parts 135 = .ok (.ireturn, 1) := by decide +kernel
