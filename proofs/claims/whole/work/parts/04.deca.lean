theorem dc_F_init_0 : decode bc_F_init 0 = .ok (.aload_n 0, 1) := by decide +kernel
theorem dc_F_init_1 : decode bc_F_init 1 = .ok (.invokespecial 3, 3) := by decide +kernel
theorem dc_F_init_4 : decode bc_F_init 4 = .ok (.aload_n 0, 1) := by decide +kernel
theorem dc_F_init_5 : decode bc_F_init 5 = .ok (.bipush 64, 2) := by decide +kernel
theorem dc_F_init_7 : decode bc_F_init 7 = .ok (.newarray .long, 2) := by decide +kernel
theorem dc_F_init_9 : decode bc_F_init 9 = .ok (.putfield 9, 3) := by decide +kernel
theorem dc_F_init_12 : decode bc_F_init 12 = .ok (.return_, 1) := by decide +kernel
theorem dc_Ji_bitCount_0 : decode bc_Ji_bitCount 0 = .ok (.iload_n 0, 1) := by decide +kernel
theorem dc_Ji_bitCount_1 : decode bc_Ji_bitCount 1 = .ok (.iload_n 0, 1) := by decide +kernel
theorem dc_Ji_bitCount_2 : decode bc_Ji_bitCount 2 = .ok (.iconst 1, 1) := by decide +kernel
theorem dc_Ji_bitCount_3 : decode bc_Ji_bitCount 3 = .ok (.iushr, 1) := by decide +kernel
theorem dc_Ji_bitCount_4 : decode bc_Ji_bitCount 4 = .ok (.ldc_w 265, 3) := by decide +kernel
theorem dc_Ji_bitCount_7 : decode bc_Ji_bitCount 7 = .ok (.iand, 1) := by decide +kernel
theorem dc_Ji_bitCount_8 : decode bc_Ji_bitCount 8 = .ok (.isub, 1) := by decide +kernel
theorem dc_Ji_bitCount_9 : decode bc_Ji_bitCount 9 = .ok (.istore_n 0, 1) := by decide +kernel
theorem dc_Ji_bitCount_10 : decode bc_Ji_bitCount 10 = .ok (.iload_n 0, 1) := by decide +kernel
theorem dc_Ji_bitCount_11 : decode bc_Ji_bitCount 11 = .ok (.ldc_w 266, 3) := by decide +kernel
theorem dc_Ji_bitCount_14 : decode bc_Ji_bitCount 14 = .ok (.iand, 1) := by decide +kernel
theorem dc_Ji_bitCount_15 : decode bc_Ji_bitCount 15 = .ok (.iload_n 0, 1) := by decide +kernel
theorem dc_Ji_bitCount_16 : decode bc_Ji_bitCount 16 = .ok (.iconst 2, 1) := by decide +kernel
theorem dc_Ji_bitCount_17 : decode bc_Ji_bitCount 17 = .ok (.iushr, 1) := by decide +kernel
theorem dc_Ji_bitCount_18 : decode bc_Ji_bitCount 18 = .ok (.ldc_w 266, 3) := by decide +kernel
theorem dc_Ji_bitCount_21 : decode bc_Ji_bitCount 21 = .ok (.iand, 1) := by decide +kernel
theorem dc_Ji_bitCount_22 : decode bc_Ji_bitCount 22 = .ok (.iadd, 1) := by decide +kernel
theorem dc_Ji_bitCount_23 : decode bc_Ji_bitCount 23 = .ok (.istore_n 0, 1) := by decide +kernel
theorem dc_Ji_bitCount_24 : decode bc_Ji_bitCount 24 = .ok (.iload_n 0, 1) := by decide +kernel
theorem dc_Ji_bitCount_25 : decode bc_Ji_bitCount 25 = .ok (.iload_n 0, 1) := by decide +kernel
theorem dc_Ji_bitCount_26 : decode bc_Ji_bitCount 26 = .ok (.iconst 4, 1) := by decide +kernel
theorem dc_Ji_bitCount_27 : decode bc_Ji_bitCount 27 = .ok (.iushr, 1) := by decide +kernel
theorem dc_Ji_bitCount_28 : decode bc_Ji_bitCount 28 = .ok (.iadd, 1) := by decide +kernel
theorem dc_Ji_bitCount_29 : decode bc_Ji_bitCount 29 = .ok (.ldc_w 267, 3) := by decide +kernel
theorem dc_Ji_bitCount_32 : decode bc_Ji_bitCount 32 = .ok (.iand, 1) := by decide +kernel
theorem dc_Ji_bitCount_33 : decode bc_Ji_bitCount 33 = .ok (.istore_n 0, 1) := by decide +kernel
theorem dc_Ji_bitCount_34 : decode bc_Ji_bitCount 34 = .ok (.iload_n 0, 1) := by decide +kernel
theorem dc_Ji_bitCount_35 : decode bc_Ji_bitCount 35 = .ok (.iload_n 0, 1) := by decide +kernel
theorem dc_Ji_bitCount_36 : decode bc_Ji_bitCount 36 = .ok (.bipush 8, 2) := by decide +kernel
theorem dc_Ji_bitCount_38 : decode bc_Ji_bitCount 38 = .ok (.iushr, 1) := by decide +kernel
theorem dc_Ji_bitCount_39 : decode bc_Ji_bitCount 39 = .ok (.iadd, 1) := by decide +kernel
theorem dc_Ji_bitCount_40 : decode bc_Ji_bitCount 40 = .ok (.istore_n 0, 1) := by decide +kernel
theorem dc_Ji_bitCount_41 : decode bc_Ji_bitCount 41 = .ok (.iload_n 0, 1) := by decide +kernel
theorem dc_Ji_bitCount_42 : decode bc_Ji_bitCount 42 = .ok (.iload_n 0, 1) := by decide +kernel
theorem dc_Ji_bitCount_43 : decode bc_Ji_bitCount 43 = .ok (.bipush 16, 2) := by decide +kernel
theorem dc_Ji_bitCount_45 : decode bc_Ji_bitCount 45 = .ok (.iushr, 1) := by decide +kernel
theorem dc_Ji_bitCount_46 : decode bc_Ji_bitCount 46 = .ok (.iadd, 1) := by decide +kernel
theorem dc_Ji_bitCount_47 : decode bc_Ji_bitCount 47 = .ok (.istore_n 0, 1) := by decide +kernel
theorem dc_Ji_bitCount_48 : decode bc_Ji_bitCount 48 = .ok (.iload_n 0, 1) := by decide +kernel
theorem dc_Ji_bitCount_49 : decode bc_Ji_bitCount 49 = .ok (.bipush 63, 2) := by decide +kernel
theorem dc_Ji_bitCount_51 : decode bc_Ji_bitCount 51 = .ok (.iand, 1) := by decide +kernel
theorem dc_Ji_bitCount_52 : decode bc_Ji_bitCount 52 = .ok (.ireturn, 1) := by decide +kernel
theorem dc_G_init_0 : decode bc_G_init 0 = .ok (.aload_n 0, 1) := by decide +kernel
theorem dc_G_init_1 : decode bc_G_init 1 = .ok (.invokespecial 3, 3) := by decide +kernel
theorem dc_G_init_4 : decode bc_G_init 4 = .ok (.aload_n 0, 1) := by decide +kernel
theorem dc_G_init_5 : decode bc_G_init 5 = .ok (.bipush 12, 2) := by decide +kernel
theorem dc_G_init_7 : decode bc_G_init 7 = .ok (.newarray .int, 2) := by decide +kernel
theorem dc_G_init_9 : decode bc_G_init 9 = .ok (.putfield 9, 3) := by decide +kernel
theorem dc_G_init_12 : decode bc_G_init 12 = .ok (.return_, 1) := by decide +kernel
theorem dc_W_init_0 : decode bc_W_init 0 = .ok (.aload_n 0, 1) := by decide +kernel
theorem dc_W_init_1 : decode bc_W_init 1 = .ok (.invokespecial 3, 3) := by decide +kernel
theorem dc_W_init_4 : decode bc_W_init 4 = .ok (.aload_n 0, 1) := by decide +kernel
theorem dc_W_init_5 : decode bc_W_init 5 = .ok (.bipush 12, 2) := by decide +kernel
theorem dc_W_init_7 : decode bc_W_init 7 = .ok (.newarray .int, 2) := by decide +kernel
theorem dc_W_init_9 : decode bc_W_init 9 = .ok (.putfield 9, 3) := by decide +kernel
theorem dc_W_init_12 : decode bc_W_init 12 = .ok (.aload_n 0, 1) := by decide +kernel
theorem dc_W_init_13 : decode bc_W_init 13 = .ok (.bipush 64, 2) := by decide +kernel
theorem dc_W_init_15 : decode bc_W_init 15 = .ok (.newarray .int, 2) := by decide +kernel
theorem dc_W_init_17 : decode bc_W_init 17 = .ok (.putfield 15, 3) := by decide +kernel
theorem dc_W_init_20 : decode bc_W_init 20 = .ok (.aload_n 0, 1) := by decide +kernel
theorem dc_W_init_21 : decode bc_W_init 21 = .ok (.bipush 64, 2) := by decide +kernel
theorem dc_W_init_23 : decode bc_W_init 23 = .ok (.newarray .int, 2) := by decide +kernel
theorem dc_W_init_25 : decode bc_W_init 25 = .ok (.putfield 18, 3) := by decide +kernel
theorem dc_W_init_28 : decode bc_W_init 28 = .ok (.return_, 1) := by decide +kernel
theorem dc_D_init_0 : decode bc_D_init 0 = .ok (.aload_n 0, 1) := by decide +kernel
theorem dc_D_init_1 : decode bc_D_init 1 = .ok (.invokespecial 3, 3) := by decide +kernel
theorem dc_D_init_4 : decode bc_D_init 4 = .ok (.aload_n 0, 1) := by decide +kernel
theorem dc_D_init_5 : decode bc_D_init 5 = .ok (.sipush 4096, 3) := by decide +kernel
theorem dc_D_init_8 : decode bc_D_init 8 = .ok (.newarray .int, 2) := by decide +kernel
theorem dc_D_init_10 : decode bc_D_init 10 = .ok (.putfield 9, 3) := by decide +kernel
theorem dc_D_init_13 : decode bc_D_init 13 = .ok (.aload_n 0, 1) := by decide +kernel
theorem dc_D_init_14 : decode bc_D_init 14 = .ok (.sipush 767, 3) := by decide +kernel
theorem dc_D_init_17 : decode bc_D_init 17 = .ok (.newarray .int, 2) := by decide +kernel
theorem dc_D_init_19 : decode bc_D_init 19 = .ok (.putfield 15, 3) := by decide +kernel
theorem dc_D_init_22 : decode bc_D_init 22 = .ok (.aload_n 0, 1) := by decide +kernel
theorem dc_D_init_23 : decode bc_D_init 23 = .ok (.sipush 767, 3) := by decide +kernel
theorem dc_D_init_26 : decode bc_D_init 26 = .ok (.newarray .int, 2) := by decide +kernel
theorem dc_D_init_28 : decode bc_D_init 28 = .ok (.putfield 18, 3) := by decide +kernel
theorem dc_D_init_31 : decode bc_D_init 31 = .ok (.aload_n 0, 1) := by decide +kernel
theorem dc_D_init_32 : decode bc_D_init 32 = .ok (.sipush 767, 3) := by decide +kernel
theorem dc_D_init_35 : decode bc_D_init 35 = .ok (.newarray .int, 2) := by decide +kernel
theorem dc_D_init_37 : decode bc_D_init 37 = .ok (.putfield 21, 3) := by decide +kernel
theorem dc_D_init_40 : decode bc_D_init 40 = .ok (.return_, 1) := by decide +kernel
theorem dc_F_holds_0 : decode bc_F_holds 0 = .ok (.aload_n 0, 1) := by decide +kernel
theorem dc_F_holds_1 : decode bc_F_holds 1 = .ok (.getfield 9, 3) := by decide +kernel
theorem dc_F_holds_4 : decode bc_F_holds 4 = .ok (.iload_n 1, 1) := by decide +kernel
theorem dc_F_holds_5 : decode bc_F_holds 5 = .ok (.bipush 6, 2) := by decide +kernel
theorem dc_F_holds_7 : decode bc_F_holds 7 = .ok (.ishr, 1) := by decide +kernel
theorem dc_F_holds_8 : decode bc_F_holds 8 = .ok (.laload, 1) := by decide +kernel
theorem dc_F_holds_9 : decode bc_F_holds 9 = .ok (.iload_n 1, 1) := by decide +kernel
theorem dc_F_holds_10 : decode bc_F_holds 10 = .ok (.bipush 63, 2) := by decide +kernel
theorem dc_F_holds_12 : decode bc_F_holds 12 = .ok (.iand, 1) := by decide +kernel
theorem dc_F_holds_13 : decode bc_F_holds 13 = .ok (.lushr, 1) := by decide +kernel
theorem dc_F_holds_14 : decode bc_F_holds 14 = .ok (.lconst 1, 1) := by decide +kernel
theorem dc_F_holds_15 : decode bc_F_holds 15 = .ok (.land, 1) := by decide +kernel
theorem dc_F_holds_16 : decode bc_F_holds 16 = .ok (.lconst 0, 1) := by decide +kernel
theorem dc_F_holds_17 : decode bc_F_holds 17 = .ok (.lcmp, 1) := by decide +kernel
theorem dc_F_holds_18 : decode bc_F_holds 18 = .ok (.ifCond .eq 7, 3) := by decide +kernel
theorem dc_F_holds_21 : decode bc_F_holds 21 = .ok (.iconst 1, 1) := by decide +kernel
theorem dc_F_holds_22 : decode bc_F_holds 22 = .ok (.goto 4, 3) := by decide +kernel
theorem dc_F_holds_25 : decode bc_F_holds 25 = .ok (.iconst 0, 1) := by decide +kernel
theorem dc_F_holds_26 : decode bc_F_holds 26 = .ok (.ireturn, 1) := by decide +kernel
theorem dc_F_include_0 : decode bc_F_include 0 = .ok (.aload_n 0, 1) := by decide +kernel
theorem dc_F_include_1 : decode bc_F_include 1 = .ok (.getfield 9, 3) := by decide +kernel
theorem dc_F_include_4 : decode bc_F_include 4 = .ok (.iload_n 1, 1) := by decide +kernel
theorem dc_F_include_5 : decode bc_F_include 5 = .ok (.bipush 6, 2) := by decide +kernel
theorem dc_F_include_7 : decode bc_F_include 7 = .ok (.ishr, 1) := by decide +kernel
theorem dc_F_include_8 : decode bc_F_include 8 = .ok (.dup2, 1) := by decide +kernel
theorem dc_F_include_9 : decode bc_F_include 9 = .ok (.laload, 1) := by decide +kernel
theorem dc_F_include_10 : decode bc_F_include 10 = .ok (.lconst 1, 1) := by decide +kernel
theorem dc_F_include_11 : decode bc_F_include 11 = .ok (.iload_n 1, 1) := by decide +kernel
theorem dc_F_include_12 : decode bc_F_include 12 = .ok (.bipush 63, 2) := by decide +kernel
theorem dc_F_include_14 : decode bc_F_include 14 = .ok (.iand, 1) := by decide +kernel
theorem dc_F_include_15 : decode bc_F_include 15 = .ok (.lshl, 1) := by decide +kernel
theorem dc_F_include_16 : decode bc_F_include 16 = .ok (.lor, 1) := by decide +kernel
theorem dc_F_include_17 : decode bc_F_include 17 = .ok (.lastore, 1) := by decide +kernel
theorem dc_F_include_18 : decode bc_F_include 18 = .ok (.return_, 1) := by decide +kernel
theorem dc_F_exclude_0 : decode bc_F_exclude 0 = .ok (.aload_n 0, 1) := by decide +kernel
theorem dc_F_exclude_1 : decode bc_F_exclude 1 = .ok (.getfield 9, 3) := by decide +kernel
theorem dc_F_exclude_4 : decode bc_F_exclude 4 = .ok (.iload_n 1, 1) := by decide +kernel
theorem dc_F_exclude_5 : decode bc_F_exclude 5 = .ok (.bipush 6, 2) := by decide +kernel
theorem dc_F_exclude_7 : decode bc_F_exclude 7 = .ok (.ishr, 1) := by decide +kernel
theorem dc_F_exclude_8 : decode bc_F_exclude 8 = .ok (.dup2, 1) := by decide +kernel
theorem dc_F_exclude_9 : decode bc_F_exclude 9 = .ok (.laload, 1) := by decide +kernel
theorem dc_F_exclude_10 : decode bc_F_exclude 10 = .ok (.lconst 1, 1) := by decide +kernel
theorem dc_F_exclude_11 : decode bc_F_exclude 11 = .ok (.iload_n 1, 1) := by decide +kernel
theorem dc_F_exclude_12 : decode bc_F_exclude 12 = .ok (.bipush 63, 2) := by decide +kernel
theorem dc_F_exclude_14 : decode bc_F_exclude 14 = .ok (.iand, 1) := by decide +kernel
theorem dc_F_exclude_15 : decode bc_F_exclude 15 = .ok (.lshl, 1) := by decide +kernel
theorem dc_F_exclude_16 : decode bc_F_exclude 16 = .ok (.ldc2_w 27, 3) := by decide +kernel
theorem dc_F_exclude_19 : decode bc_F_exclude 19 = .ok (.lxor, 1) := by decide +kernel
theorem dc_F_exclude_20 : decode bc_F_exclude 20 = .ok (.land, 1) := by decide +kernel
theorem dc_F_exclude_21 : decode bc_F_exclude 21 = .ok (.lastore, 1) := by decide +kernel
theorem dc_F_exclude_22 : decode bc_F_exclude 22 = .ok (.return_, 1) := by decide +kernel
theorem dc_F_total_0 : decode bc_F_total 0 = .ok (.aload_n 0, 1) := by decide +kernel
theorem dc_F_total_1 : decode bc_F_total 1 = .ok (.bipush 64, 2) := by decide +kernel
theorem dc_F_total_3 : decode bc_F_total 3 = .ok (.invokevirtual 29, 3) := by decide +kernel
theorem dc_F_total_6 : decode bc_F_total 6 = .ok (.ireturn, 1) := by decide +kernel
theorem dc_F_totalOfWords_0 : decode bc_F_totalOfWords 0 = .ok (.iconst 0, 1) := by decide +kernel
theorem dc_F_totalOfWords_1 : decode bc_F_totalOfWords 1 = .ok (.istore_n 2, 1) := by decide +kernel
theorem dc_F_totalOfWords_2 : decode bc_F_totalOfWords 2 = .ok (.iconst 0, 1) := by decide +kernel
theorem dc_F_totalOfWords_3 : decode bc_F_totalOfWords 3 = .ok (.istore_n 3, 1) := by decide +kernel
theorem dc_F_totalOfWords_4 : decode bc_F_totalOfWords 4 = .ok (.iload_n 3, 1) := by decide +kernel
theorem dc_F_totalOfWords_5 : decode bc_F_totalOfWords 5 = .ok (.iload_n 1, 1) := by decide +kernel
theorem dc_F_totalOfWords_6 : decode bc_F_totalOfWords 6 = .ok (.if_icmp .ge 21, 3) := by decide +kernel
theorem dc_F_totalOfWords_9 : decode bc_F_totalOfWords 9 = .ok (.iload_n 2, 1) := by decide +kernel
theorem dc_F_totalOfWords_10 : decode bc_F_totalOfWords 10 = .ok (.aload_n 0, 1) := by decide +kernel
theorem dc_F_totalOfWords_11 : decode bc_F_totalOfWords 11 = .ok (.getfield 9, 3) := by decide +kernel
theorem dc_F_totalOfWords_14 : decode bc_F_totalOfWords 14 = .ok (.iload_n 3, 1) := by decide +kernel
theorem dc_F_totalOfWords_15 : decode bc_F_totalOfWords 15 = .ok (.laload, 1) := by decide +kernel
theorem dc_F_totalOfWords_16 : decode bc_F_totalOfWords 16 = .ok (.invokestatic 33, 3) := by decide +kernel
theorem dc_F_totalOfWords_19 : decode bc_F_totalOfWords 19 = .ok (.iadd, 1) := by decide +kernel
theorem dc_F_totalOfWords_20 : decode bc_F_totalOfWords 20 = .ok (.istore_n 2, 1) := by decide +kernel
theorem dc_F_totalOfWords_21 : decode bc_F_totalOfWords 21 = .ok (.iinc 3 1, 3) := by decide +kernel
theorem dc_F_totalOfWords_24 : decode bc_F_totalOfWords 24 = .ok (.goto (-20), 3) := by decide +kernel
theorem dc_F_totalOfWords_27 : decode bc_F_totalOfWords 27 = .ok (.iload_n 2, 1) := by decide +kernel
theorem dc_F_totalOfWords_28 : decode bc_F_totalOfWords 28 = .ok (.ireturn, 1) := by decide +kernel
theorem dc_Jl_bitCount_0 : decode bc_Jl_bitCount 0 = .ok (.lload_n 0, 1) := by decide +kernel
theorem dc_Jl_bitCount_1 : decode bc_Jl_bitCount 1 = .ok (.lload_n 0, 1) := by decide +kernel
theorem dc_Jl_bitCount_2 : decode bc_Jl_bitCount 2 = .ok (.iconst 1, 1) := by decide +kernel
theorem dc_Jl_bitCount_3 : decode bc_Jl_bitCount 3 = .ok (.lushr, 1) := by decide +kernel
theorem dc_Jl_bitCount_4 : decode bc_Jl_bitCount 4 = .ok (.ldc2_w 314, 3) := by decide +kernel
theorem dc_Jl_bitCount_7 : decode bc_Jl_bitCount 7 = .ok (.land, 1) := by decide +kernel
theorem dc_Jl_bitCount_8 : decode bc_Jl_bitCount 8 = .ok (.lsub, 1) := by decide +kernel
theorem dc_Jl_bitCount_9 : decode bc_Jl_bitCount 9 = .ok (.lstore_n 0, 1) := by decide +kernel
theorem dc_Jl_bitCount_10 : decode bc_Jl_bitCount 10 = .ok (.lload_n 0, 1) := by decide +kernel
theorem dc_Jl_bitCount_11 : decode bc_Jl_bitCount 11 = .ok (.ldc2_w 316, 3) := by decide +kernel
theorem dc_Jl_bitCount_14 : decode bc_Jl_bitCount 14 = .ok (.land, 1) := by decide +kernel
theorem dc_Jl_bitCount_15 : decode bc_Jl_bitCount 15 = .ok (.lload_n 0, 1) := by decide +kernel
theorem dc_Jl_bitCount_16 : decode bc_Jl_bitCount 16 = .ok (.iconst 2, 1) := by decide +kernel
theorem dc_Jl_bitCount_17 : decode bc_Jl_bitCount 17 = .ok (.lushr, 1) := by decide +kernel
theorem dc_Jl_bitCount_18 : decode bc_Jl_bitCount 18 = .ok (.ldc2_w 316, 3) := by decide +kernel
theorem dc_Jl_bitCount_21 : decode bc_Jl_bitCount 21 = .ok (.land, 1) := by decide +kernel
theorem dc_Jl_bitCount_22 : decode bc_Jl_bitCount 22 = .ok (.ladd, 1) := by decide +kernel
theorem dc_Jl_bitCount_23 : decode bc_Jl_bitCount 23 = .ok (.lstore_n 0, 1) := by decide +kernel
theorem dc_Jl_bitCount_24 : decode bc_Jl_bitCount 24 = .ok (.lload_n 0, 1) := by decide +kernel
theorem dc_Jl_bitCount_25 : decode bc_Jl_bitCount 25 = .ok (.lload_n 0, 1) := by decide +kernel
theorem dc_Jl_bitCount_26 : decode bc_Jl_bitCount 26 = .ok (.iconst 4, 1) := by decide +kernel
theorem dc_Jl_bitCount_27 : decode bc_Jl_bitCount 27 = .ok (.lushr, 1) := by decide +kernel
theorem dc_Jl_bitCount_28 : decode bc_Jl_bitCount 28 = .ok (.ladd, 1) := by decide +kernel
theorem dc_Jl_bitCount_29 : decode bc_Jl_bitCount 29 = .ok (.ldc2_w 318, 3) := by decide +kernel
theorem dc_Jl_bitCount_32 : decode bc_Jl_bitCount 32 = .ok (.land, 1) := by decide +kernel
theorem dc_Jl_bitCount_33 : decode bc_Jl_bitCount 33 = .ok (.lstore_n 0, 1) := by decide +kernel
theorem dc_Jl_bitCount_34 : decode bc_Jl_bitCount 34 = .ok (.lload_n 0, 1) := by decide +kernel
theorem dc_Jl_bitCount_35 : decode bc_Jl_bitCount 35 = .ok (.lload_n 0, 1) := by decide +kernel
theorem dc_Jl_bitCount_36 : decode bc_Jl_bitCount 36 = .ok (.bipush 8, 2) := by decide +kernel
theorem dc_Jl_bitCount_38 : decode bc_Jl_bitCount 38 = .ok (.lushr, 1) := by decide +kernel
theorem dc_Jl_bitCount_39 : decode bc_Jl_bitCount 39 = .ok (.ladd, 1) := by decide +kernel
theorem dc_Jl_bitCount_40 : decode bc_Jl_bitCount 40 = .ok (.lstore_n 0, 1) := by decide +kernel
theorem dc_Jl_bitCount_41 : decode bc_Jl_bitCount 41 = .ok (.lload_n 0, 1) := by decide +kernel
theorem dc_Jl_bitCount_42 : decode bc_Jl_bitCount 42 = .ok (.lload_n 0, 1) := by decide +kernel
theorem dc_Jl_bitCount_43 : decode bc_Jl_bitCount 43 = .ok (.bipush 16, 2) := by decide +kernel
theorem dc_Jl_bitCount_45 : decode bc_Jl_bitCount 45 = .ok (.lushr, 1) := by decide +kernel
theorem dc_Jl_bitCount_46 : decode bc_Jl_bitCount 46 = .ok (.ladd, 1) := by decide +kernel
theorem dc_Jl_bitCount_47 : decode bc_Jl_bitCount 47 = .ok (.lstore_n 0, 1) := by decide +kernel
theorem dc_Jl_bitCount_48 : decode bc_Jl_bitCount 48 = .ok (.lload_n 0, 1) := by decide +kernel
theorem dc_Jl_bitCount_49 : decode bc_Jl_bitCount 49 = .ok (.lload_n 0, 1) := by decide +kernel
theorem dc_Jl_bitCount_50 : decode bc_Jl_bitCount 50 = .ok (.bipush 32, 2) := by decide +kernel
theorem dc_Jl_bitCount_52 : decode bc_Jl_bitCount 52 = .ok (.lushr, 1) := by decide +kernel
theorem dc_Jl_bitCount_53 : decode bc_Jl_bitCount 53 = .ok (.ladd, 1) := by decide +kernel
theorem dc_Jl_bitCount_54 : decode bc_Jl_bitCount 54 = .ok (.lstore_n 0, 1) := by decide +kernel
theorem dc_Jl_bitCount_55 : decode bc_Jl_bitCount 55 = .ok (.lload_n 0, 1) := by decide +kernel
theorem dc_Jl_bitCount_56 : decode bc_Jl_bitCount 56 = .ok (.l2i, 1) := by decide +kernel
theorem dc_Jl_bitCount_57 : decode bc_Jl_bitCount 57 = .ok (.bipush 127, 2) := by decide +kernel
theorem dc_Jl_bitCount_59 : decode bc_Jl_bitCount 59 = .ok (.iand, 1) := by decide +kernel
theorem dc_Jl_bitCount_60 : decode bc_Jl_bitCount 60 = .ok (.ireturn, 1) := by decide +kernel
theorem dc_F_fill_0 : decode bc_F_fill 0 = .ok (.aload_n 0, 1) := by decide +kernel
theorem dc_F_fill_1 : decode bc_F_fill 1 = .ok (.getfield 9, 3) := by decide +kernel
theorem dc_F_fill_4 : decode bc_F_fill 4 = .ok (.lload_n 1, 1) := by decide +kernel
theorem dc_F_fill_5 : decode bc_F_fill 5 = .ok (.invokestatic 15, 3) := by decide +kernel
theorem dc_F_fill_8 : decode bc_F_fill 8 = .ok (.return_, 1) := by decide +kernel
theorem dc_Ja_fill_JJV_0 : decode bc_Ja_fill_JJV 0 = .ok (.iconst 0, 1) := by decide +kernel
theorem dc_Ja_fill_JJV_1 : decode bc_Ja_fill_JJV 1 = .ok (.istore_n 3, 1) := by decide +kernel
theorem dc_Ja_fill_JJV_2 : decode bc_Ja_fill_JJV 2 = .ok (.aload_n 0, 1) := by decide +kernel
theorem dc_Ja_fill_JJV_3 : decode bc_Ja_fill_JJV 3 = .ok (.arraylength, 1) := by decide +kernel
theorem dc_Ja_fill_JJV_4 : decode bc_Ja_fill_JJV 4 = .ok (.istore 4, 2) := by decide +kernel
theorem dc_Ja_fill_JJV_6 : decode bc_Ja_fill_JJV 6 = .ok (.iload_n 3, 1) := by decide +kernel
theorem dc_Ja_fill_JJV_7 : decode bc_Ja_fill_JJV 7 = .ok (.iload 4, 2) := by decide +kernel
theorem dc_Ja_fill_JJV_9 : decode bc_Ja_fill_JJV 9 = .ok (.if_icmp .ge 13, 3) := by decide +kernel
theorem dc_Ja_fill_JJV_12 : decode bc_Ja_fill_JJV 12 = .ok (.aload_n 0, 1) := by decide +kernel
theorem dc_Ja_fill_JJV_13 : decode bc_Ja_fill_JJV 13 = .ok (.iload_n 3, 1) := by decide +kernel
theorem dc_Ja_fill_JJV_14 : decode bc_Ja_fill_JJV 14 = .ok (.lload_n 1, 1) := by decide +kernel
theorem dc_Ja_fill_JJV_15 : decode bc_Ja_fill_JJV 15 = .ok (.lastore, 1) := by decide +kernel
theorem dc_Ja_fill_JJV_16 : decode bc_Ja_fill_JJV 16 = .ok (.iinc 3 1, 3) := by decide +kernel
theorem dc_Ja_fill_JJV_19 : decode bc_Ja_fill_JJV 19 = .ok (.goto (-13), 3) := by decide +kernel
theorem dc_Ja_fill_JJV_22 : decode bc_Ja_fill_JJV 22 = .ok (.return_, 1) := by decide +kernel
theorem dc_F_copyFrom_0 : decode bc_F_copyFrom 0 = .ok (.aload_n 1, 1) := by decide +kernel
theorem dc_F_copyFrom_1 : decode bc_F_copyFrom 1 = .ok (.getfield 9, 3) := by decide +kernel
theorem dc_F_copyFrom_4 : decode bc_F_copyFrom 4 = .ok (.iconst 0, 1) := by decide +kernel
theorem dc_F_copyFrom_5 : decode bc_F_copyFrom 5 = .ok (.aload_n 0, 1) := by decide +kernel
theorem dc_F_copyFrom_6 : decode bc_F_copyFrom 6 = .ok (.getfield 9, 3) := by decide +kernel
theorem dc_F_copyFrom_9 : decode bc_F_copyFrom 9 = .ok (.iconst 0, 1) := by decide +kernel
theorem dc_F_copyFrom_10 : decode bc_F_copyFrom 10 = .ok (.bipush 64, 2) := by decide +kernel
theorem dc_F_copyFrom_12 : decode bc_F_copyFrom 12 = .ok (.invokestatic 21, 3) := by decide +kernel
theorem dc_F_copyFrom_15 : decode bc_F_copyFrom 15 = .ok (.return_, 1) := by decide +kernel
theorem dc_F_close_0 : decode bc_F_close 0 = .ok (.iconst 0, 1) := by decide +kernel
theorem dc_F_close_1 : decode bc_F_close 1 = .ok (.istore_n 2, 1) := by decide +kernel
theorem dc_F_close_2 : decode bc_F_close 2 = .ok (.iload_n 2, 1) := by decide +kernel
theorem dc_F_close_3 : decode bc_F_close 3 = .ok (.bipush 12, 2) := by decide +kernel
theorem dc_F_close_5 : decode bc_F_close 5 = .ok (.if_icmp .ge 39, 3) := by decide +kernel
theorem dc_F_close_8 : decode bc_F_close 8 = .ok (.iconst 0, 1) := by decide +kernel
theorem dc_F_close_9 : decode bc_F_close 9 = .ok (.istore_n 3, 1) := by decide +kernel
theorem dc_F_close_10 : decode bc_F_close 10 = .ok (.iload_n 3, 1) := by decide +kernel
theorem dc_F_close_11 : decode bc_F_close 11 = .ok (.bipush 64, 2) := by decide +kernel
theorem dc_F_close_13 : decode bc_F_close 13 = .ok (.if_icmp .ge 25, 3) := by decide +kernel
theorem dc_F_close_16 : decode bc_F_close 16 = .ok (.aload_n 0, 1) := by decide +kernel
theorem dc_F_close_17 : decode bc_F_close 17 = .ok (.getfield 9, 3) := by decide +kernel
theorem dc_F_close_20 : decode bc_F_close 20 = .ok (.iload_n 3, 1) := by decide +kernel
theorem dc_F_close_21 : decode bc_F_close 21 = .ok (.dup2, 1) := by decide +kernel
theorem dc_F_close_22 : decode bc_F_close 22 = .ok (.laload, 1) := by decide +kernel
theorem dc_F_close_23 : decode bc_F_close 23 = .ok (.aload_n 0, 1) := by decide +kernel
theorem dc_F_close_24 : decode bc_F_close 24 = .ok (.iload_n 3, 1) := by decide +kernel
theorem dc_F_close_25 : decode bc_F_close 25 = .ok (.iload_n 2, 1) := by decide +kernel
theorem dc_F_close_26 : decode bc_F_close 26 = .ok (.iload_n 1, 1) := by decide +kernel
theorem dc_F_close_27 : decode bc_F_close 27 = .ok (.invokevirtual 59, 3) := by decide +kernel
theorem dc_F_close_30 : decode bc_F_close 30 = .ok (.lor, 1) := by decide +kernel
theorem dc_F_close_31 : decode bc_F_close 31 = .ok (.lastore, 1) := by decide +kernel
theorem dc_F_close_32 : decode bc_F_close 32 = .ok (.iinc 3 1, 3) := by decide +kernel
theorem dc_F_close_35 : decode bc_F_close 35 = .ok (.goto (-25), 3) := by decide +kernel
theorem dc_F_close_38 : decode bc_F_close 38 = .ok (.iinc 2 1, 3) := by decide +kernel
theorem dc_F_close_41 : decode bc_F_close 41 = .ok (.goto (-39), 3) := by decide +kernel
theorem dc_F_close_44 : decode bc_F_close 44 = .ok (.return_, 1) := by decide +kernel
theorem dc_F_moved_0 : decode bc_F_moved 0 = .ok (.iload_n 3, 1) := by decide +kernel
theorem dc_F_moved_1 : decode bc_F_moved 1 = .ok (.ifCond .eq 12, 3) := by decide +kernel
theorem dc_F_moved_4 : decode bc_F_moved 4 = .ok (.aload_n 0, 1) := by decide +kernel
theorem dc_F_moved_5 : decode bc_F_moved 5 = .ok (.iload_n 1, 1) := by decide +kernel
theorem dc_F_moved_6 : decode bc_F_moved 6 = .ok (.iload_n 2, 1) := by decide +kernel
theorem dc_F_moved_7 : decode bc_F_moved 7 = .ok (.invokevirtual 53, 3) := by decide +kernel
theorem dc_F_moved_10 : decode bc_F_moved 10 = .ok (.goto 9, 3) := by decide +kernel
theorem dc_F_moved_13 : decode bc_F_moved 13 = .ok (.aload_n 0, 1) := by decide +kernel
theorem dc_F_moved_14 : decode bc_F_moved 14 = .ok (.iload_n 1, 1) := by decide +kernel
theorem dc_F_moved_15 : decode bc_F_moved 15 = .ok (.iload_n 2, 1) := by decide +kernel
theorem dc_F_moved_16 : decode bc_F_moved 16 = .ok (.invokevirtual 56, 3) := by decide +kernel
theorem dc_F_moved_19 : decode bc_F_moved 19 = .ok (.lreturn, 1) := by decide +kernel
theorem dc_F_lowered_0 : decode bc_F_lowered 0 = .ok (.iload_n 2, 1) := by decide +kernel
theorem dc_F_lowered_1 : decode bc_F_lowered 1 = .ok (.bipush 6, 2) := by decide +kernel
theorem dc_F_lowered_3 : decode bc_F_lowered 3 = .ok (.if_icmp .ge 14, 3) := by decide +kernel
theorem dc_F_lowered_6 : decode bc_F_lowered 6 = .ok (.aload_n 0, 1) := by decide +kernel
theorem dc_F_lowered_7 : decode bc_F_lowered 7 = .ok (.iload_n 1, 1) := by decide +kernel
theorem dc_F_lowered_8 : decode bc_F_lowered 8 = .ok (.iload_n 2, 1) := by decide +kernel
theorem dc_F_lowered_9 : decode bc_F_lowered 9 = .ok (.invokevirtual 43, 3) := by decide +kernel
theorem dc_F_lowered_12 : decode bc_F_lowered 12 = .ok (.iconst 1, 1) := by decide +kernel
theorem dc_F_lowered_13 : decode bc_F_lowered 13 = .ok (.iload_n 2, 1) := by decide +kernel
theorem dc_F_lowered_14 : decode bc_F_lowered 14 = .ok (.ishl, 1) := by decide +kernel
theorem dc_F_lowered_15 : decode bc_F_lowered 15 = .ok (.lushr, 1) := by decide +kernel
theorem dc_F_lowered_16 : decode bc_F_lowered 16 = .ok (.lreturn, 1) := by decide +kernel
theorem dc_F_lowered_17 : decode bc_F_lowered 17 = .ok (.iconst 1, 1) := by decide +kernel
theorem dc_F_lowered_18 : decode bc_F_lowered 18 = .ok (.iload_n 2, 1) := by decide +kernel
theorem dc_F_lowered_19 : decode bc_F_lowered 19 = .ok (.bipush 6, 2) := by decide +kernel
theorem dc_F_lowered_21 : decode bc_F_lowered 21 = .ok (.isub, 1) := by decide +kernel
theorem dc_F_lowered_22 : decode bc_F_lowered 22 = .ok (.ishl, 1) := by decide +kernel
theorem dc_F_lowered_23 : decode bc_F_lowered 23 = .ok (.istore_n 3, 1) := by decide +kernel
theorem dc_F_lowered_24 : decode bc_F_lowered 24 = .ok (.iload_n 1, 1) := by decide +kernel
theorem dc_F_lowered_25 : decode bc_F_lowered 25 = .ok (.iload_n 3, 1) := by decide +kernel
theorem dc_F_lowered_26 : decode bc_F_lowered 26 = .ok (.iand, 1) := by decide +kernel
theorem dc_F_lowered_27 : decode bc_F_lowered 27 = .ok (.ifCond .ne 14, 3) := by decide +kernel
theorem dc_F_lowered_30 : decode bc_F_lowered 30 = .ok (.aload_n 0, 1) := by decide +kernel
theorem dc_F_lowered_31 : decode bc_F_lowered 31 = .ok (.getfield 9, 3) := by decide +kernel
theorem dc_F_lowered_34 : decode bc_F_lowered 34 = .ok (.iload_n 1, 1) := by decide +kernel
theorem dc_F_lowered_35 : decode bc_F_lowered 35 = .ok (.iload_n 3, 1) := by decide +kernel
theorem dc_F_lowered_36 : decode bc_F_lowered 36 = .ok (.ior, 1) := by decide +kernel
theorem dc_F_lowered_37 : decode bc_F_lowered 37 = .ok (.laload, 1) := by decide +kernel
theorem dc_F_lowered_38 : decode bc_F_lowered 38 = .ok (.goto 4, 3) := by decide +kernel
theorem dc_F_lowered_41 : decode bc_F_lowered 41 = .ok (.lconst 0, 1) := by decide +kernel
theorem dc_F_lowered_42 : decode bc_F_lowered 42 = .ok (.lreturn, 1) := by decide +kernel
theorem dc_F_having_0 : decode bc_F_having 0 = .ok (.iload_n 2, 1) := by decide +kernel
theorem dc_F_having_1 : decode bc_F_having 1 = .ok (.bipush 6, 2) := by decide +kernel
theorem dc_F_having_3 : decode bc_F_having 3 = .ok (.if_icmp .ge 16, 3) := by decide +kernel
theorem dc_F_having_6 : decode bc_F_having 6 = .ok (.aload_n 0, 1) := by decide +kernel
theorem dc_F_having_7 : decode bc_F_having 7 = .ok (.getfield 9, 3) := by decide +kernel
theorem dc_F_having_10 : decode bc_F_having 10 = .ok (.iload_n 1, 1) := by decide +kernel
theorem dc_F_having_11 : decode bc_F_having 11 = .ok (.laload, 1) := by decide +kernel
theorem dc_F_having_12 : decode bc_F_having 12 = .ok (.getstatic 50, 3) := by decide +kernel
theorem dc_F_having_15 : decode bc_F_having 15 = .ok (.iload_n 2, 1) := by decide +kernel
theorem dc_F_having_16 : decode bc_F_having 16 = .ok (.laload, 1) := by decide +kernel
theorem dc_F_having_17 : decode bc_F_having 17 = .ok (.land, 1) := by decide +kernel
theorem dc_F_having_18 : decode bc_F_having 18 = .ok (.lreturn, 1) := by decide +kernel
theorem dc_F_having_19 : decode bc_F_having 19 = .ok (.iload_n 1, 1) := by decide +kernel
theorem dc_F_having_20 : decode bc_F_having 20 = .ok (.iload_n 2, 1) := by decide +kernel
theorem dc_F_having_21 : decode bc_F_having 21 = .ok (.bipush 6, 2) := by decide +kernel
theorem dc_F_having_23 : decode bc_F_having 23 = .ok (.isub, 1) := by decide +kernel
theorem dc_F_having_24 : decode bc_F_having 24 = .ok (.ishr, 1) := by decide +kernel
theorem dc_F_having_25 : decode bc_F_having 25 = .ok (.iconst 1, 1) := by decide +kernel
theorem dc_F_having_26 : decode bc_F_having 26 = .ok (.iand, 1) := by decide +kernel
theorem dc_F_having_27 : decode bc_F_having 27 = .ok (.ifCond .eq 12, 3) := by decide +kernel
theorem dc_F_having_30 : decode bc_F_having 30 = .ok (.aload_n 0, 1) := by decide +kernel
theorem dc_F_having_31 : decode bc_F_having 31 = .ok (.getfield 9, 3) := by decide +kernel
theorem dc_F_having_34 : decode bc_F_having 34 = .ok (.iload_n 1, 1) := by decide +kernel
theorem dc_F_having_35 : decode bc_F_having 35 = .ok (.laload, 1) := by decide +kernel
theorem dc_F_having_36 : decode bc_F_having 36 = .ok (.goto 4, 3) := by decide +kernel
theorem dc_F_having_39 : decode bc_F_having 39 = .ok (.lconst 0, 1) := by decide +kernel
theorem dc_F_having_40 : decode bc_F_having 40 = .ok (.lreturn, 1) := by decide +kernel
theorem dc_F_raised_0 : decode bc_F_raised 0 = .ok (.iload_n 2, 1) := by decide +kernel
theorem dc_F_raised_1 : decode bc_F_raised 1 = .ok (.bipush 6, 2) := by decide +kernel
theorem dc_F_raised_3 : decode bc_F_raised 3 = .ok (.if_icmp .ge 14, 3) := by decide +kernel
theorem dc_F_raised_6 : decode bc_F_raised 6 = .ok (.aload_n 0, 1) := by decide +kernel
theorem dc_F_raised_7 : decode bc_F_raised 7 = .ok (.iload_n 1, 1) := by decide +kernel
theorem dc_F_raised_8 : decode bc_F_raised 8 = .ok (.iload_n 2, 1) := by decide +kernel
theorem dc_F_raised_9 : decode bc_F_raised 9 = .ok (.invokevirtual 47, 3) := by decide +kernel
theorem dc_F_raised_12 : decode bc_F_raised 12 = .ok (.iconst 1, 1) := by decide +kernel
theorem dc_F_raised_13 : decode bc_F_raised 13 = .ok (.iload_n 2, 1) := by decide +kernel
theorem dc_F_raised_14 : decode bc_F_raised 14 = .ok (.ishl, 1) := by decide +kernel
theorem dc_F_raised_15 : decode bc_F_raised 15 = .ok (.lshl, 1) := by decide +kernel
theorem dc_F_raised_16 : decode bc_F_raised 16 = .ok (.lreturn, 1) := by decide +kernel
theorem dc_F_raised_17 : decode bc_F_raised 17 = .ok (.iconst 1, 1) := by decide +kernel
theorem dc_F_raised_18 : decode bc_F_raised 18 = .ok (.iload_n 2, 1) := by decide +kernel
theorem dc_F_raised_19 : decode bc_F_raised 19 = .ok (.bipush 6, 2) := by decide +kernel
theorem dc_F_raised_21 : decode bc_F_raised 21 = .ok (.isub, 1) := by decide +kernel
theorem dc_F_raised_22 : decode bc_F_raised 22 = .ok (.ishl, 1) := by decide +kernel
theorem dc_F_raised_23 : decode bc_F_raised 23 = .ok (.istore_n 3, 1) := by decide +kernel
theorem dc_F_raised_24 : decode bc_F_raised 24 = .ok (.iload_n 1, 1) := by decide +kernel
theorem dc_F_raised_25 : decode bc_F_raised 25 = .ok (.iload_n 3, 1) := by decide +kernel
theorem dc_F_raised_26 : decode bc_F_raised 26 = .ok (.iand, 1) := by decide +kernel
theorem dc_F_raised_27 : decode bc_F_raised 27 = .ok (.ifCond .eq 14, 3) := by decide +kernel
theorem dc_F_raised_30 : decode bc_F_raised 30 = .ok (.aload_n 0, 1) := by decide +kernel
theorem dc_F_raised_31 : decode bc_F_raised 31 = .ok (.getfield 9, 3) := by decide +kernel
theorem dc_F_raised_34 : decode bc_F_raised 34 = .ok (.iload_n 1, 1) := by decide +kernel
theorem dc_F_raised_35 : decode bc_F_raised 35 = .ok (.iload_n 3, 1) := by decide +kernel
theorem dc_F_raised_36 : decode bc_F_raised 36 = .ok (.ixor, 1) := by decide +kernel
theorem dc_F_raised_37 : decode bc_F_raised 37 = .ok (.laload, 1) := by decide +kernel
theorem dc_F_raised_38 : decode bc_F_raised 38 = .ok (.goto 4, 3) := by decide +kernel
theorem dc_F_raised_41 : decode bc_F_raised 41 = .ok (.lconst 0, 1) := by decide +kernel
theorem dc_F_raised_42 : decode bc_F_raised 42 = .ok (.lreturn, 1) := by decide +kernel
theorem dc_F_lacking_0 : decode bc_F_lacking 0 = .ok (.aload_n 0, 1) := by decide +kernel
theorem dc_F_lacking_1 : decode bc_F_lacking 1 = .ok (.getfield 9, 3) := by decide +kernel
theorem dc_F_lacking_4 : decode bc_F_lacking 4 = .ok (.iload_n 1, 1) := by decide +kernel
theorem dc_F_lacking_5 : decode bc_F_lacking 5 = .ok (.laload, 1) := by decide +kernel
theorem dc_F_lacking_6 : decode bc_F_lacking 6 = .ok (.aload_n 0, 1) := by decide +kernel
theorem dc_F_lacking_7 : decode bc_F_lacking 7 = .ok (.iload_n 1, 1) := by decide +kernel
theorem dc_F_lacking_8 : decode bc_F_lacking 8 = .ok (.iload_n 2, 1) := by decide +kernel
theorem dc_F_lacking_9 : decode bc_F_lacking 9 = .ok (.invokevirtual 43, 3) := by decide +kernel
theorem dc_F_lacking_12 : decode bc_F_lacking 12 = .ok (.ldc2_w 27, 3) := by decide +kernel
theorem dc_F_lacking_15 : decode bc_F_lacking 15 = .ok (.lxor, 1) := by decide +kernel
theorem dc_F_lacking_16 : decode bc_F_lacking 16 = .ok (.land, 1) := by decide +kernel
theorem dc_F_lacking_17 : decode bc_F_lacking 17 = .ok (.lreturn, 1) := by decide +kernel
theorem dc_G_exchange_0 : decode bc_G_exchange 0 = .ok (.aload_n 0, 1) := by decide +kernel
theorem dc_G_exchange_1 : decode bc_G_exchange 1 = .ok (.getfield 9, 3) := by decide +kernel
theorem dc_G_exchange_4 : decode bc_G_exchange 4 = .ok (.iload_n 1, 1) := by decide +kernel
theorem dc_G_exchange_5 : decode bc_G_exchange 5 = .ok (.iaload, 1) := by decide +kernel
theorem dc_G_exchange_6 : decode bc_G_exchange 6 = .ok (.istore_n 3, 1) := by decide +kernel
theorem dc_G_exchange_7 : decode bc_G_exchange 7 = .ok (.aload_n 0, 1) := by decide +kernel
theorem dc_G_exchange_8 : decode bc_G_exchange 8 = .ok (.getfield 9, 3) := by decide +kernel
theorem dc_G_exchange_11 : decode bc_G_exchange 11 = .ok (.iload_n 1, 1) := by decide +kernel
theorem dc_G_exchange_12 : decode bc_G_exchange 12 = .ok (.iload_n 2, 1) := by decide +kernel
theorem dc_G_exchange_13 : decode bc_G_exchange 13 = .ok (.iastore, 1) := by decide +kernel
theorem dc_G_exchange_14 : decode bc_G_exchange 14 = .ok (.iload_n 3, 1) := by decide +kernel
theorem dc_G_exchange_15 : decode bc_G_exchange 15 = .ok (.ireturn, 1) := by decide +kernel
theorem dc_G_pathsInto_0 : decode bc_G_pathsInto 0 = .ok (.aload_n 1, 1) := by decide +kernel
theorem dc_G_pathsInto_1 : decode bc_G_pathsInto 1 = .ok (.lconst 0, 1) := by decide +kernel
theorem dc_G_pathsInto_2 : decode bc_G_pathsInto 2 = .ok (.invokevirtual 15, 3) := by decide +kernel
theorem dc_G_pathsInto_5 : decode bc_G_pathsInto 5 = .ok (.aload_n 1, 1) := by decide +kernel
theorem dc_G_pathsInto_6 : decode bc_G_pathsInto 6 = .ok (.aload_n 0, 1) := by decide +kernel
theorem dc_G_pathsInto_7 : decode bc_G_pathsInto 7 = .ok (.getfield 9, 3) := by decide +kernel
theorem dc_G_pathsInto_10 : decode bc_G_pathsInto 10 = .ok (.iconst 1, 1) := by decide +kernel
theorem dc_G_pathsInto_11 : decode bc_G_pathsInto 11 = .ok (.iload_n 2, 1) := by decide +kernel
theorem dc_G_pathsInto_12 : decode bc_G_pathsInto 12 = .ok (.ishl, 1) := by decide +kernel
theorem dc_G_pathsInto_13 : decode bc_G_pathsInto 13 = .ok (.iconst 1, 1) := by decide +kernel
theorem dc_G_pathsInto_14 : decode bc_G_pathsInto 14 = .ok (.iload_n 3, 1) := by decide +kernel
theorem dc_G_pathsInto_15 : decode bc_G_pathsInto 15 = .ok (.ishl, 1) := by decide +kernel
theorem dc_G_pathsInto_16 : decode bc_G_pathsInto 16 = .ok (.iconst 1, 1) := by decide +kernel
theorem dc_G_pathsInto_17 : decode bc_G_pathsInto 17 = .ok (.iload_n 2, 1) := by decide +kernel
theorem dc_G_pathsInto_18 : decode bc_G_pathsInto 18 = .ok (.ishl, 1) := by decide +kernel
theorem dc_G_pathsInto_19 : decode bc_G_pathsInto 19 = .ok (.iconst 0, 1) := by decide +kernel
theorem dc_G_pathsInto_20 : decode bc_G_pathsInto 20 = .ok (.invokestatic 21, 3) := by decide +kernel
theorem dc_G_pathsInto_23 : decode bc_G_pathsInto 23 = .ok (.return_, 1) := by decide +kernel
theorem dc_G_walk_0 : decode bc_G_walk 0 = .ok (.iload_n 2, 1) := by decide +kernel
theorem dc_G_walk_1 : decode bc_G_walk 1 = .ok (.iload_n 3, 1) := by decide +kernel
theorem dc_G_walk_2 : decode bc_G_walk 2 = .ok (.if_icmp .ne 10, 3) := by decide +kernel
theorem dc_G_walk_5 : decode bc_G_walk 5 = .ok (.aload_n 0, 1) := by decide +kernel
theorem dc_G_walk_6 : decode bc_G_walk 6 = .ok (.iload 5, 2) := by decide +kernel
theorem dc_G_walk_8 : decode bc_G_walk 8 = .ok (.invokevirtual 25, 3) := by decide +kernel
theorem dc_G_walk_11 : decode bc_G_walk 11 = .ok (.return_, 1) := by decide +kernel
theorem dc_G_walk_12 : decode bc_G_walk 12 = .ok (.iconst 0, 1) := by decide +kernel
theorem dc_G_walk_13 : decode bc_G_walk 13 = .ok (.istore 6, 2) := by decide +kernel
theorem dc_G_walk_15 : decode bc_G_walk 15 = .ok (.iload 6, 2) := by decide +kernel
theorem dc_G_walk_17 : decode bc_G_walk 17 = .ok (.bipush 12, 2) := by decide +kernel
theorem dc_G_walk_19 : decode bc_G_walk 19 = .ok (.if_icmp .ge 49, 3) := by decide +kernel
theorem dc_G_walk_22 : decode bc_G_walk 22 = .ok (.aload_n 1, 1) := by decide +kernel
theorem dc_G_walk_23 : decode bc_G_walk 23 = .ok (.iload 6, 2) := by decide +kernel
theorem dc_G_walk_25 : decode bc_G_walk 25 = .ok (.iaload, 1) := by decide +kernel
theorem dc_G_walk_26 : decode bc_G_walk 26 = .ok (.iload 4, 2) := by decide +kernel
theorem dc_G_walk_28 : decode bc_G_walk 28 = .ok (.iand, 1) := by decide +kernel
theorem dc_G_walk_29 : decode bc_G_walk 29 = .ok (.iload_n 2, 1) := by decide +kernel
theorem dc_G_walk_30 : decode bc_G_walk 30 = .ok (.if_icmp .ne 32, 3) := by decide +kernel
theorem dc_G_walk_33 : decode bc_G_walk 33 = .ok (.aload_n 0, 1) := by decide +kernel
theorem dc_G_walk_34 : decode bc_G_walk 34 = .ok (.aload_n 1, 1) := by decide +kernel
theorem dc_G_walk_35 : decode bc_G_walk 35 = .ok (.aload_n 1, 1) := by decide +kernel
theorem dc_G_walk_36 : decode bc_G_walk 36 = .ok (.iload 6, 2) := by decide +kernel
theorem dc_G_walk_38 : decode bc_G_walk 38 = .ok (.iaload, 1) := by decide +kernel
theorem dc_G_walk_39 : decode bc_G_walk 39 = .ok (.iload_n 2, 1) := by decide +kernel
theorem dc_G_walk_40 : decode bc_G_walk 40 = .ok (.ixor, 1) := by decide +kernel
theorem dc_G_walk_41 : decode bc_G_walk 41 = .ok (.iload_n 3, 1) := by decide +kernel
theorem dc_G_walk_42 : decode bc_G_walk 42 = .ok (.iload 4, 2) := by decide +kernel
theorem dc_G_walk_44 : decode bc_G_walk 44 = .ok (.aload_n 1, 1) := by decide +kernel
theorem dc_G_walk_45 : decode bc_G_walk 45 = .ok (.iload 6, 2) := by decide +kernel
theorem dc_G_walk_47 : decode bc_G_walk 47 = .ok (.iaload, 1) := by decide +kernel
theorem dc_G_walk_48 : decode bc_G_walk 48 = .ok (.ior, 1) := by decide +kernel
theorem dc_G_walk_49 : decode bc_G_walk 49 = .ok (.iload 5, 2) := by decide +kernel
theorem dc_G_walk_51 : decode bc_G_walk 51 = .ok (.iconst 1, 1) := by decide +kernel
theorem dc_G_walk_52 : decode bc_G_walk 52 = .ok (.iload 6, 2) := by decide +kernel
theorem dc_G_walk_54 : decode bc_G_walk 54 = .ok (.invokestatic 29, 3) := by decide +kernel
theorem dc_G_walk_57 : decode bc_G_walk 57 = .ok (.ishl, 1) := by decide +kernel
theorem dc_G_walk_58 : decode bc_G_walk 58 = .ok (.ior, 1) := by decide +kernel
theorem dc_G_walk_59 : decode bc_G_walk 59 = .ok (.invokestatic 21, 3) := by decide +kernel
theorem dc_G_walk_62 : decode bc_G_walk 62 = .ok (.iinc 6 1, 3) := by decide +kernel
theorem dc_G_walk_65 : decode bc_G_walk 65 = .ok (.goto (-50), 3) := by decide +kernel
theorem dc_G_walk_68 : decode bc_G_walk 68 = .ok (.return_, 1) := by decide +kernel
theorem dc_G_matchingsInto_0 : decode bc_G_matchingsInto 0 = .ok (.aload_n 1, 1) := by decide +kernel
theorem dc_G_matchingsInto_1 : decode bc_G_matchingsInto 1 = .ok (.lconst 0, 1) := by decide +kernel
theorem dc_G_matchingsInto_2 : decode bc_G_matchingsInto 2 = .ok (.invokevirtual 15, 3) := by decide +kernel
theorem dc_G_matchingsInto_5 : decode bc_G_matchingsInto 5 = .ok (.aload_n 1, 1) := by decide +kernel
theorem dc_G_matchingsInto_6 : decode bc_G_matchingsInto 6 = .ok (.aload_n 0, 1) := by decide +kernel
theorem dc_G_matchingsInto_7 : decode bc_G_matchingsInto 7 = .ok (.getfield 9, 3) := by decide +kernel
theorem dc_G_matchingsInto_10 : decode bc_G_matchingsInto 10 = .ok (.iconst 0, 1) := by decide +kernel
theorem dc_G_matchingsInto_11 : decode bc_G_matchingsInto 11 = .ok (.iconst 0, 1) := by decide +kernel
theorem dc_G_matchingsInto_12 : decode bc_G_matchingsInto 12 = .ok (.iconst 0, 1) := by decide +kernel
theorem dc_G_matchingsInto_13 : decode bc_G_matchingsInto 13 = .ok (.invokestatic 33, 3) := by decide +kernel
theorem dc_G_matchingsInto_16 : decode bc_G_matchingsInto 16 = .ok (.return_, 1) := by decide +kernel
theorem dc_G_match_0 : decode bc_G_match 0 = .ok (.iload_n 2, 1) := by decide +kernel
theorem dc_G_match_1 : decode bc_G_match 1 = .ok (.bipush 12, 2) := by decide +kernel
theorem dc_G_match_3 : decode bc_G_match 3 = .ok (.if_icmp .lt 10, 3) := by decide +kernel
theorem dc_G_match_6 : decode bc_G_match 6 = .ok (.aload_n 0, 1) := by decide +kernel
theorem dc_G_match_7 : decode bc_G_match 7 = .ok (.iload 4, 2) := by decide +kernel
theorem dc_G_match_9 : decode bc_G_match 9 = .ok (.invokevirtual 25, 3) := by decide +kernel
theorem dc_G_match_12 : decode bc_G_match 12 = .ok (.return_, 1) := by decide +kernel
theorem dc_G_match_13 : decode bc_G_match 13 = .ok (.aload_n 0, 1) := by decide +kernel
theorem dc_G_match_14 : decode bc_G_match 14 = .ok (.aload_n 1, 1) := by decide +kernel
theorem dc_G_match_15 : decode bc_G_match 15 = .ok (.iload_n 2, 1) := by decide +kernel
theorem dc_G_match_16 : decode bc_G_match 16 = .ok (.iconst 1, 1) := by decide +kernel
theorem dc_G_match_17 : decode bc_G_match 17 = .ok (.iadd, 1) := by decide +kernel
theorem dc_G_match_18 : decode bc_G_match 18 = .ok (.iload_n 3, 1) := by decide +kernel
theorem dc_G_match_19 : decode bc_G_match 19 = .ok (.iload 4, 2) := by decide +kernel
theorem dc_G_match_21 : decode bc_G_match 21 = .ok (.invokestatic 33, 3) := by decide +kernel
theorem dc_G_match_24 : decode bc_G_match 24 = .ok (.aload_n 1, 1) := by decide +kernel
theorem dc_G_match_25 : decode bc_G_match 25 = .ok (.iload_n 2, 1) := by decide +kernel
theorem dc_G_match_26 : decode bc_G_match 26 = .ok (.iaload, 1) := by decide +kernel
theorem dc_G_match_27 : decode bc_G_match 27 = .ok (.ifCond .eq 33, 3) := by decide +kernel
theorem dc_G_match_30 : decode bc_G_match 30 = .ok (.aload_n 1, 1) := by decide +kernel
theorem dc_G_match_31 : decode bc_G_match 31 = .ok (.iload_n 2, 1) := by decide +kernel
theorem dc_G_match_32 : decode bc_G_match 32 = .ok (.iaload, 1) := by decide +kernel
theorem dc_G_match_33 : decode bc_G_match 33 = .ok (.iload_n 3, 1) := by decide +kernel
theorem dc_G_match_34 : decode bc_G_match 34 = .ok (.iand, 1) := by decide +kernel
theorem dc_G_match_35 : decode bc_G_match 35 = .ok (.ifCond .ne 25, 3) := by decide +kernel
theorem dc_G_match_38 : decode bc_G_match 38 = .ok (.aload_n 0, 1) := by decide +kernel
theorem dc_G_match_39 : decode bc_G_match 39 = .ok (.aload_n 1, 1) := by decide +kernel
theorem dc_G_match_40 : decode bc_G_match 40 = .ok (.iload_n 2, 1) := by decide +kernel
theorem dc_G_match_41 : decode bc_G_match 41 = .ok (.iconst 1, 1) := by decide +kernel
theorem dc_G_match_42 : decode bc_G_match 42 = .ok (.iadd, 1) := by decide +kernel
theorem dc_G_match_43 : decode bc_G_match 43 = .ok (.iload_n 3, 1) := by decide +kernel
theorem dc_G_match_44 : decode bc_G_match 44 = .ok (.aload_n 1, 1) := by decide +kernel
theorem dc_G_match_45 : decode bc_G_match 45 = .ok (.iload_n 2, 1) := by decide +kernel
theorem dc_G_match_46 : decode bc_G_match 46 = .ok (.iaload, 1) := by decide +kernel
theorem dc_G_match_47 : decode bc_G_match 47 = .ok (.ior, 1) := by decide +kernel
theorem dc_G_match_48 : decode bc_G_match 48 = .ok (.iload 4, 2) := by decide +kernel
theorem dc_G_match_50 : decode bc_G_match 50 = .ok (.iconst 1, 1) := by decide +kernel
theorem dc_G_match_51 : decode bc_G_match 51 = .ok (.iload_n 2, 1) := by decide +kernel
theorem dc_G_match_52 : decode bc_G_match 52 = .ok (.invokestatic 29, 3) := by decide +kernel
theorem dc_G_match_55 : decode bc_G_match 55 = .ok (.ishl, 1) := by decide +kernel
theorem dc_G_match_56 : decode bc_G_match 56 = .ok (.ior, 1) := by decide +kernel
theorem dc_G_match_57 : decode bc_G_match 57 = .ok (.invokestatic 33, 3) := by decide +kernel
theorem dc_G_match_60 : decode bc_G_match 60 = .ok (.return_, 1) := by decide +kernel
theorem dc_W_exchange_0 : decode bc_W_exchange 0 = .ok (.aload_n 0, 1) := by decide +kernel
theorem dc_W_exchange_1 : decode bc_W_exchange 1 = .ok (.getfield 9, 3) := by decide +kernel
theorem dc_W_exchange_4 : decode bc_W_exchange 4 = .ok (.iload_n 1, 1) := by decide +kernel
theorem dc_W_exchange_5 : decode bc_W_exchange 5 = .ok (.iaload, 1) := by decide +kernel
theorem dc_W_exchange_6 : decode bc_W_exchange 6 = .ok (.istore_n 3, 1) := by decide +kernel
theorem dc_W_exchange_7 : decode bc_W_exchange 7 = .ok (.aload_n 0, 1) := by decide +kernel
theorem dc_W_exchange_8 : decode bc_W_exchange 8 = .ok (.getfield 9, 3) := by decide +kernel
theorem dc_W_exchange_11 : decode bc_W_exchange 11 = .ok (.iload_n 1, 1) := by decide +kernel
theorem dc_W_exchange_12 : decode bc_W_exchange 12 = .ok (.iload_n 2, 1) := by decide +kernel
theorem dc_W_exchange_13 : decode bc_W_exchange 13 = .ok (.iastore, 1) := by decide +kernel
theorem dc_W_exchange_14 : decode bc_W_exchange 14 = .ok (.iload_n 3, 1) := by decide +kernel
theorem dc_W_exchange_15 : decode bc_W_exchange 15 = .ok (.ireturn, 1) := by decide +kernel
theorem dc_F_placeAt_0 : decode bc_F_placeAt 0 = .ok (.iload_n 1, 1) := by decide +kernel
theorem dc_F_placeAt_1 : decode bc_F_placeAt 1 = .ok (.ifCond .ge 5, 3) := by decide +kernel
theorem dc_F_placeAt_4 : decode bc_F_placeAt 4 = .ok (.iconst (-1), 1) := by decide +kernel
theorem dc_F_placeAt_5 : decode bc_F_placeAt 5 = .ok (.ireturn, 1) := by decide +kernel
theorem dc_F_placeAt_6 : decode bc_F_placeAt 6 = .ok (.iload_n 1, 1) := by decide +kernel
theorem dc_F_placeAt_7 : decode bc_F_placeAt 7 = .ok (.istore_n 2, 1) := by decide +kernel
theorem dc_F_placeAt_8 : decode bc_F_placeAt 8 = .ok (.iconst 0, 1) := by decide +kernel
theorem dc_F_placeAt_9 : decode bc_F_placeAt 9 = .ok (.istore_n 3, 1) := by decide +kernel
theorem dc_F_placeAt_10 : decode bc_F_placeAt 10 = .ok (.iload_n 3, 1) := by decide +kernel
theorem dc_F_placeAt_11 : decode bc_F_placeAt 11 = .ok (.bipush 64, 2) := by decide +kernel
theorem dc_F_placeAt_13 : decode bc_F_placeAt 13 = .ok (.if_icmp .ge 47, 3) := by decide +kernel
theorem dc_F_placeAt_16 : decode bc_F_placeAt 16 = .ok (.aload_n 0, 1) := by decide +kernel
theorem dc_F_placeAt_17 : decode bc_F_placeAt 17 = .ok (.getfield 9, 3) := by decide +kernel
theorem dc_F_placeAt_20 : decode bc_F_placeAt 20 = .ok (.iload_n 3, 1) := by decide +kernel
theorem dc_F_placeAt_21 : decode bc_F_placeAt 21 = .ok (.laload, 1) := by decide +kernel
theorem dc_F_placeAt_22 : decode bc_F_placeAt 22 = .ok (.invokestatic 33, 3) := by decide +kernel
theorem dc_F_placeAt_25 : decode bc_F_placeAt 25 = .ok (.istore 4, 2) := by decide +kernel
theorem dc_F_placeAt_27 : decode bc_F_placeAt 27 = .ok (.iload_n 2, 1) := by decide +kernel
theorem dc_F_placeAt_28 : decode bc_F_placeAt 28 = .ok (.iload 4, 2) := by decide +kernel
theorem dc_F_placeAt_30 : decode bc_F_placeAt 30 = .ok (.if_icmp .ge 19, 3) := by decide +kernel
theorem dc_F_placeAt_33 : decode bc_F_placeAt 33 = .ok (.iload_n 3, 1) := by decide +kernel
theorem dc_F_placeAt_34 : decode bc_F_placeAt 34 = .ok (.bipush 6, 2) := by decide +kernel
theorem dc_F_placeAt_36 : decode bc_F_placeAt 36 = .ok (.ishl, 1) := by decide +kernel
theorem dc_F_placeAt_37 : decode bc_F_placeAt 37 = .ok (.aload_n 0, 1) := by decide +kernel
theorem dc_F_placeAt_38 : decode bc_F_placeAt 38 = .ok (.getfield 9, 3) := by decide +kernel
theorem dc_F_placeAt_41 : decode bc_F_placeAt 41 = .ok (.iload_n 3, 1) := by decide +kernel
theorem dc_F_placeAt_42 : decode bc_F_placeAt 42 = .ok (.laload, 1) := by decide +kernel
theorem dc_F_placeAt_43 : decode bc_F_placeAt 43 = .ok (.iload_n 2, 1) := by decide +kernel
theorem dc_F_placeAt_44 : decode bc_F_placeAt 44 = .ok (.invokestatic 39, 3) := by decide +kernel
theorem dc_F_placeAt_47 : decode bc_F_placeAt 47 = .ok (.ior, 1) := by decide +kernel
theorem dc_F_placeAt_48 : decode bc_F_placeAt 48 = .ok (.ireturn, 1) := by decide +kernel
theorem dc_F_placeAt_49 : decode bc_F_placeAt 49 = .ok (.iload_n 2, 1) := by decide +kernel
theorem dc_F_placeAt_50 : decode bc_F_placeAt 50 = .ok (.iload 4, 2) := by decide +kernel
theorem dc_F_placeAt_52 : decode bc_F_placeAt 52 = .ok (.isub, 1) := by decide +kernel
theorem dc_F_placeAt_53 : decode bc_F_placeAt 53 = .ok (.istore_n 2, 1) := by decide +kernel
theorem dc_F_placeAt_54 : decode bc_F_placeAt 54 = .ok (.iinc 3 1, 3) := by decide +kernel
theorem dc_F_placeAt_57 : decode bc_F_placeAt 57 = .ok (.goto (-47), 3) := by decide +kernel
theorem dc_F_placeAt_60 : decode bc_F_placeAt 60 = .ok (.iconst (-1), 1) := by decide +kernel
theorem dc_F_placeAt_61 : decode bc_F_placeAt 61 = .ok (.ireturn, 1) := by decide +kernel
theorem dc_F_lowPlaceAt_0 : decode bc_F_lowPlaceAt 0 = .ok (.iload_n 2, 1) := by decide +kernel
theorem dc_F_lowPlaceAt_1 : decode bc_F_lowPlaceAt 1 = .ok (.istore_n 3, 1) := by decide +kernel
theorem dc_F_lowPlaceAt_2 : decode bc_F_lowPlaceAt 2 = .ok (.iconst 0, 1) := by decide +kernel
theorem dc_F_lowPlaceAt_3 : decode bc_F_lowPlaceAt 3 = .ok (.istore 4, 2) := by decide +kernel
theorem dc_F_lowPlaceAt_5 : decode bc_F_lowPlaceAt 5 = .ok (.iload 4, 2) := by decide +kernel
theorem dc_F_lowPlaceAt_7 : decode bc_F_lowPlaceAt 7 = .ok (.bipush 63, 2) := by decide +kernel
theorem dc_F_lowPlaceAt_9 : decode bc_F_lowPlaceAt 9 = .ok (.if_icmp .ge 30, 3) := by decide +kernel
theorem dc_F_lowPlaceAt_12 : decode bc_F_lowPlaceAt 12 = .ok (.lload_n 0, 1) := by decide +kernel
theorem dc_F_lowPlaceAt_13 : decode bc_F_lowPlaceAt 13 = .ok (.iload 4, 2) := by decide +kernel
theorem dc_F_lowPlaceAt_15 : decode bc_F_lowPlaceAt 15 = .ok (.lushr, 1) := by decide +kernel
theorem dc_F_lowPlaceAt_16 : decode bc_F_lowPlaceAt 16 = .ok (.lconst 1, 1) := by decide +kernel
theorem dc_F_lowPlaceAt_17 : decode bc_F_lowPlaceAt 17 = .ok (.land, 1) := by decide +kernel
theorem dc_F_lowPlaceAt_18 : decode bc_F_lowPlaceAt 18 = .ok (.lconst 0, 1) := by decide +kernel
theorem dc_F_lowPlaceAt_19 : decode bc_F_lowPlaceAt 19 = .ok (.lcmp, 1) := by decide +kernel
theorem dc_F_lowPlaceAt_20 : decode bc_F_lowPlaceAt 20 = .ok (.ifCond .eq 13, 3) := by decide +kernel
theorem dc_F_lowPlaceAt_23 : decode bc_F_lowPlaceAt 23 = .ok (.iload_n 3, 1) := by decide +kernel
theorem dc_F_lowPlaceAt_24 : decode bc_F_lowPlaceAt 24 = .ok (.ifCond .ne 6, 3) := by decide +kernel
theorem dc_F_lowPlaceAt_27 : decode bc_F_lowPlaceAt 27 = .ok (.iload 4, 2) := by decide +kernel
theorem dc_F_lowPlaceAt_29 : decode bc_F_lowPlaceAt 29 = .ok (.ireturn, 1) := by decide +kernel
theorem dc_F_lowPlaceAt_30 : decode bc_F_lowPlaceAt 30 = .ok (.iinc 3 (-1), 3) := by decide +kernel
theorem dc_F_lowPlaceAt_33 : decode bc_F_lowPlaceAt 33 = .ok (.iinc 4 1, 3) := by decide +kernel
theorem dc_F_lowPlaceAt_36 : decode bc_F_lowPlaceAt 36 = .ok (.goto (-31), 3) := by decide +kernel
theorem dc_F_lowPlaceAt_39 : decode bc_F_lowPlaceAt 39 = .ok (.bipush 63, 2) := by decide +kernel
theorem dc_F_lowPlaceAt_41 : decode bc_F_lowPlaceAt 41 = .ok (.ireturn, 1) := by decide +kernel
theorem dc_F_totalBefore_0 : decode bc_F_totalBefore 0 = .ok (.lconst 1, 1) := by decide +kernel
theorem dc_F_totalBefore_1 : decode bc_F_totalBefore 1 = .ok (.iload_n 1, 1) := by decide +kernel
theorem dc_F_totalBefore_2 : decode bc_F_totalBefore 2 = .ok (.bipush 63, 2) := by decide +kernel
theorem dc_F_totalBefore_4 : decode bc_F_totalBefore 4 = .ok (.iand, 1) := by decide +kernel
theorem dc_F_totalBefore_5 : decode bc_F_totalBefore 5 = .ok (.lshl, 1) := by decide +kernel
theorem dc_F_totalBefore_6 : decode bc_F_totalBefore 6 = .ok (.lconst 1, 1) := by decide +kernel
theorem dc_F_totalBefore_7 : decode bc_F_totalBefore 7 = .ok (.lsub, 1) := by decide +kernel
theorem dc_F_totalBefore_8 : decode bc_F_totalBefore 8 = .ok (.lstore_n 2, 1) := by decide +kernel
theorem dc_F_totalBefore_9 : decode bc_F_totalBefore 9 = .ok (.iload_n 1, 1) := by decide +kernel
theorem dc_F_totalBefore_10 : decode bc_F_totalBefore 10 = .ok (.bipush 6, 2) := by decide +kernel
theorem dc_F_totalBefore_12 : decode bc_F_totalBefore 12 = .ok (.ishr, 1) := by decide +kernel
theorem dc_F_totalBefore_13 : decode bc_F_totalBefore 13 = .ok (.istore 4, 2) := by decide +kernel
theorem dc_F_totalBefore_15 : decode bc_F_totalBefore 15 = .ok (.aload_n 0, 1) := by decide +kernel
theorem dc_F_totalBefore_16 : decode bc_F_totalBefore 16 = .ok (.iload 4, 2) := by decide +kernel
theorem dc_F_totalBefore_18 : decode bc_F_totalBefore 18 = .ok (.invokevirtual 29, 3) := by decide +kernel
theorem dc_F_totalBefore_21 : decode bc_F_totalBefore 21 = .ok (.aload_n 0, 1) := by decide +kernel
theorem dc_F_totalBefore_22 : decode bc_F_totalBefore 22 = .ok (.getfield 9, 3) := by decide +kernel
theorem dc_F_totalBefore_25 : decode bc_F_totalBefore 25 = .ok (.iload 4, 2) := by decide +kernel
theorem dc_F_totalBefore_27 : decode bc_F_totalBefore 27 = .ok (.laload, 1) := by decide +kernel
theorem dc_F_totalBefore_28 : decode bc_F_totalBefore 28 = .ok (.lload_n 2, 1) := by decide +kernel
theorem dc_F_totalBefore_29 : decode bc_F_totalBefore 29 = .ok (.land, 1) := by decide +kernel
theorem dc_F_totalBefore_30 : decode bc_F_totalBefore 30 = .ok (.invokestatic 33, 3) := by decide +kernel
theorem dc_F_totalBefore_33 : decode bc_F_totalBefore 33 = .ok (.iadd, 1) := by decide +kernel
theorem dc_F_totalBefore_34 : decode bc_F_totalBefore 34 = .ok (.ireturn, 1) := by decide +kernel
theorem dc_W_heaviestPlace_0 : decode bc_W_heaviestPlace 0 = .ok (.aload_n 0, 1) := by decide +kernel
theorem dc_W_heaviestPlace_1 : decode bc_W_heaviestPlace 1 = .ok (.aload_n 0, 1) := by decide +kernel
theorem dc_W_heaviestPlace_2 : decode bc_W_heaviestPlace 2 = .ok (.getfield 18, 3) := by decide +kernel
theorem dc_W_heaviestPlace_5 : decode bc_W_heaviestPlace 5 = .ok (.iconst 0, 1) := by decide +kernel
theorem dc_W_heaviestPlace_6 : decode bc_W_heaviestPlace 6 = .ok (.invokevirtual 21, 3) := by decide +kernel
theorem dc_W_heaviestPlace_9 : decode bc_W_heaviestPlace 9 = .ok (.aload_n 0, 1) := by decide +kernel
theorem dc_W_heaviestPlace_10 : decode bc_W_heaviestPlace 10 = .ok (.aload_n 0, 1) := by decide +kernel
theorem dc_W_heaviestPlace_11 : decode bc_W_heaviestPlace 11 = .ok (.getfield 15, 3) := by decide +kernel
theorem dc_W_heaviestPlace_14 : decode bc_W_heaviestPlace 14 = .ok (.bipush 6, 2) := by decide +kernel
theorem dc_W_heaviestPlace_16 : decode bc_W_heaviestPlace 16 = .ok (.invokevirtual 21, 3) := by decide +kernel
theorem dc_W_heaviestPlace_19 : decode bc_W_heaviestPlace 19 = .ok (.iconst (-1), 1) := by decide +kernel
theorem dc_W_heaviestPlace_20 : decode bc_W_heaviestPlace 20 = .ok (.istore_n 2, 1) := by decide +kernel
theorem dc_W_heaviestPlace_21 : decode bc_W_heaviestPlace 21 = .ok (.iconst 0, 1) := by decide +kernel
theorem dc_W_heaviestPlace_22 : decode bc_W_heaviestPlace 22 = .ok (.istore_n 3, 1) := by decide +kernel
theorem dc_W_heaviestPlace_23 : decode bc_W_heaviestPlace 23 = .ok (.iconst 0, 1) := by decide +kernel
theorem dc_W_heaviestPlace_24 : decode bc_W_heaviestPlace 24 = .ok (.istore 4, 2) := by decide +kernel
theorem dc_W_heaviestPlace_26 : decode bc_W_heaviestPlace 26 = .ok (.iload 4, 2) := by decide +kernel
theorem dc_W_heaviestPlace_28 : decode bc_W_heaviestPlace 28 = .ok (.sipush 4096, 3) := by decide +kernel
theorem dc_W_heaviestPlace_31 : decode bc_W_heaviestPlace 31 = .ok (.if_icmp .ge 58, 3) := by decide +kernel
theorem dc_W_heaviestPlace_34 : decode bc_W_heaviestPlace 34 = .ok (.aload_n 1, 1) := by decide +kernel
theorem dc_W_heaviestPlace_35 : decode bc_W_heaviestPlace 35 = .ok (.iload 4, 2) := by decide +kernel
theorem dc_W_heaviestPlace_37 : decode bc_W_heaviestPlace 37 = .ok (.invokevirtual 25, 3) := by decide +kernel
theorem dc_W_heaviestPlace_40 : decode bc_W_heaviestPlace 40 = .ok (.ifCond .eq 43, 3) := by decide +kernel
theorem dc_W_heaviestPlace_43 : decode bc_W_heaviestPlace 43 = .ok (.aload_n 0, 1) := by decide +kernel
theorem dc_W_heaviestPlace_44 : decode bc_W_heaviestPlace 44 = .ok (.getfield 15, 3) := by decide +kernel
theorem dc_W_heaviestPlace_47 : decode bc_W_heaviestPlace 47 = .ok (.iload 4, 2) := by decide +kernel
theorem dc_W_heaviestPlace_49 : decode bc_W_heaviestPlace 49 = .ok (.bipush 6, 2) := by decide +kernel
theorem dc_W_heaviestPlace_51 : decode bc_W_heaviestPlace 51 = .ok (.ishr, 1) := by decide +kernel
theorem dc_W_heaviestPlace_52 : decode bc_W_heaviestPlace 52 = .ok (.iaload, 1) := by decide +kernel
theorem dc_W_heaviestPlace_53 : decode bc_W_heaviestPlace 53 = .ok (.aload_n 0, 1) := by decide +kernel
theorem dc_W_heaviestPlace_54 : decode bc_W_heaviestPlace 54 = .ok (.getfield 18, 3) := by decide +kernel
theorem dc_W_heaviestPlace_57 : decode bc_W_heaviestPlace 57 = .ok (.iload 4, 2) := by decide +kernel
theorem dc_W_heaviestPlace_59 : decode bc_W_heaviestPlace 59 = .ok (.bipush 63, 2) := by decide +kernel
theorem dc_W_heaviestPlace_61 : decode bc_W_heaviestPlace 61 = .ok (.iand, 1) := by decide +kernel
theorem dc_W_heaviestPlace_62 : decode bc_W_heaviestPlace 62 = .ok (.iaload, 1) := by decide +kernel
theorem dc_W_heaviestPlace_63 : decode bc_W_heaviestPlace 63 = .ok (.iadd, 1) := by decide +kernel
theorem dc_W_heaviestPlace_64 : decode bc_W_heaviestPlace 64 = .ok (.istore 5, 2) := by decide +kernel
theorem dc_W_heaviestPlace_66 : decode bc_W_heaviestPlace 66 = .ok (.iload_n 2, 1) := by decide +kernel
theorem dc_W_heaviestPlace_67 : decode bc_W_heaviestPlace 67 = .ok (.iconst (-1), 1) := by decide +kernel
theorem dc_W_heaviestPlace_68 : decode bc_W_heaviestPlace 68 = .ok (.if_icmp .eq 9, 3) := by decide +kernel
theorem dc_W_heaviestPlace_71 : decode bc_W_heaviestPlace 71 = .ok (.iload 5, 2) := by decide +kernel
theorem dc_W_heaviestPlace_73 : decode bc_W_heaviestPlace 73 = .ok (.iload_n 3, 1) := by decide +kernel
theorem dc_W_heaviestPlace_74 : decode bc_W_heaviestPlace 74 = .ok (.if_icmp .le 9, 3) := by decide +kernel
theorem dc_W_heaviestPlace_77 : decode bc_W_heaviestPlace 77 = .ok (.iload 4, 2) := by decide +kernel
theorem dc_W_heaviestPlace_79 : decode bc_W_heaviestPlace 79 = .ok (.istore_n 2, 1) := by decide +kernel
theorem dc_W_heaviestPlace_80 : decode bc_W_heaviestPlace 80 = .ok (.iload 5, 2) := by decide +kernel
theorem dc_W_heaviestPlace_82 : decode bc_W_heaviestPlace 82 = .ok (.istore_n 3, 1) := by decide +kernel
theorem dc_W_heaviestPlace_83 : decode bc_W_heaviestPlace 83 = .ok (.iinc 4 1, 3) := by decide +kernel
theorem dc_W_heaviestPlace_86 : decode bc_W_heaviestPlace 86 = .ok (.goto (-60), 3) := by decide +kernel
theorem dc_W_heaviestPlace_89 : decode bc_W_heaviestPlace 89 = .ok (.iload_n 2, 1) := by decide +kernel
theorem dc_W_heaviestPlace_90 : decode bc_W_heaviestPlace 90 = .ok (.ireturn, 1) := by decide +kernel
theorem dc_W_sumUp_0 : decode bc_W_sumUp 0 = .ok (.iconst 0, 1) := by decide +kernel
theorem dc_W_sumUp_1 : decode bc_W_sumUp 1 = .ok (.istore_n 3, 1) := by decide +kernel
theorem dc_W_sumUp_2 : decode bc_W_sumUp 2 = .ok (.iload_n 3, 1) := by decide +kernel
theorem dc_W_sumUp_3 : decode bc_W_sumUp 3 = .ok (.bipush 6, 2) := by decide +kernel
theorem dc_W_sumUp_5 : decode bc_W_sumUp 5 = .ok (.if_icmp .ge 57, 3) := by decide +kernel
theorem dc_W_sumUp_8 : decode bc_W_sumUp 8 = .ok (.iconst 1, 1) := by decide +kernel
theorem dc_W_sumUp_9 : decode bc_W_sumUp 9 = .ok (.iload_n 3, 1) := by decide +kernel
theorem dc_W_sumUp_10 : decode bc_W_sumUp 10 = .ok (.ishl, 1) := by decide +kernel
theorem dc_W_sumUp_11 : decode bc_W_sumUp 11 = .ok (.istore 4, 2) := by decide +kernel
theorem dc_W_sumUp_13 : decode bc_W_sumUp 13 = .ok (.aload_n 0, 1) := by decide +kernel
theorem dc_W_sumUp_14 : decode bc_W_sumUp 14 = .ok (.getfield 9, 3) := by decide +kernel
theorem dc_W_sumUp_17 : decode bc_W_sumUp 17 = .ok (.iload_n 2, 1) := by decide +kernel
theorem dc_W_sumUp_18 : decode bc_W_sumUp 18 = .ok (.iload_n 3, 1) := by decide +kernel
theorem dc_W_sumUp_19 : decode bc_W_sumUp 19 = .ok (.iadd, 1) := by decide +kernel
theorem dc_W_sumUp_20 : decode bc_W_sumUp 20 = .ok (.invokestatic 31, 3) := by decide +kernel
theorem dc_W_sumUp_23 : decode bc_W_sumUp 23 = .ok (.iaload, 1) := by decide +kernel
theorem dc_W_sumUp_24 : decode bc_W_sumUp 24 = .ok (.istore 5, 2) := by decide +kernel
theorem dc_W_sumUp_26 : decode bc_W_sumUp 26 = .ok (.iconst 0, 1) := by decide +kernel
theorem dc_W_sumUp_27 : decode bc_W_sumUp 27 = .ok (.istore 6, 2) := by decide +kernel
theorem dc_W_sumUp_29 : decode bc_W_sumUp 29 = .ok (.iload 6, 2) := by decide +kernel
theorem dc_W_sumUp_31 : decode bc_W_sumUp 31 = .ok (.iload 4, 2) := by decide +kernel
theorem dc_W_sumUp_33 : decode bc_W_sumUp 33 = .ok (.if_icmp .ge 23, 3) := by decide +kernel
theorem dc_W_sumUp_36 : decode bc_W_sumUp 36 = .ok (.aload_n 1, 1) := by decide +kernel
theorem dc_W_sumUp_37 : decode bc_W_sumUp 37 = .ok (.iload 4, 2) := by decide +kernel
theorem dc_W_sumUp_39 : decode bc_W_sumUp 39 = .ok (.iload 6, 2) := by decide +kernel
theorem dc_W_sumUp_41 : decode bc_W_sumUp 41 = .ok (.iadd, 1) := by decide +kernel
theorem dc_W_sumUp_42 : decode bc_W_sumUp 42 = .ok (.aload_n 1, 1) := by decide +kernel
theorem dc_W_sumUp_43 : decode bc_W_sumUp 43 = .ok (.iload 6, 2) := by decide +kernel
theorem dc_W_sumUp_45 : decode bc_W_sumUp 45 = .ok (.iaload, 1) := by decide +kernel
theorem dc_W_sumUp_46 : decode bc_W_sumUp 46 = .ok (.iload 5, 2) := by decide +kernel
theorem dc_W_sumUp_48 : decode bc_W_sumUp 48 = .ok (.iadd, 1) := by decide +kernel
theorem dc_W_sumUp_49 : decode bc_W_sumUp 49 = .ok (.iastore, 1) := by decide +kernel
theorem dc_W_sumUp_50 : decode bc_W_sumUp 50 = .ok (.iinc 6 1, 3) := by decide +kernel
theorem dc_W_sumUp_53 : decode bc_W_sumUp 53 = .ok (.goto (-24), 3) := by decide +kernel
theorem dc_W_sumUp_56 : decode bc_W_sumUp 56 = .ok (.iinc 3 1, 3) := by decide +kernel
theorem dc_W_sumUp_59 : decode bc_W_sumUp 59 = .ok (.goto (-57), 3) := by decide +kernel
theorem dc_W_sumUp_62 : decode bc_W_sumUp 62 = .ok (.return_, 1) := by decide +kernel
theorem dc_D_nodesFor_0 : decode bc_D_nodesFor 0 = .ok (.iconst 0, 1) := by decide +kernel
theorem dc_D_nodesFor_1 : decode bc_D_nodesFor 1 = .ok (.istore_n 2, 1) := by decide +kernel
theorem dc_D_nodesFor_2 : decode bc_D_nodesFor 2 = .ok (.iload_n 2, 1) := by decide +kernel
theorem dc_D_nodesFor_3 : decode bc_D_nodesFor 3 = .ok (.sipush 4096, 3) := by decide +kernel
theorem dc_D_nodesFor_6 : decode bc_D_nodesFor 6 = .ok (.if_icmp .ge 28, 3) := by decide +kernel
theorem dc_D_nodesFor_9 : decode bc_D_nodesFor 9 = .ok (.aload_n 0, 1) := by decide +kernel
theorem dc_D_nodesFor_10 : decode bc_D_nodesFor 10 = .ok (.getfield 9, 3) := by decide +kernel
theorem dc_D_nodesFor_13 : decode bc_D_nodesFor 13 = .ok (.iload_n 2, 1) := by decide +kernel
theorem dc_D_nodesFor_14 : decode bc_D_nodesFor 14 = .ok (.aload_n 1, 1) := by decide +kernel
theorem dc_D_nodesFor_15 : decode bc_D_nodesFor 15 = .ok (.iload_n 2, 1) := by decide +kernel
theorem dc_D_nodesFor_16 : decode bc_D_nodesFor 16 = .ok (.invokevirtual 24, 3) := by decide +kernel
theorem dc_D_nodesFor_19 : decode bc_D_nodesFor 19 = .ok (.ifCond .eq 7, 3) := by decide +kernel
theorem dc_D_nodesFor_22 : decode bc_D_nodesFor 22 = .ok (.iconst 1, 1) := by decide +kernel
theorem dc_D_nodesFor_23 : decode bc_D_nodesFor 23 = .ok (.goto 4, 3) := by decide +kernel
theorem dc_D_nodesFor_26 : decode bc_D_nodesFor 26 = .ok (.iconst 0, 1) := by decide +kernel
theorem dc_D_nodesFor_27 : decode bc_D_nodesFor 27 = .ok (.iastore, 1) := by decide +kernel
theorem dc_D_nodesFor_28 : decode bc_D_nodesFor 28 = .ok (.iinc 2 1, 3) := by decide +kernel
theorem dc_D_nodesFor_31 : decode bc_D_nodesFor 31 = .ok (.goto (-29), 3) := by decide +kernel
theorem dc_D_nodesFor_34 : decode bc_D_nodesFor 34 = .ok (.aload_n 0, 1) := by decide +kernel
theorem dc_D_nodesFor_35 : decode bc_D_nodesFor 35 = .ok (.iconst 2, 1) := by decide +kernel
theorem dc_D_nodesFor_36 : decode bc_D_nodesFor 36 = .ok (.putfield 30, 3) := by decide +kernel
theorem dc_D_nodesFor_39 : decode bc_D_nodesFor 39 = .ok (.bipush 11, 2) := by decide +kernel
theorem dc_D_nodesFor_41 : decode bc_D_nodesFor 41 = .ok (.istore_n 2, 1) := by decide +kernel
theorem dc_D_nodesFor_42 : decode bc_D_nodesFor 42 = .ok (.iload_n 2, 1) := by decide +kernel
theorem dc_D_nodesFor_43 : decode bc_D_nodesFor 43 = .ok (.ifCond .lt 60, 3) := by decide +kernel
theorem dc_D_nodesFor_46 : decode bc_D_nodesFor 46 = .ok (.aload_n 0, 1) := by decide +kernel
theorem dc_D_nodesFor_47 : decode bc_D_nodesFor 47 = .ok (.getfield 15, 3) := by decide +kernel
theorem dc_D_nodesFor_50 : decode bc_D_nodesFor 50 = .ok (.iconst 0, 1) := by decide +kernel
theorem dc_D_nodesFor_51 : decode bc_D_nodesFor 51 = .ok (.invokestatic 34, 3) := by decide +kernel
theorem dc_D_nodesFor_54 : decode bc_D_nodesFor 54 = .ok (.iconst 0, 1) := by decide +kernel
theorem dc_D_nodesFor_55 : decode bc_D_nodesFor 55 = .ok (.istore_n 3, 1) := by decide +kernel
theorem dc_D_nodesFor_56 : decode bc_D_nodesFor 56 = .ok (.iload_n 3, 1) := by decide +kernel
theorem dc_D_nodesFor_57 : decode bc_D_nodesFor 57 = .ok (.iconst 1, 1) := by decide +kernel
theorem dc_D_nodesFor_58 : decode bc_D_nodesFor 58 = .ok (.iload_n 2, 1) := by decide +kernel
theorem dc_D_nodesFor_59 : decode bc_D_nodesFor 59 = .ok (.ishl, 1) := by decide +kernel
theorem dc_D_nodesFor_60 : decode bc_D_nodesFor 60 = .ok (.if_icmp .ge 37, 3) := by decide +kernel
theorem dc_D_nodesFor_63 : decode bc_D_nodesFor 63 = .ok (.aload_n 0, 1) := by decide +kernel
theorem dc_D_nodesFor_64 : decode bc_D_nodesFor 64 = .ok (.getfield 9, 3) := by decide +kernel
theorem dc_D_nodesFor_67 : decode bc_D_nodesFor 67 = .ok (.iload_n 3, 1) := by decide +kernel
theorem dc_D_nodesFor_68 : decode bc_D_nodesFor 68 = .ok (.aload_n 0, 1) := by decide +kernel
theorem dc_D_nodesFor_69 : decode bc_D_nodesFor 69 = .ok (.aload_n 0, 1) := by decide +kernel
theorem dc_D_nodesFor_70 : decode bc_D_nodesFor 70 = .ok (.getfield 9, 3) := by decide +kernel
theorem dc_D_nodesFor_73 : decode bc_D_nodesFor 73 = .ok (.iconst 2, 1) := by decide +kernel
theorem dc_D_nodesFor_74 : decode bc_D_nodesFor 74 = .ok (.iload_n 3, 1) := by decide +kernel
theorem dc_D_nodesFor_75 : decode bc_D_nodesFor 75 = .ok (.imul, 1) := by decide +kernel
theorem dc_D_nodesFor_76 : decode bc_D_nodesFor 76 = .ok (.iaload, 1) := by decide +kernel
theorem dc_D_nodesFor_77 : decode bc_D_nodesFor 77 = .ok (.aload_n 0, 1) := by decide +kernel
theorem dc_D_nodesFor_78 : decode bc_D_nodesFor 78 = .ok (.getfield 9, 3) := by decide +kernel
theorem dc_D_nodesFor_81 : decode bc_D_nodesFor 81 = .ok (.iconst 2, 1) := by decide +kernel
theorem dc_D_nodesFor_82 : decode bc_D_nodesFor 82 = .ok (.iload_n 3, 1) := by decide +kernel
theorem dc_D_nodesFor_83 : decode bc_D_nodesFor 83 = .ok (.imul, 1) := by decide +kernel
theorem dc_D_nodesFor_84 : decode bc_D_nodesFor 84 = .ok (.iconst 1, 1) := by decide +kernel
theorem dc_D_nodesFor_85 : decode bc_D_nodesFor 85 = .ok (.iadd, 1) := by decide +kernel
theorem dc_D_nodesFor_86 : decode bc_D_nodesFor 86 = .ok (.iaload, 1) := by decide +kernel
theorem dc_D_nodesFor_87 : decode bc_D_nodesFor 87 = .ok (.invokevirtual 40, 3) := by decide +kernel
theorem dc_D_nodesFor_90 : decode bc_D_nodesFor 90 = .ok (.iastore, 1) := by decide +kernel
theorem dc_D_nodesFor_91 : decode bc_D_nodesFor 91 = .ok (.iinc 3 1, 3) := by decide +kernel
theorem dc_D_nodesFor_94 : decode bc_D_nodesFor 94 = .ok (.goto (-38), 3) := by decide +kernel
theorem dc_D_nodesFor_97 : decode bc_D_nodesFor 97 = .ok (.iinc 2 (-1), 3) := by decide +kernel
theorem dc_D_nodesFor_100 : decode bc_D_nodesFor 100 = .ok (.goto (-58), 3) := by decide +kernel
theorem dc_D_nodesFor_103 : decode bc_D_nodesFor 103 = .ok (.aload_n 0, 1) := by decide +kernel
theorem dc_D_nodesFor_104 : decode bc_D_nodesFor 104 = .ok (.getfield 30, 3) := by decide +kernel
theorem dc_D_nodesFor_107 : decode bc_D_nodesFor 107 = .ok (.iconst 2, 1) := by decide +kernel
theorem dc_D_nodesFor_108 : decode bc_D_nodesFor 108 = .ok (.isub, 1) := by decide +kernel
theorem dc_D_nodesFor_109 : decode bc_D_nodesFor 109 = .ok (.ireturn, 1) := by decide +kernel
theorem dc_Ja_fill_IIV_0 : decode bc_Ja_fill_IIV 0 = .ok (.iconst 0, 1) := by decide +kernel
theorem dc_Ja_fill_IIV_1 : decode bc_Ja_fill_IIV 1 = .ok (.istore_n 2, 1) := by decide +kernel
theorem dc_Ja_fill_IIV_2 : decode bc_Ja_fill_IIV 2 = .ok (.aload_n 0, 1) := by decide +kernel
theorem dc_Ja_fill_IIV_3 : decode bc_Ja_fill_IIV 3 = .ok (.arraylength, 1) := by decide +kernel
theorem dc_Ja_fill_IIV_4 : decode bc_Ja_fill_IIV 4 = .ok (.istore_n 3, 1) := by decide +kernel
theorem dc_Ja_fill_IIV_5 : decode bc_Ja_fill_IIV 5 = .ok (.iload_n 2, 1) := by decide +kernel
theorem dc_Ja_fill_IIV_6 : decode bc_Ja_fill_IIV 6 = .ok (.iload_n 3, 1) := by decide +kernel
theorem dc_Ja_fill_IIV_7 : decode bc_Ja_fill_IIV 7 = .ok (.if_icmp .ge 13, 3) := by decide +kernel
theorem dc_Ja_fill_IIV_10 : decode bc_Ja_fill_IIV 10 = .ok (.aload_n 0, 1) := by decide +kernel
theorem dc_Ja_fill_IIV_11 : decode bc_Ja_fill_IIV 11 = .ok (.iload_n 2, 1) := by decide +kernel
theorem dc_Ja_fill_IIV_12 : decode bc_Ja_fill_IIV 12 = .ok (.iload_n 1, 1) := by decide +kernel
theorem dc_Ja_fill_IIV_13 : decode bc_Ja_fill_IIV 13 = .ok (.iastore, 1) := by decide +kernel
theorem dc_Ja_fill_IIV_14 : decode bc_Ja_fill_IIV 14 = .ok (.iinc 2 1, 3) := by decide +kernel
theorem dc_Ja_fill_IIV_17 : decode bc_Ja_fill_IIV 17 = .ok (.goto (-12), 3) := by decide +kernel
theorem dc_Ja_fill_IIV_20 : decode bc_Ja_fill_IIV 20 = .ok (.return_, 1) := by decide +kernel
theorem dc_D_kindOf_0 : decode bc_D_kindOf 0 = .ok (.iload_n 2, 1) := by decide +kernel
theorem dc_D_kindOf_1 : decode bc_D_kindOf 1 = .ok (.ifCond .ne 5, 3) := by decide +kernel
theorem dc_D_kindOf_4 : decode bc_D_kindOf 4 = .ok (.iload_n 1, 1) := by decide +kernel
theorem dc_D_kindOf_5 : decode bc_D_kindOf 5 = .ok (.ireturn, 1) := by decide +kernel
theorem dc_D_kindOf_6 : decode bc_D_kindOf 6 = .ok (.aload_n 0, 1) := by decide +kernel
theorem dc_D_kindOf_7 : decode bc_D_kindOf 7 = .ok (.getfield 15, 3) := by decide +kernel
theorem dc_D_kindOf_10 : decode bc_D_kindOf 10 = .ok (.iload_n 2, 1) := by decide +kernel
theorem dc_D_kindOf_11 : decode bc_D_kindOf 11 = .ok (.iaload, 1) := by decide +kernel
theorem dc_D_kindOf_12 : decode bc_D_kindOf 12 = .ok (.istore_n 3, 1) := by decide +kernel
theorem dc_D_kindOf_13 : decode bc_D_kindOf 13 = .ok (.iconst 0, 1) := by decide +kernel
theorem dc_D_kindOf_14 : decode bc_D_kindOf 14 = .ok (.istore 4, 2) := by decide +kernel
theorem dc_D_kindOf_16 : decode bc_D_kindOf 16 = .ok (.iload 4, 2) := by decide +kernel
theorem dc_D_kindOf_18 : decode bc_D_kindOf 18 = .ok (.sipush 767, 3) := by decide +kernel
theorem dc_D_kindOf_21 : decode bc_D_kindOf 21 = .ok (.if_icmp .ge 32, 3) := by decide +kernel
theorem dc_D_kindOf_24 : decode bc_D_kindOf 24 = .ok (.iload_n 3, 1) := by decide +kernel
theorem dc_D_kindOf_25 : decode bc_D_kindOf 25 = .ok (.ifCond .eq 28, 3) := by decide +kernel
theorem dc_D_kindOf_28 : decode bc_D_kindOf 28 = .ok (.aload_n 0, 1) := by decide +kernel
theorem dc_D_kindOf_29 : decode bc_D_kindOf 29 = .ok (.getfield 21, 3) := by decide +kernel
theorem dc_D_kindOf_32 : decode bc_D_kindOf 32 = .ok (.iload_n 3, 1) := by decide +kernel
theorem dc_D_kindOf_33 : decode bc_D_kindOf 33 = .ok (.iaload, 1) := by decide +kernel
theorem dc_D_kindOf_34 : decode bc_D_kindOf 34 = .ok (.iload_n 1, 1) := by decide +kernel
theorem dc_D_kindOf_35 : decode bc_D_kindOf 35 = .ok (.if_icmp .ne 5, 3) := by decide +kernel
theorem dc_D_kindOf_38 : decode bc_D_kindOf 38 = .ok (.iload_n 3, 1) := by decide +kernel
theorem dc_D_kindOf_39 : decode bc_D_kindOf 39 = .ok (.ireturn, 1) := by decide +kernel
theorem dc_D_kindOf_40 : decode bc_D_kindOf 40 = .ok (.aload_n 0, 1) := by decide +kernel
theorem dc_D_kindOf_41 : decode bc_D_kindOf 41 = .ok (.getfield 18, 3) := by decide +kernel
theorem dc_D_kindOf_44 : decode bc_D_kindOf 44 = .ok (.iload_n 3, 1) := by decide +kernel
theorem dc_D_kindOf_45 : decode bc_D_kindOf 45 = .ok (.iaload, 1) := by decide +kernel
theorem dc_D_kindOf_46 : decode bc_D_kindOf 46 = .ok (.istore_n 3, 1) := by decide +kernel
theorem dc_D_kindOf_47 : decode bc_D_kindOf 47 = .ok (.iinc 4 1, 3) := by decide +kernel
theorem dc_D_kindOf_50 : decode bc_D_kindOf 50 = .ok (.goto (-34), 3) := by decide +kernel
theorem dc_D_kindOf_53 : decode bc_D_kindOf 53 = .ok (.aload_n 0, 1) := by decide +kernel
theorem dc_D_kindOf_54 : decode bc_D_kindOf 54 = .ok (.iload_n 1, 1) := by decide +kernel
theorem dc_D_kindOf_55 : decode bc_D_kindOf 55 = .ok (.iload_n 2, 1) := by decide +kernel
theorem dc_D_kindOf_56 : decode bc_D_kindOf 56 = .ok (.invokevirtual 44, 3) := by decide +kernel
theorem dc_D_kindOf_59 : decode bc_D_kindOf 59 = .ok (.ireturn, 1) := by decide +kernel
theorem dc_D_newNode_0 : decode bc_D_newNode 0 = .ok (.aload_n 0, 1) := by decide +kernel
theorem dc_D_newNode_1 : decode bc_D_newNode 1 = .ok (.getfield 30, 3) := by decide +kernel
theorem dc_D_newNode_4 : decode bc_D_newNode 4 = .ok (.sipush 767, 3) := by decide +kernel
theorem dc_D_newNode_7 : decode bc_D_newNode 7 = .ok (.if_icmp .lt 5, 3) := by decide +kernel
theorem dc_D_newNode_10 : decode bc_D_newNode 10 = .ok (.iconst 0, 1) := by decide +kernel
theorem dc_D_newNode_11 : decode bc_D_newNode 11 = .ok (.ireturn, 1) := by decide +kernel
theorem dc_D_newNode_12 : decode bc_D_newNode 12 = .ok (.aload_n 0, 1) := by decide +kernel
theorem dc_D_newNode_13 : decode bc_D_newNode 13 = .ok (.getfield 30, 3) := by decide +kernel
theorem dc_D_newNode_16 : decode bc_D_newNode 16 = .ok (.istore_n 3, 1) := by decide +kernel
theorem dc_D_newNode_17 : decode bc_D_newNode 17 = .ok (.aload_n 0, 1) := by decide +kernel
theorem dc_D_newNode_18 : decode bc_D_newNode 18 = .ok (.dup, 1) := by decide +kernel
theorem dc_D_newNode_19 : decode bc_D_newNode 19 = .ok (.getfield 30, 3) := by decide +kernel
theorem dc_D_newNode_22 : decode bc_D_newNode 22 = .ok (.iconst 1, 1) := by decide +kernel
theorem dc_D_newNode_23 : decode bc_D_newNode 23 = .ok (.iadd, 1) := by decide +kernel
theorem dc_D_newNode_24 : decode bc_D_newNode 24 = .ok (.putfield 30, 3) := by decide +kernel
theorem dc_D_newNode_27 : decode bc_D_newNode 27 = .ok (.aload_n 0, 1) := by decide +kernel
theorem dc_D_newNode_28 : decode bc_D_newNode 28 = .ok (.getfield 21, 3) := by decide +kernel
theorem dc_D_newNode_31 : decode bc_D_newNode 31 = .ok (.iload_n 3, 1) := by decide +kernel
theorem dc_D_newNode_32 : decode bc_D_newNode 32 = .ok (.iload_n 1, 1) := by decide +kernel
theorem dc_D_newNode_33 : decode bc_D_newNode 33 = .ok (.iastore, 1) := by decide +kernel
theorem dc_D_newNode_34 : decode bc_D_newNode 34 = .ok (.aload_n 0, 1) := by decide +kernel
theorem dc_D_newNode_35 : decode bc_D_newNode 35 = .ok (.getfield 18, 3) := by decide +kernel
theorem dc_D_newNode_38 : decode bc_D_newNode 38 = .ok (.iload_n 3, 1) := by decide +kernel
theorem dc_D_newNode_39 : decode bc_D_newNode 39 = .ok (.aload_n 0, 1) := by decide +kernel
theorem dc_D_newNode_40 : decode bc_D_newNode 40 = .ok (.getfield 15, 3) := by decide +kernel
theorem dc_D_newNode_43 : decode bc_D_newNode 43 = .ok (.iload_n 2, 1) := by decide +kernel
theorem dc_D_newNode_44 : decode bc_D_newNode 44 = .ok (.iaload, 1) := by decide +kernel
theorem dc_D_newNode_45 : decode bc_D_newNode 45 = .ok (.iastore, 1) := by decide +kernel
theorem dc_D_newNode_46 : decode bc_D_newNode 46 = .ok (.aload_n 0, 1) := by decide +kernel
theorem dc_D_newNode_47 : decode bc_D_newNode 47 = .ok (.getfield 15, 3) := by decide +kernel
theorem dc_D_newNode_50 : decode bc_D_newNode 50 = .ok (.iload_n 2, 1) := by decide +kernel
theorem dc_D_newNode_51 : decode bc_D_newNode 51 = .ok (.iload_n 3, 1) := by decide +kernel
theorem dc_D_newNode_52 : decode bc_D_newNode 52 = .ok (.iastore, 1) := by decide +kernel
theorem dc_D_newNode_53 : decode bc_D_newNode 53 = .ok (.iload_n 3, 1) := by decide +kernel
theorem dc_D_newNode_54 : decode bc_D_newNode 54 = .ok (.ireturn, 1) := by decide +kernel
theorem dc_F_isParted_0 : decode bc_F_isParted 0 = .ok (.lconst 0, 1) := by decide +kernel
theorem dc_F_isParted_1 : decode bc_F_isParted 1 = .ok (.lstore_n 2, 1) := by decide +kernel
theorem dc_F_isParted_2 : decode bc_F_isParted 2 = .ok (.lconst 0, 1) := by decide +kernel
theorem dc_F_isParted_3 : decode bc_F_isParted 3 = .ok (.lstore 4, 2) := by decide +kernel
theorem dc_F_isParted_5 : decode bc_F_isParted 5 = .ok (.iconst 0, 1) := by decide +kernel
theorem dc_F_isParted_6 : decode bc_F_isParted 6 = .ok (.istore 6, 2) := by decide +kernel
theorem dc_F_isParted_8 : decode bc_F_isParted 8 = .ok (.iload 6, 2) := by decide +kernel
theorem dc_F_isParted_10 : decode bc_F_isParted 10 = .ok (.bipush 64, 2) := by decide +kernel
theorem dc_F_isParted_12 : decode bc_F_isParted 12 = .ok (.if_icmp .ge 31, 3) := by decide +kernel
theorem dc_F_isParted_15 : decode bc_F_isParted 15 = .ok (.lload_n 2, 1) := by decide +kernel
theorem dc_F_isParted_16 : decode bc_F_isParted 16 = .ok (.aload_n 0, 1) := by decide +kernel
theorem dc_F_isParted_17 : decode bc_F_isParted 17 = .ok (.iload 6, 2) := by decide +kernel
theorem dc_F_isParted_19 : decode bc_F_isParted 19 = .ok (.iload_n 1, 1) := by decide +kernel
theorem dc_F_isParted_20 : decode bc_F_isParted 20 = .ok (.invokevirtual 43, 3) := by decide +kernel
theorem dc_F_isParted_23 : decode bc_F_isParted 23 = .ok (.lor, 1) := by decide +kernel
theorem dc_F_isParted_24 : decode bc_F_isParted 24 = .ok (.lstore_n 2, 1) := by decide +kernel
theorem dc_F_isParted_25 : decode bc_F_isParted 25 = .ok (.lload 4, 2) := by decide +kernel
theorem dc_F_isParted_27 : decode bc_F_isParted 27 = .ok (.aload_n 0, 1) := by decide +kernel
theorem dc_F_isParted_28 : decode bc_F_isParted 28 = .ok (.iload 6, 2) := by decide +kernel
theorem dc_F_isParted_30 : decode bc_F_isParted 30 = .ok (.iload_n 1, 1) := by decide +kernel
theorem dc_F_isParted_31 : decode bc_F_isParted 31 = .ok (.invokevirtual 47, 3) := by decide +kernel
theorem dc_F_isParted_34 : decode bc_F_isParted 34 = .ok (.lor, 1) := by decide +kernel
theorem dc_F_isParted_35 : decode bc_F_isParted 35 = .ok (.lstore 4, 2) := by decide +kernel
theorem dc_F_isParted_37 : decode bc_F_isParted 37 = .ok (.iinc 6 1, 3) := by decide +kernel
theorem dc_F_isParted_40 : decode bc_F_isParted 40 = .ok (.goto (-32), 3) := by decide +kernel
theorem dc_F_isParted_43 : decode bc_F_isParted 43 = .ok (.lload_n 2, 1) := by decide +kernel
theorem dc_F_isParted_44 : decode bc_F_isParted 44 = .ok (.lconst 0, 1) := by decide +kernel
theorem dc_F_isParted_45 : decode bc_F_isParted 45 = .ok (.lcmp, 1) := by decide +kernel
theorem dc_F_isParted_46 : decode bc_F_isParted 46 = .ok (.ifCond .eq 14, 3) := by decide +kernel
theorem dc_F_isParted_49 : decode bc_F_isParted 49 = .ok (.lload 4, 2) := by decide +kernel
theorem dc_F_isParted_51 : decode bc_F_isParted 51 = .ok (.lconst 0, 1) := by decide +kernel
theorem dc_F_isParted_52 : decode bc_F_isParted 52 = .ok (.lcmp, 1) := by decide +kernel
theorem dc_F_isParted_53 : decode bc_F_isParted 53 = .ok (.ifCond .eq 7, 3) := by decide +kernel
theorem dc_F_isParted_56 : decode bc_F_isParted 56 = .ok (.iconst 1, 1) := by decide +kernel
theorem dc_F_isParted_57 : decode bc_F_isParted 57 = .ok (.goto 4, 3) := by decide +kernel
theorem dc_F_isParted_60 : decode bc_F_isParted 60 = .ok (.iconst 0, 1) := by decide +kernel
theorem dc_F_isParted_61 : decode bc_F_isParted 61 = .ok (.ireturn, 1) := by decide +kernel
