theorem dc_A_init_0 : decode bc_A_init 0 = .ok (.aload_n 0, 1) := by decide +kernel
theorem dc_A_init_1 : decode bc_A_init 1 = .ok (.invokespecial 3, 3) := by decide +kernel
theorem dc_A_init_4 : decode bc_A_init 4 = .ok (.aload_n 0, 1) := by decide +kernel
theorem dc_A_init_5 : decode bc_A_init 5 = .ok (.new 9, 3) := by decide +kernel
theorem dc_A_init_8 : decode bc_A_init 8 = .ok (.dup, 1) := by decide +kernel
theorem dc_A_init_9 : decode bc_A_init 9 = .ok (.invokespecial 11, 3) := by decide +kernel
theorem dc_A_init_12 : decode bc_A_init 12 = .ok (.putfield 12, 3) := by decide +kernel
theorem dc_A_init_15 : decode bc_A_init 15 = .ok (.aload_n 0, 1) := by decide +kernel
theorem dc_A_init_16 : decode bc_A_init 16 = .ok (.new 9, 3) := by decide +kernel
theorem dc_A_init_19 : decode bc_A_init 19 = .ok (.dup, 1) := by decide +kernel
theorem dc_A_init_20 : decode bc_A_init 20 = .ok (.invokespecial 11, 3) := by decide +kernel
theorem dc_A_init_23 : decode bc_A_init 23 = .ok (.putfield 18, 3) := by decide +kernel
theorem dc_A_init_26 : decode bc_A_init 26 = .ok (.aload_n 0, 1) := by decide +kernel
theorem dc_A_init_27 : decode bc_A_init 27 = .ok (.bipush 64, 2) := by decide +kernel
theorem dc_A_init_29 : decode bc_A_init 29 = .ok (.newarray .long, 2) := by decide +kernel
theorem dc_A_init_31 : decode bc_A_init 31 = .ok (.putfield 21, 3) := by decide +kernel
theorem dc_A_init_34 : decode bc_A_init 34 = .ok (.aload_n 0, 1) := by decide +kernel
theorem dc_A_init_35 : decode bc_A_init 35 = .ok (.bipush 7, 2) := by decide +kernel
theorem dc_A_init_37 : decode bc_A_init 37 = .ok (.newarray .long, 2) := by decide +kernel
theorem dc_A_init_39 : decode bc_A_init 39 = .ok (.putfield 25, 3) := by decide +kernel
theorem dc_A_init_42 : decode bc_A_init 42 = .ok (.iconst 0, 1) := by decide +kernel
theorem dc_A_init_43 : decode bc_A_init 43 = .ok (.istore_n 1, 1) := by decide +kernel
theorem dc_A_init_44 : decode bc_A_init 44 = .ok (.iload_n 1, 1) := by decide +kernel
theorem dc_A_init_45 : decode bc_A_init 45 = .ok (.bipush 64, 2) := by decide +kernel
theorem dc_A_init_47 : decode bc_A_init 47 = .ok (.if_icmp .ge 24, 3) := by decide +kernel
theorem dc_A_init_50 : decode bc_A_init 50 = .ok (.aload_n 0, 1) := by decide +kernel
theorem dc_A_init_51 : decode bc_A_init 51 = .ok (.getfield 25, 3) := by decide +kernel
theorem dc_A_init_54 : decode bc_A_init 54 = .ok (.iload_n 1, 1) := by decide +kernel
theorem dc_A_init_55 : decode bc_A_init 55 = .ok (.invokestatic 28, 3) := by decide +kernel
theorem dc_A_init_58 : decode bc_A_init 58 = .ok (.dup2, 1) := by decide +kernel
theorem dc_A_init_59 : decode bc_A_init 59 = .ok (.laload, 1) := by decide +kernel
theorem dc_A_init_60 : decode bc_A_init 60 = .ok (.lconst 1, 1) := by decide +kernel
theorem dc_A_init_61 : decode bc_A_init 61 = .ok (.iload_n 1, 1) := by decide +kernel
theorem dc_A_init_62 : decode bc_A_init 62 = .ok (.lshl, 1) := by decide +kernel
theorem dc_A_init_63 : decode bc_A_init 63 = .ok (.lor, 1) := by decide +kernel
theorem dc_A_init_64 : decode bc_A_init 64 = .ok (.lastore, 1) := by decide +kernel
theorem dc_A_init_65 : decode bc_A_init 65 = .ok (.iinc 1 1, 3) := by decide +kernel
theorem dc_A_init_68 : decode bc_A_init 68 = .ok (.goto (-24), 3) := by decide +kernel
theorem dc_A_init_71 : decode bc_A_init 71 = .ok (.return_, 1) := by decide +kernel
theorem dc_A_combineInto_0 : decode bc_A_combineInto 0 = .ok (.iload_n 2, 1) := by decide +kernel
theorem dc_A_combineInto_1 : decode bc_A_combineInto 1 = .ok (.tableswitch 146 0 7 #[47, 57, 67, 77, 77, 98, 98, 136], 47) := by decide +kernel
theorem dc_A_combineInto_48 : decode bc_A_combineInto 48 = .ok (.aload_n 1, 1) := by decide +kernel
theorem dc_A_combineInto_49 : decode bc_A_combineInto 49 = .ok (.aload_n 3, 1) := by decide +kernel
theorem dc_A_combineInto_50 : decode bc_A_combineInto 50 = .ok (.aload 4, 2) := by decide +kernel
theorem dc_A_combineInto_52 : decode bc_A_combineInto 52 = .ok (.invokestatic 34, 3) := by decide +kernel
theorem dc_A_combineInto_55 : decode bc_A_combineInto 55 = .ok (.goto 126, 3) := by decide +kernel
theorem dc_A_combineInto_58 : decode bc_A_combineInto 58 = .ok (.aload_n 1, 1) := by decide +kernel
theorem dc_A_combineInto_59 : decode bc_A_combineInto 59 = .ok (.aload_n 3, 1) := by decide +kernel
theorem dc_A_combineInto_60 : decode bc_A_combineInto 60 = .ok (.aload 4, 2) := by decide +kernel
theorem dc_A_combineInto_62 : decode bc_A_combineInto 62 = .ok (.invokestatic 38, 3) := by decide +kernel
theorem dc_A_combineInto_65 : decode bc_A_combineInto 65 = .ok (.goto 116, 3) := by decide +kernel
theorem dc_A_combineInto_68 : decode bc_A_combineInto 68 = .ok (.aload_n 1, 1) := by decide +kernel
theorem dc_A_combineInto_69 : decode bc_A_combineInto 69 = .ok (.aload_n 3, 1) := by decide +kernel
theorem dc_A_combineInto_70 : decode bc_A_combineInto 70 = .ok (.aload 4, 2) := by decide +kernel
theorem dc_A_combineInto_72 : decode bc_A_combineInto 72 = .ok (.invokestatic 41, 3) := by decide +kernel
theorem dc_A_combineInto_75 : decode bc_A_combineInto 75 = .ok (.goto 106, 3) := by decide +kernel
theorem dc_A_combineInto_78 : decode bc_A_combineInto 78 = .ok (.aload_n 0, 1) := by decide +kernel
theorem dc_A_combineInto_79 : decode bc_A_combineInto 79 = .ok (.aload_n 1, 1) := by decide +kernel
theorem dc_A_combineInto_80 : decode bc_A_combineInto 80 = .ok (.aload_n 3, 1) := by decide +kernel
theorem dc_A_combineInto_81 : decode bc_A_combineInto 81 = .ok (.aload 4, 2) := by decide +kernel
theorem dc_A_combineInto_83 : decode bc_A_combineInto 83 = .ok (.iload_n 2, 1) := by decide +kernel
theorem dc_A_combineInto_84 : decode bc_A_combineInto 84 = .ok (.iconst 3, 1) := by decide +kernel
theorem dc_A_combineInto_85 : decode bc_A_combineInto 85 = .ok (.if_icmp .ne 7, 3) := by decide +kernel
theorem dc_A_combineInto_88 : decode bc_A_combineInto 88 = .ok (.iconst 1, 1) := by decide +kernel
theorem dc_A_combineInto_89 : decode bc_A_combineInto 89 = .ok (.goto 4, 3) := by decide +kernel
theorem dc_A_combineInto_92 : decode bc_A_combineInto 92 = .ok (.iconst 0, 1) := by decide +kernel
theorem dc_A_combineInto_93 : decode bc_A_combineInto 93 = .ok (.invokevirtual 44, 3) := by decide +kernel
theorem dc_A_combineInto_96 : decode bc_A_combineInto 96 = .ok (.goto 85, 3) := by decide +kernel
theorem dc_A_combineInto_99 : decode bc_A_combineInto 99 = .ok (.aload_n 0, 1) := by decide +kernel
theorem dc_A_combineInto_100 : decode bc_A_combineInto 100 = .ok (.getfield 12, 3) := by decide +kernel
theorem dc_A_combineInto_103 : decode bc_A_combineInto 103 = .ok (.aload 4, 2) := by decide +kernel
theorem dc_A_combineInto_105 : decode bc_A_combineInto 105 = .ok (.invokevirtual 48, 3) := by decide +kernel
theorem dc_A_combineInto_108 : decode bc_A_combineInto 108 = .ok (.aload_n 0, 1) := by decide +kernel
theorem dc_A_combineInto_109 : decode bc_A_combineInto 109 = .ok (.getfield 12, 3) := by decide +kernel
theorem dc_A_combineInto_112 : decode bc_A_combineInto 112 = .ok (.iload_n 2, 1) := by decide +kernel
theorem dc_A_combineInto_113 : decode bc_A_combineInto 113 = .ok (.iconst 5, 1) := by decide +kernel
theorem dc_A_combineInto_114 : decode bc_A_combineInto 114 = .ok (.if_icmp .ne 7, 3) := by decide +kernel
theorem dc_A_combineInto_117 : decode bc_A_combineInto 117 = .ok (.iconst 1, 1) := by decide +kernel
theorem dc_A_combineInto_118 : decode bc_A_combineInto 118 = .ok (.goto 4, 3) := by decide +kernel
theorem dc_A_combineInto_121 : decode bc_A_combineInto 121 = .ok (.iconst 0, 1) := by decide +kernel
theorem dc_A_combineInto_122 : decode bc_A_combineInto 122 = .ok (.invokevirtual 52, 3) := by decide +kernel
theorem dc_A_combineInto_125 : decode bc_A_combineInto 125 = .ok (.aload_n 1, 1) := by decide +kernel
theorem dc_A_combineInto_126 : decode bc_A_combineInto 126 = .ok (.aload_n 3, 1) := by decide +kernel
theorem dc_A_combineInto_127 : decode bc_A_combineInto 127 = .ok (.aload_n 0, 1) := by decide +kernel
theorem dc_A_combineInto_128 : decode bc_A_combineInto 128 = .ok (.getfield 12, 3) := by decide +kernel
theorem dc_A_combineInto_131 : decode bc_A_combineInto 131 = .ok (.invokestatic 41, 3) := by decide +kernel
theorem dc_A_combineInto_134 : decode bc_A_combineInto 134 = .ok (.goto 47, 3) := by decide +kernel
theorem dc_A_combineInto_137 : decode bc_A_combineInto 137 = .ok (.aload_n 1, 1) := by decide +kernel
theorem dc_A_combineInto_138 : decode bc_A_combineInto 138 = .ok (.aload_n 3, 1) := by decide +kernel
theorem dc_A_combineInto_139 : decode bc_A_combineInto 139 = .ok (.aload 4, 2) := by decide +kernel
theorem dc_A_combineInto_141 : decode bc_A_combineInto 141 = .ok (.invokestatic 56, 3) := by decide +kernel
theorem dc_A_combineInto_144 : decode bc_A_combineInto 144 = .ok (.goto 37, 3) := by decide +kernel
theorem dc_A_combineInto_147 : decode bc_A_combineInto 147 = .ok (.aload_n 0, 1) := by decide +kernel
theorem dc_A_combineInto_148 : decode bc_A_combineInto 148 = .ok (.getfield 18, 3) := by decide +kernel
theorem dc_A_combineInto_151 : decode bc_A_combineInto 151 = .ok (.aload_n 3, 1) := by decide +kernel
theorem dc_A_combineInto_152 : decode bc_A_combineInto 152 = .ok (.aload 4, 2) := by decide +kernel
theorem dc_A_combineInto_154 : decode bc_A_combineInto 154 = .ok (.invokestatic 56, 3) := by decide +kernel
theorem dc_A_combineInto_157 : decode bc_A_combineInto 157 = .ok (.aload_n 0, 1) := by decide +kernel
theorem dc_A_combineInto_158 : decode bc_A_combineInto 158 = .ok (.aload_n 0, 1) := by decide +kernel
theorem dc_A_combineInto_159 : decode bc_A_combineInto 159 = .ok (.getfield 12, 3) := by decide +kernel
theorem dc_A_combineInto_162 : decode bc_A_combineInto 162 = .ok (.aload_n 0, 1) := by decide +kernel
theorem dc_A_combineInto_163 : decode bc_A_combineInto 163 = .ok (.getfield 18, 3) := by decide +kernel
theorem dc_A_combineInto_166 : decode bc_A_combineInto 166 = .ok (.aload 4, 2) := by decide +kernel
theorem dc_A_combineInto_168 : decode bc_A_combineInto 168 = .ok (.iconst 1, 1) := by decide +kernel
theorem dc_A_combineInto_169 : decode bc_A_combineInto 169 = .ok (.invokevirtual 44, 3) := by decide +kernel
theorem dc_A_combineInto_172 : decode bc_A_combineInto 172 = .ok (.aload_n 1, 1) := by decide +kernel
theorem dc_A_combineInto_173 : decode bc_A_combineInto 173 = .ok (.aload_n 3, 1) := by decide +kernel
theorem dc_A_combineInto_174 : decode bc_A_combineInto 174 = .ok (.aload_n 0, 1) := by decide +kernel
theorem dc_A_combineInto_175 : decode bc_A_combineInto 175 = .ok (.getfield 12, 3) := by decide +kernel
theorem dc_A_combineInto_178 : decode bc_A_combineInto 178 = .ok (.invokestatic 41, 3) := by decide +kernel
theorem dc_A_combineInto_181 : decode bc_A_combineInto 181 = .ok (.return_, 1) := by decide +kernel
theorem dc_A_unite_0 : decode bc_A_unite 0 = .ok (.iconst 0, 1) := by decide +kernel
theorem dc_A_unite_1 : decode bc_A_unite 1 = .ok (.istore_n 3, 1) := by decide +kernel
theorem dc_A_unite_2 : decode bc_A_unite 2 = .ok (.iload_n 3, 1) := by decide +kernel
theorem dc_A_unite_3 : decode bc_A_unite 3 = .ok (.bipush 64, 2) := by decide +kernel
theorem dc_A_unite_5 : decode bc_A_unite 5 = .ok (.if_icmp .ge 28, 3) := by decide +kernel
theorem dc_A_unite_8 : decode bc_A_unite 8 = .ok (.aload_n 0, 1) := by decide +kernel
theorem dc_A_unite_9 : decode bc_A_unite 9 = .ok (.getfield 59, 3) := by decide +kernel
theorem dc_A_unite_12 : decode bc_A_unite 12 = .ok (.iload_n 3, 1) := by decide +kernel
theorem dc_A_unite_13 : decode bc_A_unite 13 = .ok (.aload_n 1, 1) := by decide +kernel
theorem dc_A_unite_14 : decode bc_A_unite 14 = .ok (.getfield 59, 3) := by decide +kernel
theorem dc_A_unite_17 : decode bc_A_unite 17 = .ok (.iload_n 3, 1) := by decide +kernel
theorem dc_A_unite_18 : decode bc_A_unite 18 = .ok (.laload, 1) := by decide +kernel
theorem dc_A_unite_19 : decode bc_A_unite 19 = .ok (.aload_n 2, 1) := by decide +kernel
theorem dc_A_unite_20 : decode bc_A_unite 20 = .ok (.getfield 59, 3) := by decide +kernel
theorem dc_A_unite_23 : decode bc_A_unite 23 = .ok (.iload_n 3, 1) := by decide +kernel
theorem dc_A_unite_24 : decode bc_A_unite 24 = .ok (.laload, 1) := by decide +kernel
theorem dc_A_unite_25 : decode bc_A_unite 25 = .ok (.lor, 1) := by decide +kernel
theorem dc_A_unite_26 : decode bc_A_unite 26 = .ok (.lastore, 1) := by decide +kernel
theorem dc_A_unite_27 : decode bc_A_unite 27 = .ok (.iinc 3 1, 3) := by decide +kernel
theorem dc_A_unite_30 : decode bc_A_unite 30 = .ok (.goto (-28), 3) := by decide +kernel
theorem dc_A_unite_33 : decode bc_A_unite 33 = .ok (.return_, 1) := by decide +kernel
theorem dc_A_intersect_0 : decode bc_A_intersect 0 = .ok (.iconst 0, 1) := by decide +kernel
theorem dc_A_intersect_1 : decode bc_A_intersect 1 = .ok (.istore_n 3, 1) := by decide +kernel
theorem dc_A_intersect_2 : decode bc_A_intersect 2 = .ok (.iload_n 3, 1) := by decide +kernel
theorem dc_A_intersect_3 : decode bc_A_intersect 3 = .ok (.bipush 64, 2) := by decide +kernel
theorem dc_A_intersect_5 : decode bc_A_intersect 5 = .ok (.if_icmp .ge 28, 3) := by decide +kernel
theorem dc_A_intersect_8 : decode bc_A_intersect 8 = .ok (.aload_n 0, 1) := by decide +kernel
theorem dc_A_intersect_9 : decode bc_A_intersect 9 = .ok (.getfield 59, 3) := by decide +kernel
theorem dc_A_intersect_12 : decode bc_A_intersect 12 = .ok (.iload_n 3, 1) := by decide +kernel
theorem dc_A_intersect_13 : decode bc_A_intersect 13 = .ok (.aload_n 1, 1) := by decide +kernel
theorem dc_A_intersect_14 : decode bc_A_intersect 14 = .ok (.getfield 59, 3) := by decide +kernel
theorem dc_A_intersect_17 : decode bc_A_intersect 17 = .ok (.iload_n 3, 1) := by decide +kernel
theorem dc_A_intersect_18 : decode bc_A_intersect 18 = .ok (.laload, 1) := by decide +kernel
theorem dc_A_intersect_19 : decode bc_A_intersect 19 = .ok (.aload_n 2, 1) := by decide +kernel
theorem dc_A_intersect_20 : decode bc_A_intersect 20 = .ok (.getfield 59, 3) := by decide +kernel
theorem dc_A_intersect_23 : decode bc_A_intersect 23 = .ok (.iload_n 3, 1) := by decide +kernel
theorem dc_A_intersect_24 : decode bc_A_intersect 24 = .ok (.laload, 1) := by decide +kernel
theorem dc_A_intersect_25 : decode bc_A_intersect 25 = .ok (.land, 1) := by decide +kernel
theorem dc_A_intersect_26 : decode bc_A_intersect 26 = .ok (.lastore, 1) := by decide +kernel
theorem dc_A_intersect_27 : decode bc_A_intersect 27 = .ok (.iinc 3 1, 3) := by decide +kernel
theorem dc_A_intersect_30 : decode bc_A_intersect 30 = .ok (.goto (-28), 3) := by decide +kernel
theorem dc_A_intersect_33 : decode bc_A_intersect 33 = .ok (.return_, 1) := by decide +kernel
theorem dc_A_subtract_0 : decode bc_A_subtract 0 = .ok (.iconst 0, 1) := by decide +kernel
theorem dc_A_subtract_1 : decode bc_A_subtract 1 = .ok (.istore_n 3, 1) := by decide +kernel
theorem dc_A_subtract_2 : decode bc_A_subtract 2 = .ok (.iload_n 3, 1) := by decide +kernel
theorem dc_A_subtract_3 : decode bc_A_subtract 3 = .ok (.bipush 64, 2) := by decide +kernel
theorem dc_A_subtract_5 : decode bc_A_subtract 5 = .ok (.if_icmp .ge 32, 3) := by decide +kernel
theorem dc_A_subtract_8 : decode bc_A_subtract 8 = .ok (.aload_n 0, 1) := by decide +kernel
theorem dc_A_subtract_9 : decode bc_A_subtract 9 = .ok (.getfield 59, 3) := by decide +kernel
theorem dc_A_subtract_12 : decode bc_A_subtract 12 = .ok (.iload_n 3, 1) := by decide +kernel
theorem dc_A_subtract_13 : decode bc_A_subtract 13 = .ok (.aload_n 1, 1) := by decide +kernel
theorem dc_A_subtract_14 : decode bc_A_subtract 14 = .ok (.getfield 59, 3) := by decide +kernel
theorem dc_A_subtract_17 : decode bc_A_subtract 17 = .ok (.iload_n 3, 1) := by decide +kernel
theorem dc_A_subtract_18 : decode bc_A_subtract 18 = .ok (.laload, 1) := by decide +kernel
theorem dc_A_subtract_19 : decode bc_A_subtract 19 = .ok (.aload_n 2, 1) := by decide +kernel
theorem dc_A_subtract_20 : decode bc_A_subtract 20 = .ok (.getfield 59, 3) := by decide +kernel
theorem dc_A_subtract_23 : decode bc_A_subtract 23 = .ok (.iload_n 3, 1) := by decide +kernel
theorem dc_A_subtract_24 : decode bc_A_subtract 24 = .ok (.laload, 1) := by decide +kernel
theorem dc_A_subtract_25 : decode bc_A_subtract 25 = .ok (.ldc2_w 62, 3) := by decide +kernel
theorem dc_A_subtract_28 : decode bc_A_subtract 28 = .ok (.lxor, 1) := by decide +kernel
theorem dc_A_subtract_29 : decode bc_A_subtract 29 = .ok (.land, 1) := by decide +kernel
theorem dc_A_subtract_30 : decode bc_A_subtract 30 = .ok (.lastore, 1) := by decide +kernel
theorem dc_A_subtract_31 : decode bc_A_subtract 31 = .ok (.iinc 3 1, 3) := by decide +kernel
theorem dc_A_subtract_34 : decode bc_A_subtract 34 = .ok (.goto (-32), 3) := by decide +kernel
theorem dc_A_subtract_37 : decode bc_A_subtract 37 = .ok (.return_, 1) := by decide +kernel
theorem dc_A_pair_0 : decode bc_A_pair 0 = .ok (.aload_n 2, 1) := by decide +kernel
theorem dc_A_pair_1 : decode bc_A_pair 1 = .ok (.invokevirtual 64, 3) := by decide +kernel
theorem dc_A_pair_4 : decode bc_A_pair 4 = .ok (.aload_n 3, 1) := by decide +kernel
theorem dc_A_pair_5 : decode bc_A_pair 5 = .ok (.invokevirtual 64, 3) := by decide +kernel
theorem dc_A_pair_8 : decode bc_A_pair 8 = .ok (.if_icmp .ge 7, 3) := by decide +kernel
theorem dc_A_pair_11 : decode bc_A_pair 11 = .ok (.iconst 1, 1) := by decide +kernel
theorem dc_A_pair_12 : decode bc_A_pair 12 = .ok (.goto 4, 3) := by decide +kernel
theorem dc_A_pair_15 : decode bc_A_pair 15 = .ok (.iconst 0, 1) := by decide +kernel
theorem dc_A_pair_16 : decode bc_A_pair 16 = .ok (.istore 5, 2) := by decide +kernel
theorem dc_A_pair_18 : decode bc_A_pair 18 = .ok (.iload 5, 2) := by decide +kernel
theorem dc_A_pair_20 : decode bc_A_pair 20 = .ok (.ifCond .eq 7, 3) := by decide +kernel
theorem dc_A_pair_23 : decode bc_A_pair 23 = .ok (.aload_n 3, 1) := by decide +kernel
theorem dc_A_pair_24 : decode bc_A_pair 24 = .ok (.goto 4, 3) := by decide +kernel
theorem dc_A_pair_27 : decode bc_A_pair 27 = .ok (.aload_n 2, 1) := by decide +kernel
theorem dc_A_pair_28 : decode bc_A_pair 28 = .ok (.astore 6, 2) := by decide +kernel
theorem dc_A_pair_30 : decode bc_A_pair 30 = .ok (.iload 5, 2) := by decide +kernel
theorem dc_A_pair_32 : decode bc_A_pair 32 = .ok (.ifCond .eq 7, 3) := by decide +kernel
theorem dc_A_pair_35 : decode bc_A_pair 35 = .ok (.aload_n 2, 1) := by decide +kernel
theorem dc_A_pair_36 : decode bc_A_pair 36 = .ok (.goto 4, 3) := by decide +kernel
theorem dc_A_pair_39 : decode bc_A_pair 39 = .ok (.aload_n 3, 1) := by decide +kernel
theorem dc_A_pair_40 : decode bc_A_pair 40 = .ok (.astore 7, 2) := by decide +kernel
theorem dc_A_pair_42 : decode bc_A_pair 42 = .ok (.aload 7, 2) := by decide +kernel
theorem dc_A_pair_44 : decode bc_A_pair 44 = .ok (.invokestatic 68, 3) := by decide +kernel
theorem dc_A_pair_47 : decode bc_A_pair 47 = .ok (.lstore 8, 2) := by decide +kernel
theorem dc_A_pair_49 : decode bc_A_pair 49 = .ok (.aload_n 1, 1) := by decide +kernel
theorem dc_A_pair_50 : decode bc_A_pair 50 = .ok (.lconst 0, 1) := by decide +kernel
theorem dc_A_pair_51 : decode bc_A_pair 51 = .ok (.invokevirtual 72, 3) := by decide +kernel
theorem dc_A_pair_54 : decode bc_A_pair 54 = .ok (.iconst 0, 1) := by decide +kernel
theorem dc_A_pair_55 : decode bc_A_pair 55 = .ok (.istore 10, 2) := by decide +kernel
theorem dc_A_pair_57 : decode bc_A_pair 57 = .ok (.iload 10, 2) := by decide +kernel
theorem dc_A_pair_59 : decode bc_A_pair 59 = .ok (.bipush 64, 2) := by decide +kernel
theorem dc_A_pair_61 : decode bc_A_pair 61 = .ok (.if_icmp .ge 42, 3) := by decide +kernel
theorem dc_A_pair_64 : decode bc_A_pair 64 = .ok (.lload 8, 2) := by decide +kernel
theorem dc_A_pair_66 : decode bc_A_pair 66 = .ok (.iload 10, 2) := by decide +kernel
theorem dc_A_pair_68 : decode bc_A_pair 68 = .ok (.lushr, 1) := by decide +kernel
theorem dc_A_pair_69 : decode bc_A_pair 69 = .ok (.lconst 1, 1) := by decide +kernel
theorem dc_A_pair_70 : decode bc_A_pair 70 = .ok (.land, 1) := by decide +kernel
theorem dc_A_pair_71 : decode bc_A_pair 71 = .ok (.lconst 0, 1) := by decide +kernel
theorem dc_A_pair_72 : decode bc_A_pair 72 = .ok (.lcmp, 1) := by decide +kernel
theorem dc_A_pair_73 : decode bc_A_pair 73 = .ok (.ifCond .eq 24, 3) := by decide +kernel
theorem dc_A_pair_76 : decode bc_A_pair 76 = .ok (.aload_n 0, 1) := by decide +kernel
theorem dc_A_pair_77 : decode bc_A_pair 77 = .ok (.aload 6, 2) := by decide +kernel
theorem dc_A_pair_79 : decode bc_A_pair 79 = .ok (.iload 10, 2) := by decide +kernel
theorem dc_A_pair_81 : decode bc_A_pair 81 = .ok (.iload 4, 2) := by decide +kernel
theorem dc_A_pair_83 : decode bc_A_pair 83 = .ok (.invokevirtual 76, 3) := by decide +kernel
theorem dc_A_pair_86 : decode bc_A_pair 86 = .ok (.aload_n 0, 1) := by decide +kernel
theorem dc_A_pair_87 : decode bc_A_pair 87 = .ok (.aload_n 1, 1) := by decide +kernel
theorem dc_A_pair_88 : decode bc_A_pair 88 = .ok (.aload 7, 2) := by decide +kernel
theorem dc_A_pair_90 : decode bc_A_pair 90 = .ok (.iload 10, 2) := by decide +kernel
theorem dc_A_pair_92 : decode bc_A_pair 92 = .ok (.iload 4, 2) := by decide +kernel
theorem dc_A_pair_94 : decode bc_A_pair 94 = .ok (.invokevirtual 80, 3) := by decide +kernel
theorem dc_A_pair_97 : decode bc_A_pair 97 = .ok (.iinc 10 1, 3) := by decide +kernel
theorem dc_A_pair_100 : decode bc_A_pair 100 = .ok (.goto (-43), 3) := by decide +kernel
theorem dc_A_pair_103 : decode bc_A_pair 103 = .ok (.return_, 1) := by decide +kernel
theorem dc_A_lowsOf_0 : decode bc_A_lowsOf 0 = .ok (.lconst 0, 1) := by decide +kernel
theorem dc_A_lowsOf_1 : decode bc_A_lowsOf 1 = .ok (.lstore_n 1, 1) := by decide +kernel
theorem dc_A_lowsOf_2 : decode bc_A_lowsOf 2 = .ok (.iconst 0, 1) := by decide +kernel
theorem dc_A_lowsOf_3 : decode bc_A_lowsOf 3 = .ok (.istore_n 3, 1) := by decide +kernel
theorem dc_A_lowsOf_4 : decode bc_A_lowsOf 4 = .ok (.iload_n 3, 1) := by decide +kernel
theorem dc_A_lowsOf_5 : decode bc_A_lowsOf 5 = .ok (.bipush 64, 2) := by decide +kernel
theorem dc_A_lowsOf_7 : decode bc_A_lowsOf 7 = .ok (.if_icmp .ge 18, 3) := by decide +kernel
theorem dc_A_lowsOf_10 : decode bc_A_lowsOf 10 = .ok (.lload_n 1, 1) := by decide +kernel
theorem dc_A_lowsOf_11 : decode bc_A_lowsOf 11 = .ok (.aload_n 0, 1) := by decide +kernel
theorem dc_A_lowsOf_12 : decode bc_A_lowsOf 12 = .ok (.getfield 59, 3) := by decide +kernel
theorem dc_A_lowsOf_15 : decode bc_A_lowsOf 15 = .ok (.iload_n 3, 1) := by decide +kernel
theorem dc_A_lowsOf_16 : decode bc_A_lowsOf 16 = .ok (.laload, 1) := by decide +kernel
theorem dc_A_lowsOf_17 : decode bc_A_lowsOf 17 = .ok (.lor, 1) := by decide +kernel
theorem dc_A_lowsOf_18 : decode bc_A_lowsOf 18 = .ok (.lstore_n 1, 1) := by decide +kernel
theorem dc_A_lowsOf_19 : decode bc_A_lowsOf 19 = .ok (.iinc 3 1, 3) := by decide +kernel
theorem dc_A_lowsOf_22 : decode bc_A_lowsOf 22 = .ok (.goto (-18), 3) := by decide +kernel
theorem dc_A_lowsOf_25 : decode bc_A_lowsOf 25 = .ok (.lload_n 1, 1) := by decide +kernel
theorem dc_A_lowsOf_26 : decode bc_A_lowsOf 26 = .ok (.lreturn, 1) := by decide +kernel
theorem dc_A_shiftAll_0 : decode bc_A_shiftAll 0 = .ok (.iconst 0, 1) := by decide +kernel
theorem dc_A_shiftAll_1 : decode bc_A_shiftAll 1 = .ok (.istore 4, 2) := by decide +kernel
theorem dc_A_shiftAll_3 : decode bc_A_shiftAll 3 = .ok (.iload 4, 2) := by decide +kernel
theorem dc_A_shiftAll_5 : decode bc_A_shiftAll 5 = .ok (.bipush 64, 2) := by decide +kernel
theorem dc_A_shiftAll_7 : decode bc_A_shiftAll 7 = .ok (.if_icmp .ge 45, 3) := by decide +kernel
theorem dc_A_shiftAll_10 : decode bc_A_shiftAll 10 = .ok (.aload_n 0, 1) := by decide +kernel
theorem dc_A_shiftAll_11 : decode bc_A_shiftAll 11 = .ok (.getfield 21, 3) := by decide +kernel
theorem dc_A_shiftAll_14 : decode bc_A_shiftAll 14 = .ok (.iload 4, 2) := by decide +kernel
theorem dc_A_shiftAll_16 : decode bc_A_shiftAll 16 = .ok (.iload_n 3, 1) := by decide +kernel
theorem dc_A_shiftAll_17 : decode bc_A_shiftAll 17 = .ok (.ifCond .eq 17, 3) := by decide +kernel
theorem dc_A_shiftAll_20 : decode bc_A_shiftAll 20 = .ok (.aload_n 1, 1) := by decide +kernel
theorem dc_A_shiftAll_21 : decode bc_A_shiftAll 21 = .ok (.getfield 59, 3) := by decide +kernel
theorem dc_A_shiftAll_24 : decode bc_A_shiftAll 24 = .ok (.iload 4, 2) := by decide +kernel
theorem dc_A_shiftAll_26 : decode bc_A_shiftAll 26 = .ok (.laload, 1) := by decide +kernel
theorem dc_A_shiftAll_27 : decode bc_A_shiftAll 27 = .ok (.iload_n 2, 1) := by decide +kernel
theorem dc_A_shiftAll_28 : decode bc_A_shiftAll 28 = .ok (.invokestatic 84, 3) := by decide +kernel
theorem dc_A_shiftAll_31 : decode bc_A_shiftAll 31 = .ok (.goto 14, 3) := by decide +kernel
theorem dc_A_shiftAll_34 : decode bc_A_shiftAll 34 = .ok (.aload_n 1, 1) := by decide +kernel
theorem dc_A_shiftAll_35 : decode bc_A_shiftAll 35 = .ok (.getfield 59, 3) := by decide +kernel
theorem dc_A_shiftAll_38 : decode bc_A_shiftAll 38 = .ok (.iload 4, 2) := by decide +kernel
theorem dc_A_shiftAll_40 : decode bc_A_shiftAll 40 = .ok (.laload, 1) := by decide +kernel
theorem dc_A_shiftAll_41 : decode bc_A_shiftAll 41 = .ok (.iload_n 2, 1) := by decide +kernel
theorem dc_A_shiftAll_42 : decode bc_A_shiftAll 42 = .ok (.invokestatic 88, 3) := by decide +kernel
theorem dc_A_shiftAll_45 : decode bc_A_shiftAll 45 = .ok (.lastore, 1) := by decide +kernel
theorem dc_A_shiftAll_46 : decode bc_A_shiftAll 46 = .ok (.iinc 4 1, 3) := by decide +kernel
theorem dc_A_shiftAll_49 : decode bc_A_shiftAll 49 = .ok (.goto (-46), 3) := by decide +kernel
theorem dc_A_shiftAll_52 : decode bc_A_shiftAll 52 = .ok (.return_, 1) := by decide +kernel
theorem dc_A_joinedWord_0 : decode bc_A_joinedWord 0 = .ok (.lload_n 0, 1) := by decide +kernel
theorem dc_A_joinedWord_1 : decode bc_A_joinedWord 1 = .ok (.lstore_n 3, 1) := by decide +kernel
theorem dc_A_joinedWord_2 : decode bc_A_joinedWord 2 = .ok (.iconst 0, 1) := by decide +kernel
theorem dc_A_joinedWord_3 : decode bc_A_joinedWord 3 = .ok (.istore 5, 2) := by decide +kernel
theorem dc_A_joinedWord_5 : decode bc_A_joinedWord 5 = .ok (.iload 5, 2) := by decide +kernel
theorem dc_A_joinedWord_7 : decode bc_A_joinedWord 7 = .ok (.bipush 6, 2) := by decide +kernel
theorem dc_A_joinedWord_9 : decode bc_A_joinedWord 9 = .ok (.if_icmp .ge 45, 3) := by decide +kernel
theorem dc_A_joinedWord_12 : decode bc_A_joinedWord 12 = .ok (.iload_n 2, 1) := by decide +kernel
theorem dc_A_joinedWord_13 : decode bc_A_joinedWord 13 = .ok (.iload 5, 2) := by decide +kernel
theorem dc_A_joinedWord_15 : decode bc_A_joinedWord 15 = .ok (.ishr, 1) := by decide +kernel
theorem dc_A_joinedWord_16 : decode bc_A_joinedWord 16 = .ok (.iconst 1, 1) := by decide +kernel
theorem dc_A_joinedWord_17 : decode bc_A_joinedWord 17 = .ok (.iand, 1) := by decide +kernel
theorem dc_A_joinedWord_18 : decode bc_A_joinedWord 18 = .ok (.ifCond .eq 30, 3) := by decide +kernel
theorem dc_A_joinedWord_21 : decode bc_A_joinedWord 21 = .ok (.lload_n 3, 1) := by decide +kernel
theorem dc_A_joinedWord_22 : decode bc_A_joinedWord 22 = .ok (.getstatic 91, 3) := by decide +kernel
theorem dc_A_joinedWord_25 : decode bc_A_joinedWord 25 = .ok (.iload 5, 2) := by decide +kernel
theorem dc_A_joinedWord_27 : decode bc_A_joinedWord 27 = .ok (.laload, 1) := by decide +kernel
theorem dc_A_joinedWord_28 : decode bc_A_joinedWord 28 = .ok (.land, 1) := by decide +kernel
theorem dc_A_joinedWord_29 : decode bc_A_joinedWord 29 = .ok (.lload_n 3, 1) := by decide +kernel
theorem dc_A_joinedWord_30 : decode bc_A_joinedWord 30 = .ok (.getstatic 91, 3) := by decide +kernel
theorem dc_A_joinedWord_33 : decode bc_A_joinedWord 33 = .ok (.iload 5, 2) := by decide +kernel
theorem dc_A_joinedWord_35 : decode bc_A_joinedWord 35 = .ok (.laload, 1) := by decide +kernel
theorem dc_A_joinedWord_36 : decode bc_A_joinedWord 36 = .ok (.ldc2_w 62, 3) := by decide +kernel
theorem dc_A_joinedWord_39 : decode bc_A_joinedWord 39 = .ok (.lxor, 1) := by decide +kernel
theorem dc_A_joinedWord_40 : decode bc_A_joinedWord 40 = .ok (.land, 1) := by decide +kernel
theorem dc_A_joinedWord_41 : decode bc_A_joinedWord 41 = .ok (.iconst 1, 1) := by decide +kernel
theorem dc_A_joinedWord_42 : decode bc_A_joinedWord 42 = .ok (.iload 5, 2) := by decide +kernel
theorem dc_A_joinedWord_44 : decode bc_A_joinedWord 44 = .ok (.ishl, 1) := by decide +kernel
theorem dc_A_joinedWord_45 : decode bc_A_joinedWord 45 = .ok (.lshl, 1) := by decide +kernel
theorem dc_A_joinedWord_46 : decode bc_A_joinedWord 46 = .ok (.lor, 1) := by decide +kernel
theorem dc_A_joinedWord_47 : decode bc_A_joinedWord 47 = .ok (.lstore_n 3, 1) := by decide +kernel
theorem dc_A_joinedWord_48 : decode bc_A_joinedWord 48 = .ok (.iinc 5 1, 3) := by decide +kernel
theorem dc_A_joinedWord_51 : decode bc_A_joinedWord 51 = .ok (.goto (-46), 3) := by decide +kernel
theorem dc_A_joinedWord_54 : decode bc_A_joinedWord 54 = .ok (.lload_n 3, 1) := by decide +kernel
theorem dc_A_joinedWord_55 : decode bc_A_joinedWord 55 = .ok (.lreturn, 1) := by decide +kernel
theorem dc_A_metWord_0 : decode bc_A_metWord 0 = .ok (.lload_n 0, 1) := by decide +kernel
theorem dc_A_metWord_1 : decode bc_A_metWord 1 = .ok (.lstore_n 3, 1) := by decide +kernel
theorem dc_A_metWord_2 : decode bc_A_metWord 2 = .ok (.iconst 0, 1) := by decide +kernel
theorem dc_A_metWord_3 : decode bc_A_metWord 3 = .ok (.istore 5, 2) := by decide +kernel
theorem dc_A_metWord_5 : decode bc_A_metWord 5 = .ok (.iload 5, 2) := by decide +kernel
theorem dc_A_metWord_7 : decode bc_A_metWord 7 = .ok (.bipush 6, 2) := by decide +kernel
theorem dc_A_metWord_9 : decode bc_A_metWord 9 = .ok (.if_icmp .ge 45, 3) := by decide +kernel
theorem dc_A_metWord_12 : decode bc_A_metWord 12 = .ok (.iload_n 2, 1) := by decide +kernel
theorem dc_A_metWord_13 : decode bc_A_metWord 13 = .ok (.iload 5, 2) := by decide +kernel
theorem dc_A_metWord_15 : decode bc_A_metWord 15 = .ok (.ishr, 1) := by decide +kernel
theorem dc_A_metWord_16 : decode bc_A_metWord 16 = .ok (.iconst 1, 1) := by decide +kernel
theorem dc_A_metWord_17 : decode bc_A_metWord 17 = .ok (.iand, 1) := by decide +kernel
theorem dc_A_metWord_18 : decode bc_A_metWord 18 = .ok (.ifCond .ne 30, 3) := by decide +kernel
theorem dc_A_metWord_21 : decode bc_A_metWord 21 = .ok (.lload_n 3, 1) := by decide +kernel
theorem dc_A_metWord_22 : decode bc_A_metWord 22 = .ok (.getstatic 91, 3) := by decide +kernel
theorem dc_A_metWord_25 : decode bc_A_metWord 25 = .ok (.iload 5, 2) := by decide +kernel
theorem dc_A_metWord_27 : decode bc_A_metWord 27 = .ok (.laload, 1) := by decide +kernel
theorem dc_A_metWord_28 : decode bc_A_metWord 28 = .ok (.ldc2_w 62, 3) := by decide +kernel
theorem dc_A_metWord_31 : decode bc_A_metWord 31 = .ok (.lxor, 1) := by decide +kernel
theorem dc_A_metWord_32 : decode bc_A_metWord 32 = .ok (.land, 1) := by decide +kernel
theorem dc_A_metWord_33 : decode bc_A_metWord 33 = .ok (.lload_n 3, 1) := by decide +kernel
theorem dc_A_metWord_34 : decode bc_A_metWord 34 = .ok (.getstatic 91, 3) := by decide +kernel
theorem dc_A_metWord_37 : decode bc_A_metWord 37 = .ok (.iload 5, 2) := by decide +kernel
theorem dc_A_metWord_39 : decode bc_A_metWord 39 = .ok (.laload, 1) := by decide +kernel
theorem dc_A_metWord_40 : decode bc_A_metWord 40 = .ok (.land, 1) := by decide +kernel
theorem dc_A_metWord_41 : decode bc_A_metWord 41 = .ok (.iconst 1, 1) := by decide +kernel
theorem dc_A_metWord_42 : decode bc_A_metWord 42 = .ok (.iload 5, 2) := by decide +kernel
theorem dc_A_metWord_44 : decode bc_A_metWord 44 = .ok (.ishl, 1) := by decide +kernel
theorem dc_A_metWord_45 : decode bc_A_metWord 45 = .ok (.lushr, 1) := by decide +kernel
theorem dc_A_metWord_46 : decode bc_A_metWord 46 = .ok (.lor, 1) := by decide +kernel
theorem dc_A_metWord_47 : decode bc_A_metWord 47 = .ok (.lstore_n 3, 1) := by decide +kernel
theorem dc_A_metWord_48 : decode bc_A_metWord 48 = .ok (.iinc 5 1, 3) := by decide +kernel
theorem dc_A_metWord_51 : decode bc_A_metWord 51 = .ok (.goto (-46), 3) := by decide +kernel
theorem dc_A_metWord_54 : decode bc_A_metWord 54 = .ok (.lload_n 3, 1) := by decide +kernel
theorem dc_A_metWord_55 : decode bc_A_metWord 55 = .ok (.lreturn, 1) := by decide +kernel
theorem dc_A_pairHighs_0 : decode bc_A_pairHighs 0 = .ok (.iconst 0, 1) := by decide +kernel
theorem dc_A_pairHighs_1 : decode bc_A_pairHighs 1 = .ok (.istore 5, 2) := by decide +kernel
theorem dc_A_pairHighs_3 : decode bc_A_pairHighs 3 = .ok (.iload 5, 2) := by decide +kernel
theorem dc_A_pairHighs_5 : decode bc_A_pairHighs 5 = .ok (.bipush 64, 2) := by decide +kernel
theorem dc_A_pairHighs_7 : decode bc_A_pairHighs 7 = .ok (.if_icmp .ge 72, 3) := by decide +kernel
theorem dc_A_pairHighs_10 : decode bc_A_pairHighs 10 = .ok (.aload_n 2, 1) := by decide +kernel
theorem dc_A_pairHighs_11 : decode bc_A_pairHighs 11 = .ok (.iload 5, 2) := by decide +kernel
theorem dc_A_pairHighs_13 : decode bc_A_pairHighs 13 = .ok (.bipush 6, 2) := by decide +kernel
theorem dc_A_pairHighs_15 : decode bc_A_pairHighs 15 = .ok (.ishl, 1) := by decide +kernel
theorem dc_A_pairHighs_16 : decode bc_A_pairHighs 16 = .ok (.iload_n 3, 1) := by decide +kernel
theorem dc_A_pairHighs_17 : decode bc_A_pairHighs 17 = .ok (.ior, 1) := by decide +kernel
theorem dc_A_pairHighs_18 : decode bc_A_pairHighs 18 = .ok (.invokevirtual 94, 3) := by decide +kernel
theorem dc_A_pairHighs_21 : decode bc_A_pairHighs 21 = .ok (.ifCond .eq 52, 3) := by decide +kernel
theorem dc_A_pairHighs_24 : decode bc_A_pairHighs 24 = .ok (.iconst 0, 1) := by decide +kernel
theorem dc_A_pairHighs_25 : decode bc_A_pairHighs 25 = .ok (.istore 6, 2) := by decide +kernel
theorem dc_A_pairHighs_27 : decode bc_A_pairHighs 27 = .ok (.iload 6, 2) := by decide +kernel
theorem dc_A_pairHighs_29 : decode bc_A_pairHighs 29 = .ok (.bipush 64, 2) := by decide +kernel
theorem dc_A_pairHighs_31 : decode bc_A_pairHighs 31 = .ok (.if_icmp .ge 42, 3) := by decide +kernel
theorem dc_A_pairHighs_34 : decode bc_A_pairHighs 34 = .ok (.aload_n 1, 1) := by decide +kernel
theorem dc_A_pairHighs_35 : decode bc_A_pairHighs 35 = .ok (.getfield 59, 3) := by decide +kernel
theorem dc_A_pairHighs_38 : decode bc_A_pairHighs 38 = .ok (.iload 4, 2) := by decide +kernel
theorem dc_A_pairHighs_40 : decode bc_A_pairHighs 40 = .ok (.ifCond .eq 11, 3) := by decide +kernel
theorem dc_A_pairHighs_43 : decode bc_A_pairHighs 43 = .ok (.iload 6, 2) := by decide +kernel
theorem dc_A_pairHighs_45 : decode bc_A_pairHighs 45 = .ok (.iload 5, 2) := by decide +kernel
theorem dc_A_pairHighs_47 : decode bc_A_pairHighs 47 = .ok (.ior, 1) := by decide +kernel
theorem dc_A_pairHighs_48 : decode bc_A_pairHighs 48 = .ok (.goto 8, 3) := by decide +kernel
theorem dc_A_pairHighs_51 : decode bc_A_pairHighs 51 = .ok (.iload 6, 2) := by decide +kernel
theorem dc_A_pairHighs_53 : decode bc_A_pairHighs 53 = .ok (.iload 5, 2) := by decide +kernel
theorem dc_A_pairHighs_55 : decode bc_A_pairHighs 55 = .ok (.iand, 1) := by decide +kernel
theorem dc_A_pairHighs_56 : decode bc_A_pairHighs 56 = .ok (.dup2, 1) := by decide +kernel
theorem dc_A_pairHighs_57 : decode bc_A_pairHighs 57 = .ok (.laload, 1) := by decide +kernel
theorem dc_A_pairHighs_58 : decode bc_A_pairHighs 58 = .ok (.aload_n 0, 1) := by decide +kernel
theorem dc_A_pairHighs_59 : decode bc_A_pairHighs 59 = .ok (.getfield 21, 3) := by decide +kernel
theorem dc_A_pairHighs_62 : decode bc_A_pairHighs 62 = .ok (.iload 6, 2) := by decide +kernel
theorem dc_A_pairHighs_64 : decode bc_A_pairHighs 64 = .ok (.laload, 1) := by decide +kernel
theorem dc_A_pairHighs_65 : decode bc_A_pairHighs 65 = .ok (.lor, 1) := by decide +kernel
theorem dc_A_pairHighs_66 : decode bc_A_pairHighs 66 = .ok (.lastore, 1) := by decide +kernel
theorem dc_A_pairHighs_67 : decode bc_A_pairHighs 67 = .ok (.iinc 6 1, 3) := by decide +kernel
theorem dc_A_pairHighs_70 : decode bc_A_pairHighs 70 = .ok (.goto (-43), 3) := by decide +kernel
theorem dc_A_pairHighs_73 : decode bc_A_pairHighs 73 = .ok (.iinc 5 1, 3) := by decide +kernel
theorem dc_A_pairHighs_76 : decode bc_A_pairHighs 76 = .ok (.goto (-73), 3) := by decide +kernel
theorem dc_A_pairHighs_79 : decode bc_A_pairHighs 79 = .ok (.return_, 1) := by decide +kernel
theorem dc_A_divide_0 : decode bc_A_divide 0 = .ok (.aload_n 0, 1) := by decide +kernel
theorem dc_A_divide_1 : decode bc_A_divide 1 = .ok (.aload_n 2, 1) := by decide +kernel
theorem dc_A_divide_2 : decode bc_A_divide 2 = .ok (.invokestatic 98, 3) := by decide +kernel
theorem dc_A_divide_5 : decode bc_A_divide 5 = .ok (.invokestatic 102, 3) := by decide +kernel
theorem dc_A_divide_8 : decode bc_A_divide 8 = .ok (.iconst 0, 1) := by decide +kernel
theorem dc_A_divide_9 : decode bc_A_divide 9 = .ok (.istore_n 3, 1) := by decide +kernel
theorem dc_A_divide_10 : decode bc_A_divide 10 = .ok (.iload_n 3, 1) := by decide +kernel
theorem dc_A_divide_11 : decode bc_A_divide 11 = .ok (.sipush 4096, 3) := by decide +kernel
theorem dc_A_divide_14 : decode bc_A_divide 14 = .ok (.if_icmp .ge 23, 3) := by decide +kernel
theorem dc_A_divide_17 : decode bc_A_divide 17 = .ok (.aload_n 2, 1) := by decide +kernel
theorem dc_A_divide_18 : decode bc_A_divide 18 = .ok (.iload_n 3, 1) := by decide +kernel
theorem dc_A_divide_19 : decode bc_A_divide 19 = .ok (.invokevirtual 94, 3) := by decide +kernel
theorem dc_A_divide_22 : decode bc_A_divide 22 = .ok (.ifCond .eq 9, 3) := by decide +kernel
theorem dc_A_divide_25 : decode bc_A_divide 25 = .ok (.aload_n 0, 1) := by decide +kernel
theorem dc_A_divide_26 : decode bc_A_divide 26 = .ok (.aload_n 1, 1) := by decide +kernel
theorem dc_A_divide_27 : decode bc_A_divide 27 = .ok (.iload_n 3, 1) := by decide +kernel
theorem dc_A_divide_28 : decode bc_A_divide 28 = .ok (.invokestatic 106, 3) := by decide +kernel
theorem dc_A_divide_31 : decode bc_A_divide 31 = .ok (.iinc 3 1, 3) := by decide +kernel
theorem dc_A_divide_34 : decode bc_A_divide 34 = .ok (.goto (-24), 3) := by decide +kernel
theorem dc_A_divide_37 : decode bc_A_divide 37 = .ok (.return_, 1) := by decide +kernel
theorem dc_A_usedBits_0 : decode bc_A_usedBits 0 = .ok (.iconst 0, 1) := by decide +kernel
theorem dc_A_usedBits_1 : decode bc_A_usedBits 1 = .ok (.istore_n 1, 1) := by decide +kernel
theorem dc_A_usedBits_2 : decode bc_A_usedBits 2 = .ok (.iconst 0, 1) := by decide +kernel
theorem dc_A_usedBits_3 : decode bc_A_usedBits 3 = .ok (.istore_n 2, 1) := by decide +kernel
theorem dc_A_usedBits_4 : decode bc_A_usedBits 4 = .ok (.iload_n 2, 1) := by decide +kernel
theorem dc_A_usedBits_5 : decode bc_A_usedBits 5 = .ok (.sipush 4096, 3) := by decide +kernel
theorem dc_A_usedBits_8 : decode bc_A_usedBits 8 = .ok (.if_icmp .ge 21, 3) := by decide +kernel
theorem dc_A_usedBits_11 : decode bc_A_usedBits 11 = .ok (.aload_n 0, 1) := by decide +kernel
theorem dc_A_usedBits_12 : decode bc_A_usedBits 12 = .ok (.iload_n 2, 1) := by decide +kernel
theorem dc_A_usedBits_13 : decode bc_A_usedBits 13 = .ok (.invokevirtual 94, 3) := by decide +kernel
theorem dc_A_usedBits_16 : decode bc_A_usedBits 16 = .ok (.ifCond .eq 7, 3) := by decide +kernel
theorem dc_A_usedBits_19 : decode bc_A_usedBits 19 = .ok (.iload_n 1, 1) := by decide +kernel
theorem dc_A_usedBits_20 : decode bc_A_usedBits 20 = .ok (.iload_n 2, 1) := by decide +kernel
theorem dc_A_usedBits_21 : decode bc_A_usedBits 21 = .ok (.ior, 1) := by decide +kernel
theorem dc_A_usedBits_22 : decode bc_A_usedBits 22 = .ok (.istore_n 1, 1) := by decide +kernel
theorem dc_A_usedBits_23 : decode bc_A_usedBits 23 = .ok (.iinc 2 1, 3) := by decide +kernel
theorem dc_A_usedBits_26 : decode bc_A_usedBits 26 = .ok (.goto (-22), 3) := by decide +kernel
theorem dc_A_usedBits_29 : decode bc_A_usedBits 29 = .ok (.iload_n 1, 1) := by decide +kernel
theorem dc_A_usedBits_30 : decode bc_A_usedBits 30 = .ok (.ireturn, 1) := by decide +kernel
theorem dc_A_fillDisjoint_0 : decode bc_A_fillDisjoint 0 = .ok (.lconst 1, 1) := by decide +kernel
theorem dc_A_fillDisjoint_1 : decode bc_A_fillDisjoint 1 = .ok (.lstore_n 2, 1) := by decide +kernel
theorem dc_A_fillDisjoint_2 : decode bc_A_fillDisjoint 2 = .ok (.iconst 0, 1) := by decide +kernel
theorem dc_A_fillDisjoint_3 : decode bc_A_fillDisjoint 3 = .ok (.istore 4, 2) := by decide +kernel
theorem dc_A_fillDisjoint_5 : decode bc_A_fillDisjoint 5 = .ok (.iload 4, 2) := by decide +kernel
theorem dc_A_fillDisjoint_7 : decode bc_A_fillDisjoint 7 = .ok (.bipush 6, 2) := by decide +kernel
theorem dc_A_fillDisjoint_9 : decode bc_A_fillDisjoint 9 = .ok (.if_icmp .ge 27, 3) := by decide +kernel
theorem dc_A_fillDisjoint_12 : decode bc_A_fillDisjoint 12 = .ok (.iload_n 1, 1) := by decide +kernel
theorem dc_A_fillDisjoint_13 : decode bc_A_fillDisjoint 13 = .ok (.iload 4, 2) := by decide +kernel
theorem dc_A_fillDisjoint_15 : decode bc_A_fillDisjoint 15 = .ok (.ishr, 1) := by decide +kernel
theorem dc_A_fillDisjoint_16 : decode bc_A_fillDisjoint 16 = .ok (.iconst 1, 1) := by decide +kernel
theorem dc_A_fillDisjoint_17 : decode bc_A_fillDisjoint 17 = .ok (.iand, 1) := by decide +kernel
theorem dc_A_fillDisjoint_18 : decode bc_A_fillDisjoint 18 = .ok (.ifCond .ne 12, 3) := by decide +kernel
theorem dc_A_fillDisjoint_21 : decode bc_A_fillDisjoint 21 = .ok (.lload_n 2, 1) := by decide +kernel
theorem dc_A_fillDisjoint_22 : decode bc_A_fillDisjoint 22 = .ok (.lload_n 2, 1) := by decide +kernel
theorem dc_A_fillDisjoint_23 : decode bc_A_fillDisjoint 23 = .ok (.iconst 1, 1) := by decide +kernel
theorem dc_A_fillDisjoint_24 : decode bc_A_fillDisjoint 24 = .ok (.iload 4, 2) := by decide +kernel
theorem dc_A_fillDisjoint_26 : decode bc_A_fillDisjoint 26 = .ok (.ishl, 1) := by decide +kernel
theorem dc_A_fillDisjoint_27 : decode bc_A_fillDisjoint 27 = .ok (.lshl, 1) := by decide +kernel
theorem dc_A_fillDisjoint_28 : decode bc_A_fillDisjoint 28 = .ok (.lor, 1) := by decide +kernel
theorem dc_A_fillDisjoint_29 : decode bc_A_fillDisjoint 29 = .ok (.lstore_n 2, 1) := by decide +kernel
theorem dc_A_fillDisjoint_30 : decode bc_A_fillDisjoint 30 = .ok (.iinc 4 1, 3) := by decide +kernel
theorem dc_A_fillDisjoint_33 : decode bc_A_fillDisjoint 33 = .ok (.goto (-28), 3) := by decide +kernel
theorem dc_A_fillDisjoint_36 : decode bc_A_fillDisjoint 36 = .ok (.iload_n 1, 1) := by decide +kernel
theorem dc_A_fillDisjoint_37 : decode bc_A_fillDisjoint 37 = .ok (.bipush 6, 2) := by decide +kernel
theorem dc_A_fillDisjoint_39 : decode bc_A_fillDisjoint 39 = .ok (.ishr, 1) := by decide +kernel
theorem dc_A_fillDisjoint_40 : decode bc_A_fillDisjoint 40 = .ok (.istore 4, 2) := by decide +kernel
theorem dc_A_fillDisjoint_42 : decode bc_A_fillDisjoint 42 = .ok (.iconst 0, 1) := by decide +kernel
theorem dc_A_fillDisjoint_43 : decode bc_A_fillDisjoint 43 = .ok (.istore 5, 2) := by decide +kernel
theorem dc_A_fillDisjoint_45 : decode bc_A_fillDisjoint 45 = .ok (.iload 5, 2) := by decide +kernel
theorem dc_A_fillDisjoint_47 : decode bc_A_fillDisjoint 47 = .ok (.bipush 64, 2) := by decide +kernel
theorem dc_A_fillDisjoint_49 : decode bc_A_fillDisjoint 49 = .ok (.if_icmp .ge 29, 3) := by decide +kernel
theorem dc_A_fillDisjoint_52 : decode bc_A_fillDisjoint 52 = .ok (.aload_n 0, 1) := by decide +kernel
theorem dc_A_fillDisjoint_53 : decode bc_A_fillDisjoint 53 = .ok (.getfield 59, 3) := by decide +kernel
theorem dc_A_fillDisjoint_56 : decode bc_A_fillDisjoint 56 = .ok (.iload 5, 2) := by decide +kernel
theorem dc_A_fillDisjoint_58 : decode bc_A_fillDisjoint 58 = .ok (.iload 5, 2) := by decide +kernel
theorem dc_A_fillDisjoint_60 : decode bc_A_fillDisjoint 60 = .ok (.iload 4, 2) := by decide +kernel
theorem dc_A_fillDisjoint_62 : decode bc_A_fillDisjoint 62 = .ok (.iand, 1) := by decide +kernel
theorem dc_A_fillDisjoint_63 : decode bc_A_fillDisjoint 63 = .ok (.ifCond .ne 7, 3) := by decide +kernel
theorem dc_A_fillDisjoint_66 : decode bc_A_fillDisjoint 66 = .ok (.lload_n 2, 1) := by decide +kernel
theorem dc_A_fillDisjoint_67 : decode bc_A_fillDisjoint 67 = .ok (.goto 4, 3) := by decide +kernel
theorem dc_A_fillDisjoint_70 : decode bc_A_fillDisjoint 70 = .ok (.lconst 0, 1) := by decide +kernel
theorem dc_A_fillDisjoint_71 : decode bc_A_fillDisjoint 71 = .ok (.lastore, 1) := by decide +kernel
theorem dc_A_fillDisjoint_72 : decode bc_A_fillDisjoint 72 = .ok (.iinc 5 1, 3) := by decide +kernel
theorem dc_A_fillDisjoint_75 : decode bc_A_fillDisjoint 75 = .ok (.goto (-30), 3) := by decide +kernel
theorem dc_A_fillDisjoint_78 : decode bc_A_fillDisjoint 78 = .ok (.return_, 1) := by decide +kernel
theorem dc_A_keepUnionsIn_0 : decode bc_A_keepUnionsIn 0 = .ok (.iload_n 2, 1) := by decide +kernel
theorem dc_A_keepUnionsIn_1 : decode bc_A_keepUnionsIn 1 = .ok (.bipush 6, 2) := by decide +kernel
theorem dc_A_keepUnionsIn_3 : decode bc_A_keepUnionsIn 3 = .ok (.ishr, 1) := by decide +kernel
theorem dc_A_keepUnionsIn_4 : decode bc_A_keepUnionsIn 4 = .ok (.istore_n 3, 1) := by decide +kernel
theorem dc_A_keepUnionsIn_5 : decode bc_A_keepUnionsIn 5 = .ok (.iload_n 2, 1) := by decide +kernel
theorem dc_A_keepUnionsIn_6 : decode bc_A_keepUnionsIn 6 = .ok (.bipush 63, 2) := by decide +kernel
theorem dc_A_keepUnionsIn_8 : decode bc_A_keepUnionsIn 8 = .ok (.iand, 1) := by decide +kernel
theorem dc_A_keepUnionsIn_9 : decode bc_A_keepUnionsIn 9 = .ok (.istore 4, 2) := by decide +kernel
theorem dc_A_keepUnionsIn_11 : decode bc_A_keepUnionsIn 11 = .ok (.iconst 0, 1) := by decide +kernel
theorem dc_A_keepUnionsIn_12 : decode bc_A_keepUnionsIn 12 = .ok (.istore 5, 2) := by decide +kernel
theorem dc_A_keepUnionsIn_14 : decode bc_A_keepUnionsIn 14 = .ok (.iload 5, 2) := by decide +kernel
theorem dc_A_keepUnionsIn_16 : decode bc_A_keepUnionsIn 16 = .ok (.bipush 64, 2) := by decide +kernel
theorem dc_A_keepUnionsIn_18 : decode bc_A_keepUnionsIn 18 = .ok (.if_icmp .ge 43, 3) := by decide +kernel
theorem dc_A_keepUnionsIn_21 : decode bc_A_keepUnionsIn 21 = .ok (.aload_n 0, 1) := by decide +kernel
theorem dc_A_keepUnionsIn_22 : decode bc_A_keepUnionsIn 22 = .ok (.getfield 59, 3) := by decide +kernel
theorem dc_A_keepUnionsIn_25 : decode bc_A_keepUnionsIn 25 = .ok (.iload 5, 2) := by decide +kernel
theorem dc_A_keepUnionsIn_27 : decode bc_A_keepUnionsIn 27 = .ok (.laload, 1) := by decide +kernel
theorem dc_A_keepUnionsIn_28 : decode bc_A_keepUnionsIn 28 = .ok (.lconst 0, 1) := by decide +kernel
theorem dc_A_keepUnionsIn_29 : decode bc_A_keepUnionsIn 29 = .ok (.lcmp, 1) := by decide +kernel
theorem dc_A_keepUnionsIn_30 : decode bc_A_keepUnionsIn 30 = .ok (.ifCond .eq 25, 3) := by decide +kernel
theorem dc_A_keepUnionsIn_33 : decode bc_A_keepUnionsIn 33 = .ok (.aload_n 0, 1) := by decide +kernel
theorem dc_A_keepUnionsIn_34 : decode bc_A_keepUnionsIn 34 = .ok (.getfield 59, 3) := by decide +kernel
theorem dc_A_keepUnionsIn_37 : decode bc_A_keepUnionsIn 37 = .ok (.iload 5, 2) := by decide +kernel
theorem dc_A_keepUnionsIn_39 : decode bc_A_keepUnionsIn 39 = .ok (.dup2, 1) := by decide +kernel
theorem dc_A_keepUnionsIn_40 : decode bc_A_keepUnionsIn 40 = .ok (.laload, 1) := by decide +kernel
theorem dc_A_keepUnionsIn_41 : decode bc_A_keepUnionsIn 41 = .ok (.aload_n 1, 1) := by decide +kernel
theorem dc_A_keepUnionsIn_42 : decode bc_A_keepUnionsIn 42 = .ok (.getfield 59, 3) := by decide +kernel
theorem dc_A_keepUnionsIn_45 : decode bc_A_keepUnionsIn 45 = .ok (.iload 5, 2) := by decide +kernel
theorem dc_A_keepUnionsIn_47 : decode bc_A_keepUnionsIn 47 = .ok (.iload_n 3, 1) := by decide +kernel
theorem dc_A_keepUnionsIn_48 : decode bc_A_keepUnionsIn 48 = .ok (.ior, 1) := by decide +kernel
theorem dc_A_keepUnionsIn_49 : decode bc_A_keepUnionsIn 49 = .ok (.laload, 1) := by decide +kernel
theorem dc_A_keepUnionsIn_50 : decode bc_A_keepUnionsIn 50 = .ok (.iload 4, 2) := by decide +kernel
theorem dc_A_keepUnionsIn_52 : decode bc_A_keepUnionsIn 52 = .ok (.lushr, 1) := by decide +kernel
theorem dc_A_keepUnionsIn_53 : decode bc_A_keepUnionsIn 53 = .ok (.land, 1) := by decide +kernel
theorem dc_A_keepUnionsIn_54 : decode bc_A_keepUnionsIn 54 = .ok (.lastore, 1) := by decide +kernel
theorem dc_A_keepUnionsIn_55 : decode bc_A_keepUnionsIn 55 = .ok (.iinc 5 1, 3) := by decide +kernel
theorem dc_A_keepUnionsIn_58 : decode bc_A_keepUnionsIn 58 = .ok (.goto (-44), 3) := by decide +kernel
theorem dc_A_keepUnionsIn_61 : decode bc_A_keepUnionsIn 61 = .ok (.return_, 1) := by decide +kernel
theorem dc_A_changeInto_0 : decode bc_A_changeInto 0 = .ok (.iconst 0, 1) := by decide +kernel
theorem dc_A_changeInto_1 : decode bc_A_changeInto 1 = .ok (.istore 5, 2) := by decide +kernel
theorem dc_A_changeInto_3 : decode bc_A_changeInto 3 = .ok (.iload 5, 2) := by decide +kernel
theorem dc_A_changeInto_5 : decode bc_A_changeInto 5 = .ok (.bipush 64, 2) := by decide +kernel
theorem dc_A_changeInto_7 : decode bc_A_changeInto 7 = .ok (.if_icmp .ge 95, 3) := by decide +kernel
theorem dc_A_changeInto_10 : decode bc_A_changeInto 10 = .ok (.iload_n 2, 1) := by decide +kernel
theorem dc_A_changeInto_11 : decode bc_A_changeInto 11 = .ok (.lookupswitch 61 #[(0, 25), (1, 43)], 25) := by decide +kernel
theorem dc_A_changeInto_36 : decode bc_A_changeInto 36 = .ok (.aload_n 1, 1) := by decide +kernel
theorem dc_A_changeInto_37 : decode bc_A_changeInto 37 = .ok (.getfield 59, 3) := by decide +kernel
theorem dc_A_changeInto_40 : decode bc_A_changeInto 40 = .ok (.iload 5, 2) := by decide +kernel
theorem dc_A_changeInto_42 : decode bc_A_changeInto 42 = .ok (.aload_n 3, 1) := by decide +kernel
theorem dc_A_changeInto_43 : decode bc_A_changeInto 43 = .ok (.iload 5, 2) := by decide +kernel
theorem dc_A_changeInto_45 : decode bc_A_changeInto 45 = .ok (.iload 4, 2) := by decide +kernel
theorem dc_A_changeInto_47 : decode bc_A_changeInto 47 = .ok (.invokevirtual 110, 3) := by decide +kernel
theorem dc_A_changeInto_50 : decode bc_A_changeInto 50 = .ok (.lastore, 1) := by decide +kernel
theorem dc_A_changeInto_51 : decode bc_A_changeInto 51 = .ok (.goto 45, 3) := by decide +kernel
theorem dc_A_changeInto_54 : decode bc_A_changeInto 54 = .ok (.aload_n 1, 1) := by decide +kernel
theorem dc_A_changeInto_55 : decode bc_A_changeInto 55 = .ok (.getfield 59, 3) := by decide +kernel
theorem dc_A_changeInto_58 : decode bc_A_changeInto 58 = .ok (.iload 5, 2) := by decide +kernel
theorem dc_A_changeInto_60 : decode bc_A_changeInto 60 = .ok (.aload_n 3, 1) := by decide +kernel
theorem dc_A_changeInto_61 : decode bc_A_changeInto 61 = .ok (.iload 5, 2) := by decide +kernel
theorem dc_A_changeInto_63 : decode bc_A_changeInto 63 = .ok (.iload 4, 2) := by decide +kernel
theorem dc_A_changeInto_65 : decode bc_A_changeInto 65 = .ok (.invokevirtual 114, 3) := by decide +kernel
theorem dc_A_changeInto_68 : decode bc_A_changeInto 68 = .ok (.lastore, 1) := by decide +kernel
theorem dc_A_changeInto_69 : decode bc_A_changeInto 69 = .ok (.goto 27, 3) := by decide +kernel
theorem dc_A_changeInto_72 : decode bc_A_changeInto 72 = .ok (.aload_n 1, 1) := by decide +kernel
theorem dc_A_changeInto_73 : decode bc_A_changeInto 73 = .ok (.getfield 59, 3) := by decide +kernel
theorem dc_A_changeInto_76 : decode bc_A_changeInto 76 = .ok (.iload 5, 2) := by decide +kernel
theorem dc_A_changeInto_78 : decode bc_A_changeInto 78 = .ok (.aload_n 3, 1) := by decide +kernel
theorem dc_A_changeInto_79 : decode bc_A_changeInto 79 = .ok (.iload 5, 2) := by decide +kernel
theorem dc_A_changeInto_81 : decode bc_A_changeInto 81 = .ok (.iload 4, 2) := by decide +kernel
theorem dc_A_changeInto_83 : decode bc_A_changeInto 83 = .ok (.invokevirtual 110, 3) := by decide +kernel
theorem dc_A_changeInto_86 : decode bc_A_changeInto 86 = .ok (.aload_n 3, 1) := by decide +kernel
theorem dc_A_changeInto_87 : decode bc_A_changeInto 87 = .ok (.iload 5, 2) := by decide +kernel
theorem dc_A_changeInto_89 : decode bc_A_changeInto 89 = .ok (.iload 4, 2) := by decide +kernel
theorem dc_A_changeInto_91 : decode bc_A_changeInto 91 = .ok (.invokevirtual 117, 3) := by decide +kernel
theorem dc_A_changeInto_94 : decode bc_A_changeInto 94 = .ok (.lor, 1) := by decide +kernel
theorem dc_A_changeInto_95 : decode bc_A_changeInto 95 = .ok (.lastore, 1) := by decide +kernel
theorem dc_A_changeInto_96 : decode bc_A_changeInto 96 = .ok (.iinc 5 1, 3) := by decide +kernel
theorem dc_A_changeInto_99 : decode bc_A_changeInto 99 = .ok (.goto (-96), 3) := by decide +kernel
theorem dc_A_changeInto_102 : decode bc_A_changeInto 102 = .ok (.return_, 1) := by decide +kernel
theorem dc_A_extremeInto_0 : decode bc_A_extremeInto 0 = .ok (.aload_n 0, 1) := by decide +kernel
theorem dc_A_extremeInto_1 : decode bc_A_extremeInto 1 = .ok (.getfield 12, 3) := by decide +kernel
theorem dc_A_extremeInto_4 : decode bc_A_extremeInto 4 = .ok (.aload_n 2, 1) := by decide +kernel
theorem dc_A_extremeInto_5 : decode bc_A_extremeInto 5 = .ok (.invokevirtual 48, 3) := by decide +kernel
theorem dc_A_extremeInto_8 : decode bc_A_extremeInto 8 = .ok (.aload_n 0, 1) := by decide +kernel
theorem dc_A_extremeInto_9 : decode bc_A_extremeInto 9 = .ok (.getfield 12, 3) := by decide +kernel
theorem dc_A_extremeInto_12 : decode bc_A_extremeInto 12 = .ok (.iload_n 3, 1) := by decide +kernel
theorem dc_A_extremeInto_13 : decode bc_A_extremeInto 13 = .ok (.invokevirtual 52, 3) := by decide +kernel
theorem dc_A_extremeInto_16 : decode bc_A_extremeInto 16 = .ok (.iconst 0, 1) := by decide +kernel
theorem dc_A_extremeInto_17 : decode bc_A_extremeInto 17 = .ok (.istore 4, 2) := by decide +kernel
theorem dc_A_extremeInto_19 : decode bc_A_extremeInto 19 = .ok (.iload 4, 2) := by decide +kernel
theorem dc_A_extremeInto_21 : decode bc_A_extremeInto 21 = .ok (.bipush 64, 2) := by decide +kernel
theorem dc_A_extremeInto_23 : decode bc_A_extremeInto 23 = .ok (.if_icmp .ge 35, 3) := by decide +kernel
theorem dc_A_extremeInto_26 : decode bc_A_extremeInto 26 = .ok (.aload_n 1, 1) := by decide +kernel
theorem dc_A_extremeInto_27 : decode bc_A_extremeInto 27 = .ok (.getfield 59, 3) := by decide +kernel
theorem dc_A_extremeInto_30 : decode bc_A_extremeInto 30 = .ok (.iload 4, 2) := by decide +kernel
theorem dc_A_extremeInto_32 : decode bc_A_extremeInto 32 = .ok (.aload_n 2, 1) := by decide +kernel
theorem dc_A_extremeInto_33 : decode bc_A_extremeInto 33 = .ok (.getfield 59, 3) := by decide +kernel
theorem dc_A_extremeInto_36 : decode bc_A_extremeInto 36 = .ok (.iload 4, 2) := by decide +kernel
theorem dc_A_extremeInto_38 : decode bc_A_extremeInto 38 = .ok (.laload, 1) := by decide +kernel
theorem dc_A_extremeInto_39 : decode bc_A_extremeInto 39 = .ok (.aload_n 0, 1) := by decide +kernel
theorem dc_A_extremeInto_40 : decode bc_A_extremeInto 40 = .ok (.iload 4, 2) := by decide +kernel
theorem dc_A_extremeInto_42 : decode bc_A_extremeInto 42 = .ok (.iload_n 3, 1) := by decide +kernel
theorem dc_A_extremeInto_43 : decode bc_A_extremeInto 43 = .ok (.invokevirtual 120, 3) := by decide +kernel
theorem dc_A_extremeInto_46 : decode bc_A_extremeInto 46 = .ok (.ldc2_w 62, 3) := by decide +kernel
theorem dc_A_extremeInto_49 : decode bc_A_extremeInto 49 = .ok (.lxor, 1) := by decide +kernel
theorem dc_A_extremeInto_50 : decode bc_A_extremeInto 50 = .ok (.land, 1) := by decide +kernel
theorem dc_A_extremeInto_51 : decode bc_A_extremeInto 51 = .ok (.lastore, 1) := by decide +kernel
theorem dc_A_extremeInto_52 : decode bc_A_extremeInto 52 = .ok (.iinc 4 1, 3) := by decide +kernel
theorem dc_A_extremeInto_55 : decode bc_A_extremeInto 55 = .ok (.goto (-36), 3) := by decide +kernel
theorem dc_A_extremeInto_58 : decode bc_A_extremeInto 58 = .ok (.return_, 1) := by decide +kernel
theorem dc_A_stepped_0 : decode bc_A_stepped 0 = .ok (.lconst 0, 1) := by decide +kernel
theorem dc_A_stepped_1 : decode bc_A_stepped 1 = .ok (.lstore_n 3, 1) := by decide +kernel
theorem dc_A_stepped_2 : decode bc_A_stepped 2 = .ok (.iconst 0, 1) := by decide +kernel
theorem dc_A_stepped_3 : decode bc_A_stepped 3 = .ok (.istore 5, 2) := by decide +kernel
theorem dc_A_stepped_5 : decode bc_A_stepped 5 = .ok (.iload 5, 2) := by decide +kernel
theorem dc_A_stepped_7 : decode bc_A_stepped 7 = .ok (.bipush 12, 2) := by decide +kernel
theorem dc_A_stepped_9 : decode bc_A_stepped 9 = .ok (.if_icmp .ge 23, 3) := by decide +kernel
theorem dc_A_stepped_12 : decode bc_A_stepped 12 = .ok (.lload_n 3, 1) := by decide +kernel
theorem dc_A_stepped_13 : decode bc_A_stepped 13 = .ok (.aload_n 0, 1) := by decide +kernel
theorem dc_A_stepped_14 : decode bc_A_stepped 14 = .ok (.getfield 12, 3) := by decide +kernel
theorem dc_A_stepped_17 : decode bc_A_stepped 17 = .ok (.iload_n 1, 1) := by decide +kernel
theorem dc_A_stepped_18 : decode bc_A_stepped 18 = .ok (.iload 5, 2) := by decide +kernel
theorem dc_A_stepped_20 : decode bc_A_stepped 20 = .ok (.iload_n 2, 1) := by decide +kernel
theorem dc_A_stepped_21 : decode bc_A_stepped 21 = .ok (.invokevirtual 124, 3) := by decide +kernel
theorem dc_A_stepped_24 : decode bc_A_stepped 24 = .ok (.lor, 1) := by decide +kernel
theorem dc_A_stepped_25 : decode bc_A_stepped 25 = .ok (.lstore_n 3, 1) := by decide +kernel
theorem dc_A_stepped_26 : decode bc_A_stepped 26 = .ok (.iinc 5 1, 3) := by decide +kernel
theorem dc_A_stepped_29 : decode bc_A_stepped 29 = .ok (.goto (-24), 3) := by decide +kernel
theorem dc_A_stepped_32 : decode bc_A_stepped 32 = .ok (.lload_n 3, 1) := by decide +kernel
theorem dc_A_stepped_33 : decode bc_A_stepped 33 = .ok (.lreturn, 1) := by decide +kernel
theorem dc_A_sizedInto_0 : decode bc_A_sizedInto 0 = .ok (.iconst 0, 1) := by decide +kernel
theorem dc_A_sizedInto_1 : decode bc_A_sizedInto 1 = .ok (.istore 4, 2) := by decide +kernel
theorem dc_A_sizedInto_3 : decode bc_A_sizedInto 3 = .ok (.iload 4, 2) := by decide +kernel
theorem dc_A_sizedInto_5 : decode bc_A_sizedInto 5 = .ok (.bipush 64, 2) := by decide +kernel
theorem dc_A_sizedInto_7 : decode bc_A_sizedInto 7 = .ok (.if_icmp .ge 68, 3) := by decide +kernel
theorem dc_A_sizedInto_10 : decode bc_A_sizedInto 10 = .ok (.iload_n 3, 1) := by decide +kernel
theorem dc_A_sizedInto_11 : decode bc_A_sizedInto 11 = .ok (.iload 4, 2) := by decide +kernel
theorem dc_A_sizedInto_13 : decode bc_A_sizedInto 13 = .ok (.invokestatic 28, 3) := by decide +kernel
theorem dc_A_sizedInto_16 : decode bc_A_sizedInto 16 = .ok (.isub, 1) := by decide +kernel
theorem dc_A_sizedInto_17 : decode bc_A_sizedInto 17 = .ok (.istore 5, 2) := by decide +kernel
theorem dc_A_sizedInto_19 : decode bc_A_sizedInto 19 = .ok (.iload 5, 2) := by decide +kernel
theorem dc_A_sizedInto_21 : decode bc_A_sizedInto 21 = .ok (.ifCond .lt 14, 3) := by decide +kernel
theorem dc_A_sizedInto_24 : decode bc_A_sizedInto 24 = .ok (.iload 5, 2) := by decide +kernel
theorem dc_A_sizedInto_26 : decode bc_A_sizedInto 26 = .ok (.bipush 6, 2) := by decide +kernel
theorem dc_A_sizedInto_28 : decode bc_A_sizedInto 28 = .ok (.if_icmp .gt 7, 3) := by decide +kernel
theorem dc_A_sizedInto_31 : decode bc_A_sizedInto 31 = .ok (.iconst 1, 1) := by decide +kernel
theorem dc_A_sizedInto_32 : decode bc_A_sizedInto 32 = .ok (.goto 4, 3) := by decide +kernel
theorem dc_A_sizedInto_35 : decode bc_A_sizedInto 35 = .ok (.iconst 0, 1) := by decide +kernel
theorem dc_A_sizedInto_36 : decode bc_A_sizedInto 36 = .ok (.istore 6, 2) := by decide +kernel
theorem dc_A_sizedInto_38 : decode bc_A_sizedInto 38 = .ok (.aload_n 1, 1) := by decide +kernel
theorem dc_A_sizedInto_39 : decode bc_A_sizedInto 39 = .ok (.getfield 59, 3) := by decide +kernel
theorem dc_A_sizedInto_42 : decode bc_A_sizedInto 42 = .ok (.iload 4, 2) := by decide +kernel
theorem dc_A_sizedInto_44 : decode bc_A_sizedInto 44 = .ok (.iload 6, 2) := by decide +kernel
theorem dc_A_sizedInto_46 : decode bc_A_sizedInto 46 = .ok (.ifCond .eq 21, 3) := by decide +kernel
theorem dc_A_sizedInto_49 : decode bc_A_sizedInto 49 = .ok (.aload_n 2, 1) := by decide +kernel
theorem dc_A_sizedInto_50 : decode bc_A_sizedInto 50 = .ok (.getfield 59, 3) := by decide +kernel
theorem dc_A_sizedInto_53 : decode bc_A_sizedInto 53 = .ok (.iload 4, 2) := by decide +kernel
theorem dc_A_sizedInto_55 : decode bc_A_sizedInto 55 = .ok (.laload, 1) := by decide +kernel
theorem dc_A_sizedInto_56 : decode bc_A_sizedInto 56 = .ok (.aload_n 0, 1) := by decide +kernel
theorem dc_A_sizedInto_57 : decode bc_A_sizedInto 57 = .ok (.getfield 25, 3) := by decide +kernel
theorem dc_A_sizedInto_60 : decode bc_A_sizedInto 60 = .ok (.iload 5, 2) := by decide +kernel
theorem dc_A_sizedInto_62 : decode bc_A_sizedInto 62 = .ok (.laload, 1) := by decide +kernel
theorem dc_A_sizedInto_63 : decode bc_A_sizedInto 63 = .ok (.land, 1) := by decide +kernel
theorem dc_A_sizedInto_64 : decode bc_A_sizedInto 64 = .ok (.goto 4, 3) := by decide +kernel
theorem dc_A_sizedInto_67 : decode bc_A_sizedInto 67 = .ok (.lconst 0, 1) := by decide +kernel
theorem dc_A_sizedInto_68 : decode bc_A_sizedInto 68 = .ok (.lastore, 1) := by decide +kernel
theorem dc_A_sizedInto_69 : decode bc_A_sizedInto 69 = .ok (.iinc 4 1, 3) := by decide +kernel
theorem dc_A_sizedInto_72 : decode bc_A_sizedInto 72 = .ok (.goto (-69), 3) := by decide +kernel
theorem dc_A_sizedInto_75 : decode bc_A_sizedInto 75 = .ok (.return_, 1) := by decide +kernel
