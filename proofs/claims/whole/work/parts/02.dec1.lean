theorem dX0_init_0 : decode cX0_init 0 = .ok (.aload_n 0, 1) := by decide +kernel
theorem dX0_init_1 : decode cX0_init 1 = .ok (.iload_n 1, 1) := by decide +kernel
theorem dX0_init_2 : decode cX0_init 2 = .ok (.iload_n 2, 1) := by decide +kernel
theorem dX0_init_3 : decode cX0_init 3 = .ok (.iload_n 3, 1) := by decide +kernel
theorem dX0_init_4 : decode cX0_init 4 = .ok (.invokespecial 3, 3) := by decide +kernel
theorem dX0_init_7 : decode cX0_init 7 = .ok (.return_, 1) := by decide +kernel
theorem dX0_kind_0 : decode cX0_kind 0 = .ok (.iconst 2, 1) := by decide +kernel
theorem dX0_kind_1 : decode cX0_kind 1 = .ok (.ireturn, 1) := by decide +kernel
theorem dX0_tiring_0 : decode cX0_tiring 0 = .ok (.bipush (-10), 2) := by decide +kernel
theorem dX0_tiring_2 : decode cX0_tiring 2 = .ok (.ireturn, 1) := by decide +kernel
theorem dX1_init_0 : decode cX1_init 0 = .ok (.aload_n 0, 1) := by decide +kernel
theorem dX1_init_1 : decode cX1_init 1 = .ok (.invokespecial 3, 3) := by decide +kernel
theorem dX1_init_4 : decode cX1_init 4 = .ok (.aload_n 0, 1) := by decide +kernel
theorem dX1_init_5 : decode cX1_init 5 = .ok (.iconst 4, 1) := by decide +kernel
theorem dX1_init_6 : decode cX1_init 6 = .ok (.newarray .int, 2) := by decide +kernel
theorem dX1_init_8 : decode cX1_init 8 = .ok (.putfield 9, 3) := by decide +kernel
theorem dX1_init_11 : decode cX1_init 11 = .ok (.aload_n 0, 1) := by decide +kernel
theorem dX1_init_12 : decode cX1_init 12 = .ok (.iconst 4, 1) := by decide +kernel
theorem dX1_init_13 : decode cX1_init 13 = .ok (.newarray .int, 2) := by decide +kernel
theorem dX1_init_15 : decode cX1_init 15 = .ok (.putfield 15, 3) := by decide +kernel
theorem dX1_init_18 : decode cX1_init 18 = .ok (.aload_n 0, 1) := by decide +kernel
theorem dX1_init_19 : decode cX1_init 19 = .ok (.bipush 6, 2) := by decide +kernel
theorem dX1_init_21 : decode cX1_init 21 = .ok (.anewarray 18, 3) := by decide +kernel
theorem dX1_init_24 : decode cX1_init 24 = .ok (.putfield 20, 3) := by decide +kernel
theorem dX1_init_27 : decode cX1_init 27 = .ok (.aload_n 0, 1) := by decide +kernel
theorem dX1_init_28 : decode cX1_init 28 = .ok (.invokevirtual 24, 3) := by decide +kernel
theorem dX1_init_31 : decode cX1_init 31 = .ok (.return_, 1) := by decide +kernel
theorem dX1_setFirst_0 : decode cX1_setFirst 0 = .ok (.iconst 0, 1) := by decide +kernel
theorem dX1_setFirst_1 : decode cX1_setFirst 1 = .ok (.istore_n 1, 1) := by decide +kernel
theorem dX1_setFirst_2 : decode cX1_setFirst 2 = .ok (.iload_n 1, 1) := by decide +kernel
theorem dX1_setFirst_3 : decode cX1_setFirst 3 = .ok (.iconst 4, 1) := by decide +kernel
theorem dX1_setFirst_4 : decode cX1_setFirst 4 = .ok (.if_icmp .ge 23, 3) := by decide +kernel
theorem dX1_setFirst_7 : decode cX1_setFirst 7 = .ok (.aload_n 0, 1) := by decide +kernel
theorem dX1_setFirst_8 : decode cX1_setFirst 8 = .ok (.getfield 9, 3) := by decide +kernel
theorem dX1_setFirst_11 : decode cX1_setFirst 11 = .ok (.iload_n 1, 1) := by decide +kernel
theorem dX1_setFirst_12 : decode cX1_setFirst 12 = .ok (.iconst 4, 1) := by decide +kernel
theorem dX1_setFirst_13 : decode cX1_setFirst 13 = .ok (.iastore, 1) := by decide +kernel
theorem dX1_setFirst_14 : decode cX1_setFirst 14 = .ok (.aload_n 0, 1) := by decide +kernel
theorem dX1_setFirst_15 : decode cX1_setFirst 15 = .ok (.getfield 15, 3) := by decide +kernel
theorem dX1_setFirst_18 : decode cX1_setFirst 18 = .ok (.iload_n 1, 1) := by decide +kernel
theorem dX1_setFirst_19 : decode cX1_setFirst 19 = .ok (.iconst 1, 1) := by decide +kernel
theorem dX1_setFirst_20 : decode cX1_setFirst 20 = .ok (.iastore, 1) := by decide +kernel
theorem dX1_setFirst_21 : decode cX1_setFirst 21 = .ok (.iinc 1 1, 3) := by decide +kernel
theorem dX1_setFirst_24 : decode cX1_setFirst 24 = .ok (.goto (-22), 3) := by decide +kernel
theorem dX1_setFirst_27 : decode cX1_setFirst 27 = .ok (.aload_n 0, 1) := by decide +kernel
theorem dX1_setFirst_28 : decode cX1_setFirst 28 = .ok (.iconst 0, 1) := by decide +kernel
theorem dX1_setFirst_29 : decode cX1_setFirst 29 = .ok (.putfield 27, 3) := by decide +kernel
theorem dX1_setFirst_32 : decode cX1_setFirst 32 = .ok (.aload_n 0, 1) := by decide +kernel
theorem dX1_setFirst_33 : decode cX1_setFirst 33 = .ok (.bipush 10, 2) := by decide +kernel
theorem dX1_setFirst_35 : decode cX1_setFirst 35 = .ok (.putfield 31, 3) := by decide +kernel
theorem dX1_setFirst_38 : decode cX1_setFirst 38 = .ok (.aload_n 0, 1) := by decide +kernel
theorem dX1_setFirst_39 : decode cX1_setFirst 39 = .ok (.bipush 60, 2) := by decide +kernel
theorem dX1_setFirst_41 : decode cX1_setFirst 41 = .ok (.putfield 34, 3) := by decide +kernel
theorem dX1_setFirst_44 : decode cX1_setFirst 44 = .ok (.return_, 1) := by decide +kernel
theorem dX1_tell_0 : decode cX1_tell 0 = .ok (.iload_n 1, 1) := by decide +kernel
theorem dX1_tell_1 : decode cX1_tell 1 = .ok (.tableswitch 165 0 8 #[51, 58, 69, 87, 105, 123, 141, 149, 157], 51) := by decide +kernel
theorem dX1_tell_52 : decode cX1_tell 52 = .ok (.aload_n 0, 1) := by decide +kernel
theorem dX1_tell_53 : decode cX1_tell 53 = .ok (.invokevirtual 24, 3) := by decide +kernel
theorem dX1_tell_56 : decode cX1_tell 56 = .ok (.goto 110, 3) := by decide +kernel
theorem dX1_tell_59 : decode cX1_tell 59 = .ok (.aload_n 0, 1) := by decide +kernel
theorem dX1_tell_60 : decode cX1_tell 60 = .ok (.iload_n 2, 1) := by decide +kernel
theorem dX1_tell_61 : decode cX1_tell 61 = .ok (.iload_n 3, 1) := by decide +kernel
theorem dX1_tell_62 : decode cX1_tell 62 = .ok (.iload 4, 2) := by decide +kernel
theorem dX1_tell_64 : decode cX1_tell 64 = .ok (.invokevirtual 37, 3) := by decide +kernel
theorem dX1_tell_67 : decode cX1_tell 67 = .ok (.goto 99, 3) := by decide +kernel
theorem dX1_tell_70 : decode cX1_tell 70 = .ok (.aload_n 0, 1) := by decide +kernel
theorem dX1_tell_71 : decode cX1_tell 71 = .ok (.new 41, 3) := by decide +kernel
theorem dX1_tell_74 : decode cX1_tell 74 = .ok (.dup, 1) := by decide +kernel
theorem dX1_tell_75 : decode cX1_tell 75 = .ok (.iload_n 2, 1) := by decide +kernel
theorem dX1_tell_76 : decode cX1_tell 76 = .ok (.iload_n 3, 1) := by decide +kernel
theorem dX1_tell_77 : decode cX1_tell 77 = .ok (.iload 4, 2) := by decide +kernel
theorem dX1_tell_79 : decode cX1_tell 79 = .ok (.invokespecial 43, 3) := by decide +kernel
theorem dX1_tell_82 : decode cX1_tell 82 = .ok (.invokevirtual 45, 3) := by decide +kernel
theorem dX1_tell_85 : decode cX1_tell 85 = .ok (.goto 81, 3) := by decide +kernel
theorem dX1_tell_88 : decode cX1_tell 88 = .ok (.aload_n 0, 1) := by decide +kernel
theorem dX1_tell_89 : decode cX1_tell 89 = .ok (.new 49, 3) := by decide +kernel
theorem dX1_tell_92 : decode cX1_tell 92 = .ok (.dup, 1) := by decide +kernel
theorem dX1_tell_93 : decode cX1_tell 93 = .ok (.iload_n 2, 1) := by decide +kernel
theorem dX1_tell_94 : decode cX1_tell 94 = .ok (.iload_n 3, 1) := by decide +kernel
theorem dX1_tell_95 : decode cX1_tell 95 = .ok (.iload 4, 2) := by decide +kernel
theorem dX1_tell_97 : decode cX1_tell 97 = .ok (.invokespecial 51, 3) := by decide +kernel
theorem dX1_tell_100 : decode cX1_tell 100 = .ok (.invokevirtual 45, 3) := by decide +kernel
theorem dX1_tell_103 : decode cX1_tell 103 = .ok (.goto 63, 3) := by decide +kernel
theorem dX1_tell_106 : decode cX1_tell 106 = .ok (.aload_n 0, 1) := by decide +kernel
theorem dX1_tell_107 : decode cX1_tell 107 = .ok (.new 52, 3) := by decide +kernel
theorem dX1_tell_110 : decode cX1_tell 110 = .ok (.dup, 1) := by decide +kernel
theorem dX1_tell_111 : decode cX1_tell 111 = .ok (.iload_n 2, 1) := by decide +kernel
theorem dX1_tell_112 : decode cX1_tell 112 = .ok (.iload_n 3, 1) := by decide +kernel
theorem dX1_tell_113 : decode cX1_tell 113 = .ok (.iload 4, 2) := by decide +kernel
theorem dX1_tell_115 : decode cX1_tell 115 = .ok (.invokespecial 54, 3) := by decide +kernel
theorem dX1_tell_118 : decode cX1_tell 118 = .ok (.invokevirtual 45, 3) := by decide +kernel
theorem dX1_tell_121 : decode cX1_tell 121 = .ok (.goto 45, 3) := by decide +kernel
theorem dX1_tell_124 : decode cX1_tell 124 = .ok (.aload_n 0, 1) := by decide +kernel
theorem dX1_tell_125 : decode cX1_tell 125 = .ok (.new 55, 3) := by decide +kernel
theorem dX1_tell_128 : decode cX1_tell 128 = .ok (.dup, 1) := by decide +kernel
theorem dX1_tell_129 : decode cX1_tell 129 = .ok (.iload_n 2, 1) := by decide +kernel
theorem dX1_tell_130 : decode cX1_tell 130 = .ok (.iload_n 3, 1) := by decide +kernel
theorem dX1_tell_131 : decode cX1_tell 131 = .ok (.iload 4, 2) := by decide +kernel
theorem dX1_tell_133 : decode cX1_tell 133 = .ok (.invokespecial 57, 3) := by decide +kernel
theorem dX1_tell_136 : decode cX1_tell 136 = .ok (.invokevirtual 45, 3) := by decide +kernel
theorem dX1_tell_139 : decode cX1_tell 139 = .ok (.goto 27, 3) := by decide +kernel
theorem dX1_tell_142 : decode cX1_tell 142 = .ok (.aload_n 0, 1) := by decide +kernel
theorem dX1_tell_143 : decode cX1_tell 143 = .ok (.iload_n 2, 1) := by decide +kernel
theorem dX1_tell_144 : decode cX1_tell 144 = .ok (.putfield 31, 3) := by decide +kernel
theorem dX1_tell_147 : decode cX1_tell 147 = .ok (.goto 19, 3) := by decide +kernel
theorem dX1_tell_150 : decode cX1_tell 150 = .ok (.aload_n 0, 1) := by decide +kernel
theorem dX1_tell_151 : decode cX1_tell 151 = .ok (.iload_n 2, 1) := by decide +kernel
theorem dX1_tell_152 : decode cX1_tell 152 = .ok (.putfield 34, 3) := by decide +kernel
theorem dX1_tell_155 : decode cX1_tell 155 = .ok (.goto 11, 3) := by decide +kernel
theorem dX1_tell_158 : decode cX1_tell 158 = .ok (.aload_n 0, 1) := by decide +kernel
theorem dX1_tell_159 : decode cX1_tell 159 = .ok (.iconst 0, 1) := by decide +kernel
theorem dX1_tell_160 : decode cX1_tell 160 = .ok (.putfield 27, 3) := by decide +kernel
theorem dX1_tell_163 : decode cX1_tell 163 = .ok (.goto 3, 3) := by decide +kernel
theorem dX1_tell_166 : decode cX1_tell 166 = .ok (.return_, 1) := by decide +kernel
theorem dX1_setSort_0 : decode cX1_setSort 0 = .ok (.iload_n 1, 1) := by decide +kernel
theorem dX1_setSort_1 : decode cX1_setSort 1 = .ok (.iconst 0, 1) := by decide +kernel
theorem dX1_setSort_2 : decode cX1_setSort 2 = .ok (.iconst 3, 1) := by decide +kernel
theorem dX1_setSort_3 : decode cX1_setSort 3 = .ok (.invokestatic 58, 3) := by decide +kernel
theorem dX1_setSort_6 : decode cX1_setSort 6 = .ok (.ifCond .eq 17, 3) := by decide +kernel
theorem dX1_setSort_9 : decode cX1_setSort 9 = .ok (.aload_n 0, 1) := by decide +kernel
theorem dX1_setSort_10 : decode cX1_setSort 10 = .ok (.getfield 9, 3) := by decide +kernel
theorem dX1_setSort_13 : decode cX1_setSort 13 = .ok (.iload_n 1, 1) := by decide +kernel
theorem dX1_setSort_14 : decode cX1_setSort 14 = .ok (.iload_n 2, 1) := by decide +kernel
theorem dX1_setSort_15 : decode cX1_setSort 15 = .ok (.iastore, 1) := by decide +kernel
theorem dX1_setSort_16 : decode cX1_setSort 16 = .ok (.aload_n 0, 1) := by decide +kernel
theorem dX1_setSort_17 : decode cX1_setSort 17 = .ok (.getfield 15, 3) := by decide +kernel
theorem dX1_setSort_20 : decode cX1_setSort 20 = .ok (.iload_n 1, 1) := by decide +kernel
theorem dX1_setSort_21 : decode cX1_setSort 21 = .ok (.iload_n 3, 1) := by decide +kernel
theorem dX1_setSort_22 : decode cX1_setSort 22 = .ok (.iastore, 1) := by decide +kernel
theorem dX1_setSort_23 : decode cX1_setSort 23 = .ok (.return_, 1) := by decide +kernel
theorem dX1_open_0 : decode cX1_open 0 = .ok (.aload_n 0, 1) := by decide +kernel
theorem dX1_open_1 : decode cX1_open 1 = .ok (.getfield 27, 3) := by decide +kernel
theorem dX1_open_4 : decode cX1_open 4 = .ok (.bipush 6, 2) := by decide +kernel
theorem dX1_open_6 : decode cX1_open 6 = .ok (.if_icmp .ge 23, 3) := by decide +kernel
theorem dX1_open_9 : decode cX1_open 9 = .ok (.aload_n 0, 1) := by decide +kernel
theorem dX1_open_10 : decode cX1_open 10 = .ok (.getfield 20, 3) := by decide +kernel
theorem dX1_open_13 : decode cX1_open 13 = .ok (.aload_n 0, 1) := by decide +kernel
theorem dX1_open_14 : decode cX1_open 14 = .ok (.getfield 27, 3) := by decide +kernel
theorem dX1_open_17 : decode cX1_open 17 = .ok (.aload_n 1, 1) := by decide +kernel
theorem dX1_open_18 : decode cX1_open 18 = .ok (.aastore, 1) := by decide +kernel
theorem dX1_open_19 : decode cX1_open 19 = .ok (.aload_n 0, 1) := by decide +kernel
theorem dX1_open_20 : decode cX1_open 20 = .ok (.dup, 1) := by decide +kernel
theorem dX1_open_21 : decode cX1_open 21 = .ok (.getfield 27, 3) := by decide +kernel
theorem dX1_open_24 : decode cX1_open 24 = .ok (.iconst 1, 1) := by decide +kernel
theorem dX1_open_25 : decode cX1_open 25 = .ok (.iadd, 1) := by decide +kernel
theorem dX1_open_26 : decode cX1_open 26 = .ok (.putfield 27, 3) := by decide +kernel
theorem dX1_open_29 : decode cX1_open 29 = .ok (.return_, 1) := by decide +kernel
theorem dX1_shopOf_0 : decode cX1_shopOf 0 = .ok (.iload_n 1, 1) := by decide +kernel
theorem dX1_shopOf_1 : decode cX1_shopOf 1 = .ok (.iconst 0, 1) := by decide +kernel
theorem dX1_shopOf_2 : decode cX1_shopOf 2 = .ok (.aload_n 0, 1) := by decide +kernel
theorem dX1_shopOf_3 : decode cX1_shopOf 3 = .ok (.getfield 27, 3) := by decide +kernel
theorem dX1_shopOf_6 : decode cX1_shopOf 6 = .ok (.iconst 1, 1) := by decide +kernel
theorem dX1_shopOf_7 : decode cX1_shopOf 7 = .ok (.isub, 1) := by decide +kernel
theorem dX1_shopOf_8 : decode cX1_shopOf 8 = .ok (.invokestatic 58, 3) := by decide +kernel
theorem dX1_shopOf_11 : decode cX1_shopOf 11 = .ok (.ifCond .eq 12, 3) := by decide +kernel
theorem dX1_shopOf_14 : decode cX1_shopOf 14 = .ok (.aload_n 0, 1) := by decide +kernel
theorem dX1_shopOf_15 : decode cX1_shopOf 15 = .ok (.getfield 20, 3) := by decide +kernel
theorem dX1_shopOf_18 : decode cX1_shopOf 18 = .ok (.iload_n 1, 1) := by decide +kernel
theorem dX1_shopOf_19 : decode cX1_shopOf 19 = .ok (.aaload, 1) := by decide +kernel
theorem dX1_shopOf_20 : decode cX1_shopOf 20 = .ok (.goto 4, 3) := by decide +kernel
theorem dX1_shopOf_23 : decode cX1_shopOf 23 = .ok (.aconst_null, 1) := by decide +kernel
theorem dX1_shopOf_24 : decode cX1_shopOf 24 = .ok (.areturn, 1) := by decide +kernel
theorem dX2_init_0 : decode cX2_init 0 = .ok (.aload_n 0, 1) := by decide +kernel
theorem dX2_init_1 : decode cX2_init 1 = .ok (.iload_n 1, 1) := by decide +kernel
theorem dX2_init_2 : decode cX2_init 2 = .ok (.iload_n 2, 1) := by decide +kernel
theorem dX2_init_3 : decode cX2_init 3 = .ok (.iload_n 3, 1) := by decide +kernel
theorem dX2_init_4 : decode cX2_init 4 = .ok (.invokespecial 3, 3) := by decide +kernel
theorem dX2_init_7 : decode cX2_init 7 = .ok (.return_, 1) := by decide +kernel
theorem dX2_kind_0 : decode cX2_kind 0 = .ok (.iconst 1, 1) := by decide +kernel
theorem dX2_kind_1 : decode cX2_kind 1 = .ok (.ireturn, 1) := by decide +kernel
theorem dX2_tiring_0 : decode cX2_tiring 0 = .ok (.aload_n 0, 1) := by decide +kernel
theorem dX2_tiring_1 : decode cX2_tiring 1 = .ok (.iload_n 1, 1) := by decide +kernel
theorem dX2_tiring_2 : decode cX2_tiring 2 = .ok (.iload_n 2, 1) := by decide +kernel
theorem dX2_tiring_3 : decode cX2_tiring 3 = .ok (.invokespecial 9, 3) := by decide +kernel
theorem dX2_tiring_6 : decode cX2_tiring 6 = .ok (.iconst 2, 1) := by decide +kernel
theorem dX2_tiring_7 : decode cX2_tiring 7 = .ok (.iadd, 1) := by decide +kernel
theorem dX2_tiring_8 : decode cX2_tiring 8 = .ok (.ireturn, 1) := by decide +kernel
theorem dX3_init_0 : decode cX3_init 0 = .ok (.aload_n 0, 1) := by decide +kernel
theorem dX3_init_1 : decode cX3_init 1 = .ok (.invokespecial 3, 3) := by decide +kernel
theorem dX3_init_4 : decode cX3_init 4 = .ok (.aload_n 0, 1) := by decide +kernel
theorem dX3_init_5 : decode cX3_init 5 = .ok (.iconst 4, 1) := by decide +kernel
theorem dX3_init_6 : decode cX3_init 6 = .ok (.newarray .int, 2) := by decide +kernel
theorem dX3_init_8 : decode cX3_init 8 = .ok (.putfield 9, 3) := by decide +kernel
theorem dX3_init_11 : decode cX3_init 11 = .ok (.return_, 1) := by decide +kernel
theorem dX3_copy_0 : decode cX3_copy 0 = .ok (.aload_n 1, 1) := by decide +kernel
theorem dX3_copy_1 : decode cX3_copy 1 = .ok (.getfield 9, 3) := by decide +kernel
theorem dX3_copy_4 : decode cX3_copy 4 = .ok (.iconst 0, 1) := by decide +kernel
theorem dX3_copy_5 : decode cX3_copy 5 = .ok (.aload_n 0, 1) := by decide +kernel
theorem dX3_copy_6 : decode cX3_copy 6 = .ok (.getfield 9, 3) := by decide +kernel
theorem dX3_copy_9 : decode cX3_copy 9 = .ok (.iconst 0, 1) := by decide +kernel
theorem dX3_copy_10 : decode cX3_copy 10 = .ok (.iconst 4, 1) := by decide +kernel
theorem dX3_copy_11 : decode cX3_copy 11 = .ok (.invokestatic 15, 3) := by decide +kernel
theorem dX3_copy_14 : decode cX3_copy 14 = .ok (.aload_n 0, 1) := by decide +kernel
theorem dX3_copy_15 : decode cX3_copy 15 = .ok (.aload_n 1, 1) := by decide +kernel
theorem dX3_copy_16 : decode cX3_copy 16 = .ok (.getfield 21, 3) := by decide +kernel
theorem dX3_copy_19 : decode cX3_copy 19 = .ok (.putfield 21, 3) := by decide +kernel
theorem dX3_copy_22 : decode cX3_copy 22 = .ok (.aload_n 0, 1) := by decide +kernel
theorem dX3_copy_23 : decode cX3_copy 23 = .ok (.aload_n 1, 1) := by decide +kernel
theorem dX3_copy_24 : decode cX3_copy 24 = .ok (.getfield 25, 3) := by decide +kernel
theorem dX3_copy_27 : decode cX3_copy 27 = .ok (.putfield 25, 3) := by decide +kernel
theorem dX3_copy_30 : decode cX3_copy 30 = .ok (.aload_n 0, 1) := by decide +kernel
theorem dX3_copy_31 : decode cX3_copy 31 = .ok (.aload_n 1, 1) := by decide +kernel
theorem dX3_copy_32 : decode cX3_copy 32 = .ok (.getfield 28, 3) := by decide +kernel
theorem dX3_copy_35 : decode cX3_copy 35 = .ok (.putfield 28, 3) := by decide +kernel
theorem dX3_copy_38 : decode cX3_copy 38 = .ok (.aload_n 0, 1) := by decide +kernel
theorem dX3_copy_39 : decode cX3_copy 39 = .ok (.aload_n 1, 1) := by decide +kernel
theorem dX3_copy_40 : decode cX3_copy 40 = .ok (.getfield 31, 3) := by decide +kernel
theorem dX3_copy_43 : decode cX3_copy 43 = .ok (.putfield 31, 3) := by decide +kernel
theorem dX3_copy_46 : decode cX3_copy 46 = .ok (.aload_n 0, 1) := by decide +kernel
theorem dX3_copy_47 : decode cX3_copy 47 = .ok (.aload_n 1, 1) := by decide +kernel
theorem dX3_copy_48 : decode cX3_copy 48 = .ok (.getfield 34, 3) := by decide +kernel
theorem dX3_copy_51 : decode cX3_copy 51 = .ok (.putfield 34, 3) := by decide +kernel
theorem dX3_copy_54 : decode cX3_copy 54 = .ok (.aload_n 0, 1) := by decide +kernel
theorem dX3_copy_55 : decode cX3_copy 55 = .ok (.aload_n 1, 1) := by decide +kernel
theorem dX3_copy_56 : decode cX3_copy 56 = .ok (.getfield 37, 3) := by decide +kernel
theorem dX3_copy_59 : decode cX3_copy 59 = .ok (.putfield 37, 3) := by decide +kernel
theorem dX3_copy_62 : decode cX3_copy 62 = .ok (.aload_n 0, 1) := by decide +kernel
theorem dX3_copy_63 : decode cX3_copy 63 = .ok (.aload_n 1, 1) := by decide +kernel
theorem dX3_copy_64 : decode cX3_copy 64 = .ok (.getfield 40, 3) := by decide +kernel
theorem dX3_copy_67 : decode cX3_copy 67 = .ok (.putfield 40, 3) := by decide +kernel
theorem dX3_copy_70 : decode cX3_copy 70 = .ok (.return_, 1) := by decide +kernel
theorem dX3_freshen_0 : decode cX3_freshen 0 = .ok (.iconst 0, 1) := by decide +kernel
theorem dX3_freshen_1 : decode cX3_freshen 1 = .ok (.istore_n 2, 1) := by decide +kernel
theorem dX3_freshen_2 : decode cX3_freshen 2 = .ok (.iload_n 2, 1) := by decide +kernel
theorem dX3_freshen_3 : decode cX3_freshen 3 = .ok (.iconst 4, 1) := by decide +kernel
theorem dX3_freshen_4 : decode cX3_freshen 4 = .ok (.if_icmp .ge 16, 3) := by decide +kernel
theorem dX3_freshen_7 : decode cX3_freshen 7 = .ok (.aload_n 0, 1) := by decide +kernel
theorem dX3_freshen_8 : decode cX3_freshen 8 = .ok (.getfield 9, 3) := by decide +kernel
theorem dX3_freshen_11 : decode cX3_freshen 11 = .ok (.iload_n 2, 1) := by decide +kernel
theorem dX3_freshen_12 : decode cX3_freshen 12 = .ok (.iconst 0, 1) := by decide +kernel
theorem dX3_freshen_13 : decode cX3_freshen 13 = .ok (.iastore, 1) := by decide +kernel
theorem dX3_freshen_14 : decode cX3_freshen 14 = .ok (.iinc 2 1, 3) := by decide +kernel
theorem dX3_freshen_17 : decode cX3_freshen 17 = .ok (.goto (-15), 3) := by decide +kernel
theorem dX3_freshen_20 : decode cX3_freshen 20 = .ok (.aload_n 0, 1) := by decide +kernel
theorem dX3_freshen_21 : decode cX3_freshen 21 = .ok (.iconst 0, 1) := by decide +kernel
theorem dX3_freshen_22 : decode cX3_freshen 22 = .ok (.putfield 21, 3) := by decide +kernel
theorem dX3_freshen_25 : decode cX3_freshen 25 = .ok (.aload_n 0, 1) := by decide +kernel
theorem dX3_freshen_26 : decode cX3_freshen 26 = .ok (.iconst 0, 1) := by decide +kernel
theorem dX3_freshen_27 : decode cX3_freshen 27 = .ok (.putfield 25, 3) := by decide +kernel
theorem dX3_freshen_30 : decode cX3_freshen 30 = .ok (.aload_n 0, 1) := by decide +kernel
theorem dX3_freshen_31 : decode cX3_freshen 31 = .ok (.iconst 0, 1) := by decide +kernel
theorem dX3_freshen_32 : decode cX3_freshen 32 = .ok (.putfield 28, 3) := by decide +kernel
theorem dX3_freshen_35 : decode cX3_freshen 35 = .ok (.aload_n 0, 1) := by decide +kernel
theorem dX3_freshen_36 : decode cX3_freshen 36 = .ok (.aload_n 1, 1) := by decide +kernel
theorem dX3_freshen_37 : decode cX3_freshen 37 = .ok (.getfield 44, 3) := by decide +kernel
theorem dX3_freshen_40 : decode cX3_freshen 40 = .ok (.putfield 31, 3) := by decide +kernel
theorem dX3_freshen_43 : decode cX3_freshen 43 = .ok (.aload_n 0, 1) := by decide +kernel
theorem dX3_freshen_44 : decode cX3_freshen 44 = .ok (.iconst 0, 1) := by decide +kernel
theorem dX3_freshen_45 : decode cX3_freshen 45 = .ok (.putfield 34, 3) := by decide +kernel
theorem dX3_freshen_48 : decode cX3_freshen 48 = .ok (.aload_n 0, 1) := by decide +kernel
theorem dX3_freshen_49 : decode cX3_freshen 49 = .ok (.iconst 0, 1) := by decide +kernel
theorem dX3_freshen_50 : decode cX3_freshen 50 = .ok (.putfield 37, 3) := by decide +kernel
theorem dX3_freshen_53 : decode cX3_freshen 53 = .ok (.return_, 1) := by decide +kernel
theorem dX3_placeOf_0 : decode cX3_placeOf 0 = .ok (.aload_n 0, 1) := by decide +kernel
theorem dX3_placeOf_1 : decode cX3_placeOf 1 = .ok (.getfield 40, 3) := by decide +kernel
theorem dX3_placeOf_4 : decode cX3_placeOf 4 = .ok (.ifCond .eq 14, 3) := by decide +kernel
theorem dX3_placeOf_7 : decode cX3_placeOf 7 = .ok (.aload_n 1, 1) := by decide +kernel
theorem dX3_placeOf_8 : decode cX3_placeOf 8 = .ok (.getfield 47, 3) := by decide +kernel
theorem dX3_placeOf_11 : decode cX3_placeOf 11 = .ok (.iconst 1, 1) := by decide +kernel
theorem dX3_placeOf_12 : decode cX3_placeOf 12 = .ok (.isub, 1) := by decide +kernel
theorem dX3_placeOf_13 : decode cX3_placeOf 13 = .ok (.iload_n 2, 1) := by decide +kernel
theorem dX3_placeOf_14 : decode cX3_placeOf 14 = .ok (.isub, 1) := by decide +kernel
theorem dX3_placeOf_15 : decode cX3_placeOf 15 = .ok (.goto 4, 3) := by decide +kernel
theorem dX3_placeOf_18 : decode cX3_placeOf 18 = .ok (.iload_n 2, 1) := by decide +kernel
theorem dX3_placeOf_19 : decode cX3_placeOf 19 = .ok (.ireturn, 1) := by decide +kernel
theorem dX3_step_0 : decode cX3_step 0 = .ok (.iconst 0, 1) := by decide +kernel
theorem dX3_step_1 : decode cX3_step 1 = .ok (.istore_n 3, 1) := by decide +kernel
theorem dX3_step_2 : decode cX3_step 2 = .ok (.iload_n 3, 1) := by decide +kernel
theorem dX3_step_3 : decode cX3_step 3 = .ok (.iconst 4, 1) := by decide +kernel
theorem dX3_step_4 : decode cX3_step 4 = .ok (.if_icmp .ge 33, 3) := by decide +kernel
theorem dX3_step_7 : decode cX3_step 7 = .ok (.aload_n 0, 1) := by decide +kernel
theorem dX3_step_8 : decode cX3_step 8 = .ok (.getfield 9, 3) := by decide +kernel
theorem dX3_step_11 : decode cX3_step 11 = .ok (.iload_n 3, 1) := by decide +kernel
theorem dX3_step_12 : decode cX3_step 12 = .ok (.aload_n 0, 1) := by decide +kernel
theorem dX3_step_13 : decode cX3_step 13 = .ok (.getfield 9, 3) := by decide +kernel
theorem dX3_step_16 : decode cX3_step 16 = .ok (.iload_n 3, 1) := by decide +kernel
theorem dX3_step_17 : decode cX3_step 17 = .ok (.iaload, 1) := by decide +kernel
theorem dX3_step_18 : decode cX3_step 18 = .ok (.iload_n 2, 1) := by decide +kernel
theorem dX3_step_19 : decode cX3_step 19 = .ok (.aload_n 1, 1) := by decide +kernel
theorem dX3_step_20 : decode cX3_step 20 = .ok (.getfield 50, 3) := by decide +kernel
theorem dX3_step_23 : decode cX3_step 23 = .ok (.iload_n 3, 1) := by decide +kernel
theorem dX3_step_24 : decode cX3_step 24 = .ok (.iaload, 1) := by decide +kernel
theorem dX3_step_25 : decode cX3_step 25 = .ok (.imul, 1) := by decide +kernel
theorem dX3_step_26 : decode cX3_step 26 = .ok (.isub, 1) := by decide +kernel
theorem dX3_step_27 : decode cX3_step 27 = .ok (.invokestatic 53, 3) := by decide +kernel
theorem dX3_step_30 : decode cX3_step 30 = .ok (.iastore, 1) := by decide +kernel
theorem dX3_step_31 : decode cX3_step 31 = .ok (.iinc 3 1, 3) := by decide +kernel
theorem dX3_step_34 : decode cX3_step 34 = .ok (.goto (-32), 3) := by decide +kernel
theorem dX3_step_37 : decode cX3_step 37 = .ok (.aload_n 0, 1) := by decide +kernel
theorem dX3_step_38 : decode cX3_step 38 = .ok (.iconst 0, 1) := by decide +kernel
theorem dX3_step_39 : decode cX3_step 39 = .ok (.aload_n 0, 1) := by decide +kernel
theorem dX3_step_40 : decode cX3_step 40 = .ok (.getfield 28, 3) := by decide +kernel
theorem dX3_step_43 : decode cX3_step 43 = .ok (.iload_n 2, 1) := by decide +kernel
theorem dX3_step_44 : decode cX3_step 44 = .ok (.isub, 1) := by decide +kernel
theorem dX3_step_45 : decode cX3_step 45 = .ok (.invokestatic 57, 3) := by decide +kernel
theorem dX3_step_48 : decode cX3_step 48 = .ok (.putfield 28, 3) := by decide +kernel
theorem dX3_step_51 : decode cX3_step 51 = .ok (.aload_n 0, 1) := by decide +kernel
theorem dX3_step_52 : decode cX3_step 52 = .ok (.dup, 1) := by decide +kernel
theorem dX3_step_53 : decode cX3_step 53 = .ok (.getfield 25, 3) := by decide +kernel
theorem dX3_step_56 : decode cX3_step 56 = .ok (.iload_n 2, 1) := by decide +kernel
theorem dX3_step_57 : decode cX3_step 57 = .ok (.iadd, 1) := by decide +kernel
theorem dX3_step_58 : decode cX3_step 58 = .ok (.putfield 25, 3) := by decide +kernel
theorem dX3_step_61 : decode cX3_step 61 = .ok (.return_, 1) := by decide +kernel
theorem dX3_smell_0 : decode cX3_smell 0 = .ok (.aload_n 2, 1) := by decide +kernel
theorem dX3_smell_1 : decode cX3_smell 1 = .ok (.ifnonnull 5, 3) := by decide +kernel
theorem dX3_smell_4 : decode cX3_smell 4 = .ok (.iconst 0, 1) := by decide +kernel
theorem dX3_smell_5 : decode cX3_smell 5 = .ok (.ireturn, 1) := by decide +kernel
theorem dX3_smell_6 : decode cX3_smell 6 = .ok (.aload_n 2, 1) := by decide +kernel
theorem dX3_smell_7 : decode cX3_smell 7 = .ok (.aload_n 0, 1) := by decide +kernel
theorem dX3_smell_8 : decode cX3_smell 8 = .ok (.getfield 9, 3) := by decide +kernel
theorem dX3_smell_11 : decode cX3_smell 11 = .ok (.aload_n 2, 1) := by decide +kernel
theorem dX3_smell_12 : decode cX3_smell 12 = .ok (.getfield 63, 3) := by decide +kernel
theorem dX3_smell_15 : decode cX3_smell 15 = .ok (.iaload, 1) := by decide +kernel
theorem dX3_smell_16 : decode cX3_smell 16 = .ok (.aload_n 0, 1) := by decide +kernel
theorem dX3_smell_17 : decode cX3_smell 17 = .ok (.getfield 28, 3) := by decide +kernel
theorem dX3_smell_20 : decode cX3_smell 20 = .ok (.ifCond .le 7, 3) := by decide +kernel
theorem dX3_smell_23 : decode cX3_smell 23 = .ok (.iconst 1, 1) := by decide +kernel
theorem dX3_smell_24 : decode cX3_smell 24 = .ok (.goto 4, 3) := by decide +kernel
theorem dX3_smell_27 : decode cX3_smell 27 = .ok (.iconst 0, 1) := by decide +kernel
theorem dX3_smell_28 : decode cX3_smell 28 = .ok (.invokevirtual 68, 3) := by decide +kernel
theorem dX3_smell_31 : decode cX3_smell 31 = .ok (.istore_n 3, 1) := by decide +kernel
theorem dX3_smell_32 : decode cX3_smell 32 = .ok (.aload_n 1, 1) := by decide +kernel
theorem dX3_smell_33 : decode cX3_smell 33 = .ok (.getfield 72, 3) := by decide +kernel
theorem dX3_smell_36 : decode cX3_smell 36 = .ok (.aload_n 2, 1) := by decide +kernel
theorem dX3_smell_37 : decode cX3_smell 37 = .ok (.getfield 63, 3) := by decide +kernel
theorem dX3_smell_40 : decode cX3_smell 40 = .ok (.iaload, 1) := by decide +kernel
theorem dX3_smell_41 : decode cX3_smell 41 = .ok (.istore 4, 2) := by decide +kernel
theorem dX3_smell_43 : decode cX3_smell 43 = .ok (.iconst 0, 1) := by decide +kernel
theorem dX3_smell_44 : decode cX3_smell 44 = .ok (.istore 5, 2) := by decide +kernel
theorem dX3_smell_46 : decode cX3_smell 46 = .ok (.iload 5, 2) := by decide +kernel
theorem dX3_smell_48 : decode cX3_smell 48 = .ok (.iconst 4, 1) := by decide +kernel
theorem dX3_smell_49 : decode cX3_smell 49 = .ok (.if_icmp .ge 35, 3) := by decide +kernel
theorem dX3_smell_52 : decode cX3_smell 52 = .ok (.aload_n 0, 1) := by decide +kernel
theorem dX3_smell_53 : decode cX3_smell 53 = .ok (.getfield 9, 3) := by decide +kernel
theorem dX3_smell_56 : decode cX3_smell 56 = .ok (.iload 5, 2) := by decide +kernel
theorem dX3_smell_58 : decode cX3_smell 58 = .ok (.aload_n 0, 1) := by decide +kernel
theorem dX3_smell_59 : decode cX3_smell 59 = .ok (.getfield 9, 3) := by decide +kernel
theorem dX3_smell_62 : decode cX3_smell 62 = .ok (.iload 5, 2) := by decide +kernel
theorem dX3_smell_64 : decode cX3_smell 64 = .ok (.iaload, 1) := by decide +kernel
theorem dX3_smell_65 : decode cX3_smell 65 = .ok (.aload_n 2, 1) := by decide +kernel
theorem dX3_smell_66 : decode cX3_smell 66 = .ok (.iload 5, 2) := by decide +kernel
theorem dX3_smell_68 : decode cX3_smell 68 = .ok (.iload 4, 2) := by decide +kernel
theorem dX3_smell_70 : decode cX3_smell 70 = .ok (.invokevirtual 75, 3) := by decide +kernel
theorem dX3_smell_73 : decode cX3_smell 73 = .ok (.iadd, 1) := by decide +kernel
theorem dX3_smell_74 : decode cX3_smell 74 = .ok (.invokestatic 53, 3) := by decide +kernel
theorem dX3_smell_77 : decode cX3_smell 77 = .ok (.iastore, 1) := by decide +kernel
theorem dX3_smell_78 : decode cX3_smell 78 = .ok (.iinc 5 1, 3) := by decide +kernel
theorem dX3_smell_81 : decode cX3_smell 81 = .ok (.goto (-35), 3) := by decide +kernel
theorem dX3_smell_84 : decode cX3_smell 84 = .ok (.aload_n 0, 1) := by decide +kernel
theorem dX3_smell_85 : decode cX3_smell 85 = .ok (.dup, 1) := by decide +kernel
theorem dX3_smell_86 : decode cX3_smell 86 = .ok (.getfield 37, 3) := by decide +kernel
theorem dX3_smell_89 : decode cX3_smell 89 = .ok (.iload_n 3, 1) := by decide +kernel
theorem dX3_smell_90 : decode cX3_smell 90 = .ok (.iadd, 1) := by decide +kernel
theorem dX3_smell_91 : decode cX3_smell 91 = .ok (.putfield 37, 3) := by decide +kernel
theorem dX3_smell_94 : decode cX3_smell 94 = .ok (.iload_n 3, 1) := by decide +kernel
theorem dX3_smell_95 : decode cX3_smell 95 = .ok (.ireturn, 1) := by decide +kernel
theorem dX3_call_0 : decode cX3_call 0 = .ok (.aload_n 1, 1) := by decide +kernel
theorem dX3_call_1 : decode cX3_call 1 = .ok (.iload_n 2, 1) := by decide +kernel
theorem dX3_call_2 : decode cX3_call 2 = .ok (.invokevirtual 78, 3) := by decide +kernel
theorem dX3_call_5 : decode cX3_call 5 = .ok (.astore_n 3, 1) := by decide +kernel
theorem dX3_call_6 : decode cX3_call 6 = .ok (.aload_n 3, 1) := by decide +kernel
theorem dX3_call_7 : decode cX3_call 7 = .ok (.ifnonnull 5, 3) := by decide +kernel
theorem dX3_call_10 : decode cX3_call 10 = .ok (.iconst 0, 1) := by decide +kernel
theorem dX3_call_11 : decode cX3_call 11 = .ok (.ireturn, 1) := by decide +kernel
theorem dX3_call_12 : decode cX3_call 12 = .ok (.aload_n 0, 1) := by decide +kernel
theorem dX3_call_13 : decode cX3_call 13 = .ok (.aload_n 1, 1) := by decide +kernel
theorem dX3_call_14 : decode cX3_call 14 = .ok (.iload_n 2, 1) := by decide +kernel
theorem dX3_call_15 : decode cX3_call 15 = .ok (.invokevirtual 82, 3) := by decide +kernel
theorem dX3_call_18 : decode cX3_call 18 = .ok (.istore 4, 2) := by decide +kernel
theorem dX3_call_20 : decode cX3_call 20 = .ok (.aload_n 0, 1) := by decide +kernel
theorem dX3_call_21 : decode cX3_call 21 = .ok (.aload_n 1, 1) := by decide +kernel
theorem dX3_call_22 : decode cX3_call 22 = .ok (.iload 4, 2) := by decide +kernel
theorem dX3_call_24 : decode cX3_call 24 = .ok (.aload_n 0, 1) := by decide +kernel
theorem dX3_call_25 : decode cX3_call 25 = .ok (.getfield 21, 3) := by decide +kernel
theorem dX3_call_28 : decode cX3_call 28 = .ok (.isub, 1) := by decide +kernel
theorem dX3_call_29 : decode cX3_call 29 = .ok (.invokestatic 86, 3) := by decide +kernel
theorem dX3_call_32 : decode cX3_call 32 = .ok (.invokevirtual 89, 3) := by decide +kernel
theorem dX3_call_35 : decode cX3_call 35 = .ok (.aload_n 0, 1) := by decide +kernel
theorem dX3_call_36 : decode cX3_call 36 = .ok (.iload 4, 2) := by decide +kernel
theorem dX3_call_38 : decode cX3_call 38 = .ok (.putfield 21, 3) := by decide +kernel
theorem dX3_call_41 : decode cX3_call 41 = .ok (.aload_n 0, 1) := by decide +kernel
theorem dX3_call_42 : decode cX3_call 42 = .ok (.aload_n 1, 1) := by decide +kernel
theorem dX3_call_43 : decode cX3_call 43 = .ok (.aload_n 3, 1) := by decide +kernel
theorem dX3_call_44 : decode cX3_call 44 = .ok (.invokevirtual 93, 3) := by decide +kernel
theorem dX3_call_47 : decode cX3_call 47 = .ok (.istore 5, 2) := by decide +kernel
theorem dX3_call_49 : decode cX3_call 49 = .ok (.aload_n 0, 1) := by decide +kernel
theorem dX3_call_50 : decode cX3_call 50 = .ok (.getfield 34, 3) := by decide +kernel
theorem dX3_call_53 : decode cX3_call 53 = .ok (.iload_n 2, 1) := by decide +kernel
theorem dX3_call_54 : decode cX3_call 54 = .ok (.ishr, 1) := by decide +kernel
theorem dX3_call_55 : decode cX3_call 55 = .ok (.iconst 1, 1) := by decide +kernel
theorem dX3_call_56 : decode cX3_call 56 = .ok (.iand, 1) := by decide +kernel
theorem dX3_call_57 : decode cX3_call 57 = .ok (.iconst 1, 1) := by decide +kernel
theorem dX3_call_58 : decode cX3_call 58 = .ok (.if_icmp .ne 7, 3) := by decide +kernel
theorem dX3_call_61 : decode cX3_call 61 = .ok (.iconst 1, 1) := by decide +kernel
theorem dX3_call_62 : decode cX3_call 62 = .ok (.goto 4, 3) := by decide +kernel
theorem dX3_call_65 : decode cX3_call 65 = .ok (.iconst 0, 1) := by decide +kernel
theorem dX3_call_66 : decode cX3_call 66 = .ok (.istore 6, 2) := by decide +kernel
theorem dX3_call_68 : decode cX3_call 68 = .ok (.iload 5, 2) := by decide +kernel
theorem dX3_call_70 : decode cX3_call 70 = .ok (.aload_n 1, 1) := by decide +kernel
theorem dX3_call_71 : decode cX3_call 71 = .ok (.getfield 97, 3) := by decide +kernel
theorem dX3_call_74 : decode cX3_call 74 = .ok (.if_icmp .lt 44, 3) := by decide +kernel
theorem dX3_call_77 : decode cX3_call 77 = .ok (.iload 6, 2) := by decide +kernel
theorem dX3_call_79 : decode cX3_call 79 = .ok (.ifCond .ne 39, 3) := by decide +kernel
theorem dX3_call_82 : decode cX3_call 82 = .ok (.aload_n 3, 1) := by decide +kernel
theorem dX3_call_83 : decode cX3_call 83 = .ok (.getfield 100, 3) := by decide +kernel
theorem dX3_call_86 : decode cX3_call 86 = .ok (.aload_n 0, 1) := by decide +kernel
theorem dX3_call_87 : decode cX3_call 87 = .ok (.getfield 31, 3) := by decide +kernel
theorem dX3_call_90 : decode cX3_call 90 = .ok (.if_icmp .gt 28, 3) := by decide +kernel
theorem dX3_call_93 : decode cX3_call 93 = .ok (.aload_n 0, 1) := by decide +kernel
theorem dX3_call_94 : decode cX3_call 94 = .ok (.dup, 1) := by decide +kernel
theorem dX3_call_95 : decode cX3_call 95 = .ok (.getfield 34, 3) := by decide +kernel
theorem dX3_call_98 : decode cX3_call 98 = .ok (.iconst 1, 1) := by decide +kernel
theorem dX3_call_99 : decode cX3_call 99 = .ok (.iload_n 2, 1) := by decide +kernel
theorem dX3_call_100 : decode cX3_call 100 = .ok (.ishl, 1) := by decide +kernel
theorem dX3_call_101 : decode cX3_call 101 = .ok (.ior, 1) := by decide +kernel
theorem dX3_call_102 : decode cX3_call 102 = .ok (.putfield 34, 3) := by decide +kernel
theorem dX3_call_105 : decode cX3_call 105 = .ok (.aload_n 0, 1) := by decide +kernel
theorem dX3_call_106 : decode cX3_call 106 = .ok (.dup, 1) := by decide +kernel
theorem dX3_call_107 : decode cX3_call 107 = .ok (.getfield 31, 3) := by decide +kernel
theorem dX3_call_110 : decode cX3_call 110 = .ok (.aload_n 3, 1) := by decide +kernel
theorem dX3_call_111 : decode cX3_call 111 = .ok (.getfield 100, 3) := by decide +kernel
theorem dX3_call_114 : decode cX3_call 114 = .ok (.isub, 1) := by decide +kernel
theorem dX3_call_115 : decode cX3_call 115 = .ok (.putfield 31, 3) := by decide +kernel
theorem dX3_call_118 : decode cX3_call 118 = .ok (.iload 5, 2) := by decide +kernel
theorem dX3_call_120 : decode cX3_call 120 = .ok (.ireturn, 1) := by decide +kernel
theorem dX4_init_0 : decode cX4_init 0 = .ok (.aload_n 0, 1) := by decide +kernel
theorem dX4_init_1 : decode cX4_init 1 = .ok (.iload_n 1, 1) := by decide +kernel
theorem dX4_init_2 : decode cX4_init 2 = .ok (.iload_n 2, 1) := by decide +kernel
theorem dX4_init_3 : decode cX4_init 3 = .ok (.iload_n 3, 1) := by decide +kernel
theorem dX4_init_4 : decode cX4_init 4 = .ok (.invokespecial 3, 3) := by decide +kernel
theorem dX4_init_7 : decode cX4_init 7 = .ok (.return_, 1) := by decide +kernel
theorem dX4_kind_0 : decode cX4_kind 0 = .ok (.iconst 3, 1) := by decide +kernel
theorem dX4_kind_1 : decode cX4_kind 1 = .ok (.ireturn, 1) := by decide +kernel
theorem dX4_tiring_0 : decode cX4_tiring 0 = .ok (.iconst 0, 1) := by decide +kernel
theorem dX4_tiring_1 : decode cX4_tiring 1 = .ok (.ireturn, 1) := by decide +kernel
theorem dX4_smeltBy_0 : decode cX4_smeltBy 0 = .ok (.iconst 3, 1) := by decide +kernel
theorem dX4_smeltBy_1 : decode cX4_smeltBy 1 = .ok (.ireturn, 1) := by decide +kernel
theorem dX5_init_0 : decode cX5_init 0 = .ok (.aload_n 0, 1) := by decide +kernel
theorem dX5_init_1 : decode cX5_init 1 = .ok (.iload_n 1, 1) := by decide +kernel
theorem dX5_init_2 : decode cX5_init 2 = .ok (.iload_n 2, 1) := by decide +kernel
theorem dX5_init_3 : decode cX5_init 3 = .ok (.iload_n 3, 1) := by decide +kernel
theorem dX5_init_4 : decode cX5_init 4 = .ok (.invokespecial 3, 3) := by decide +kernel
theorem dX5_init_7 : decode cX5_init 7 = .ok (.return_, 1) := by decide +kernel
theorem dX5_kind_0 : decode cX5_kind 0 = .ok (.iconst 0, 1) := by decide +kernel
theorem dX5_kind_1 : decode cX5_kind 1 = .ok (.ireturn, 1) := by decide +kernel
theorem dX5_tiring_0 : decode cX5_tiring 0 = .ok (.iload_n 1, 1) := by decide +kernel
theorem dX5_tiring_1 : decode cX5_tiring 1 = .ok (.aload_n 0, 1) := by decide +kernel
theorem dX5_tiring_2 : decode cX5_tiring 2 = .ok (.getfield 9, 3) := by decide +kernel
theorem dX5_tiring_5 : decode cX5_tiring 5 = .ok (.if_icmp .ne 5, 3) := by decide +kernel
theorem dX5_tiring_8 : decode cX5_tiring 8 = .ok (.iload_n 2, 1) := by decide +kernel
theorem dX5_tiring_9 : decode cX5_tiring 9 = .ok (.ireturn, 1) := by decide +kernel
theorem dX5_tiring_10 : decode cX5_tiring 10 = .ok (.aload_n 0, 1) := by decide +kernel
theorem dX5_tiring_11 : decode cX5_tiring 11 = .ok (.getfield 9, 3) := by decide +kernel
theorem dX5_tiring_14 : decode cX5_tiring 14 = .ok (.iconst 1, 1) := by decide +kernel
theorem dX5_tiring_15 : decode cX5_tiring 15 = .ok (.iadd, 1) := by decide +kernel
theorem dX5_tiring_16 : decode cX5_tiring 16 = .ok (.iconst 4, 1) := by decide +kernel
theorem dX5_tiring_17 : decode cX5_tiring 17 = .ok (.irem, 1) := by decide +kernel
theorem dX5_tiring_18 : decode cX5_tiring 18 = .ok (.istore_n 3, 1) := by decide +kernel
theorem dX5_tiring_19 : decode cX5_tiring 19 = .ok (.iload_n 1, 1) := by decide +kernel
theorem dX5_tiring_20 : decode cX5_tiring 20 = .ok (.iload_n 3, 1) := by decide +kernel
theorem dX5_tiring_21 : decode cX5_tiring 21 = .ok (.if_icmp .ne 9, 3) := by decide +kernel
theorem dX5_tiring_24 : decode cX5_tiring 24 = .ok (.iload_n 2, 1) := by decide +kernel
theorem dX5_tiring_25 : decode cX5_tiring 25 = .ok (.iconst 2, 1) := by decide +kernel
theorem dX5_tiring_26 : decode cX5_tiring 26 = .ok (.idiv, 1) := by decide +kernel
theorem dX5_tiring_27 : decode cX5_tiring 27 = .ok (.goto 4, 3) := by decide +kernel
theorem dX5_tiring_30 : decode cX5_tiring 30 = .ok (.iconst 0, 1) := by decide +kernel
theorem dX5_tiring_31 : decode cX5_tiring 31 = .ok (.ireturn, 1) := by decide +kernel
theorem dX6_init_0 : decode cX6_init 0 = .ok (.aload_n 0, 1) := by decide +kernel
theorem dX6_init_1 : decode cX6_init 1 = .ok (.invokespecial 1, 3) := by decide +kernel
theorem dX6_init_4 : decode cX6_init 4 = .ok (.aload_n 0, 1) := by decide +kernel
theorem dX6_init_5 : decode cX6_init 5 = .ok (.iload_n 1, 1) := by decide +kernel
theorem dX6_init_6 : decode cX6_init 6 = .ok (.putfield 7, 3) := by decide +kernel
theorem dX6_init_9 : decode cX6_init 9 = .ok (.aload_n 0, 1) := by decide +kernel
theorem dX6_init_10 : decode cX6_init 10 = .ok (.iload_n 2, 1) := by decide +kernel
theorem dX6_init_11 : decode cX6_init 11 = .ok (.putfield 13, 3) := by decide +kernel
theorem dX6_init_14 : decode cX6_init 14 = .ok (.aload_n 0, 1) := by decide +kernel
theorem dX6_init_15 : decode cX6_init 15 = .ok (.iload_n 3, 1) := by decide +kernel
theorem dX6_init_16 : decode cX6_init 16 = .ok (.putfield 16, 3) := by decide +kernel
theorem dX6_init_19 : decode cX6_init 19 = .ok (.return_, 1) := by decide +kernel
theorem dX6_smeltBy_0 : decode cX6_smeltBy 0 = .ok (.iconst 0, 1) := by decide +kernel
theorem dX6_smeltBy_1 : decode cX6_smeltBy 1 = .ok (.aload_n 0, 1) := by decide +kernel
theorem dX6_smeltBy_2 : decode cX6_smeltBy 2 = .ok (.getfield 13, 3) := by decide +kernel
theorem dX6_smeltBy_5 : decode cX6_smeltBy 5 = .ok (.iload_n 1, 1) := by decide +kernel
theorem dX6_smeltBy_6 : decode cX6_smeltBy 6 = .ok (.isub, 1) := by decide +kernel
theorem dX6_smeltBy_7 : decode cX6_smeltBy 7 = .ok (.invokestatic 19, 3) := by decide +kernel
theorem dX6_smeltBy_10 : decode cX6_smeltBy 10 = .ok (.istore_n 3, 1) := by decide +kernel
theorem dX6_smeltBy_11 : decode cX6_smeltBy 11 = .ok (.iload_n 2, 1) := by decide +kernel
theorem dX6_smeltBy_12 : decode cX6_smeltBy 12 = .ok (.ifCond .eq 9, 3) := by decide +kernel
theorem dX6_smeltBy_15 : decode cX6_smeltBy 15 = .ok (.iload_n 3, 1) := by decide +kernel
theorem dX6_smeltBy_16 : decode cX6_smeltBy 16 = .ok (.iconst 2, 1) := by decide +kernel
theorem dX6_smeltBy_17 : decode cX6_smeltBy 17 = .ok (.idiv, 1) := by decide +kernel
theorem dX6_smeltBy_18 : decode cX6_smeltBy 18 = .ok (.goto 4, 3) := by decide +kernel
theorem dX6_smeltBy_21 : decode cX6_smeltBy 21 = .ok (.iload_n 3, 1) := by decide +kernel
theorem dX6_smeltBy_22 : decode cX6_smeltBy 22 = .ok (.ireturn, 1) := by decide +kernel
theorem dX7_init_0 : decode cX7_init 0 = .ok (.aload_n 0, 1) := by decide +kernel
theorem dX7_init_1 : decode cX7_init 1 = .ok (.invokespecial 3, 3) := by decide +kernel
theorem dX7_init_4 : decode cX7_init 4 = .ok (.aload_n 0, 1) := by decide +kernel
theorem dX7_init_5 : decode cX7_init 5 = .ok (.bipush 6, 2) := by decide +kernel
theorem dX7_init_7 : decode cX7_init 7 = .ok (.newarray .int, 2) := by decide +kernel
theorem dX7_init_9 : decode cX7_init 9 = .ok (.putfield 9, 3) := by decide +kernel
theorem dX7_init_12 : decode cX7_init 12 = .ok (.aload_n 0, 1) := by decide +kernel
theorem dX7_init_13 : decode cX7_init 13 = .ok (.bipush 6, 2) := by decide +kernel
theorem dX7_init_15 : decode cX7_init 15 = .ok (.newarray .int, 2) := by decide +kernel
theorem dX7_init_17 : decode cX7_init 17 = .ok (.putfield 15, 3) := by decide +kernel
theorem dX7_init_20 : decode cX7_init 20 = .ok (.aload_n 0, 1) := by decide +kernel
theorem dX7_init_21 : decode cX7_init 21 = .ok (.bipush 6, 2) := by decide +kernel
theorem dX7_init_23 : decode cX7_init 23 = .ok (.newarray .int, 2) := by decide +kernel
theorem dX7_init_25 : decode cX7_init 25 = .ok (.putfield 18, 3) := by decide +kernel
theorem dX7_init_28 : decode cX7_init 28 = .ok (.return_, 1) := by decide +kernel
theorem dX7_add_0 : decode cX7_add 0 = .ok (.aload_n 0, 1) := by decide +kernel
theorem dX7_add_1 : decode cX7_add 1 = .ok (.getfield 21, 3) := by decide +kernel
theorem dX7_add_4 : decode cX7_add 4 = .ok (.bipush 6, 2) := by decide +kernel
theorem dX7_add_6 : decode cX7_add 6 = .ok (.if_icmp .lt 5, 3) := by decide +kernel
theorem dX7_add_9 : decode cX7_add 9 = .ok (.iconst 0, 1) := by decide +kernel
theorem dX7_add_10 : decode cX7_add 10 = .ok (.ireturn, 1) := by decide +kernel
theorem dX7_add_11 : decode cX7_add 11 = .ok (.aload_n 0, 1) := by decide +kernel
theorem dX7_add_12 : decode cX7_add 12 = .ok (.getfield 9, 3) := by decide +kernel
theorem dX7_add_15 : decode cX7_add 15 = .ok (.aload_n 0, 1) := by decide +kernel
theorem dX7_add_16 : decode cX7_add 16 = .ok (.getfield 21, 3) := by decide +kernel
theorem dX7_add_19 : decode cX7_add 19 = .ok (.iload_n 1, 1) := by decide +kernel
theorem dX7_add_20 : decode cX7_add 20 = .ok (.iastore, 1) := by decide +kernel
theorem dX7_add_21 : decode cX7_add 21 = .ok (.aload_n 0, 1) := by decide +kernel
theorem dX7_add_22 : decode cX7_add 22 = .ok (.getfield 15, 3) := by decide +kernel
theorem dX7_add_25 : decode cX7_add 25 = .ok (.aload_n 0, 1) := by decide +kernel
theorem dX7_add_26 : decode cX7_add 26 = .ok (.getfield 21, 3) := by decide +kernel
theorem dX7_add_29 : decode cX7_add 29 = .ok (.iload_n 2, 1) := by decide +kernel
theorem dX7_add_30 : decode cX7_add 30 = .ok (.iastore, 1) := by decide +kernel
theorem dX7_add_31 : decode cX7_add 31 = .ok (.aload_n 0, 1) := by decide +kernel
theorem dX7_add_32 : decode cX7_add 32 = .ok (.getfield 18, 3) := by decide +kernel
theorem dX7_add_35 : decode cX7_add 35 = .ok (.aload_n 0, 1) := by decide +kernel
theorem dX7_add_36 : decode cX7_add 36 = .ok (.getfield 21, 3) := by decide +kernel
theorem dX7_add_39 : decode cX7_add 39 = .ok (.iload_n 3, 1) := by decide +kernel
theorem dX7_add_40 : decode cX7_add 40 = .ok (.iastore, 1) := by decide +kernel
theorem dX7_add_41 : decode cX7_add 41 = .ok (.aload_n 0, 1) := by decide +kernel
theorem dX7_add_42 : decode cX7_add 42 = .ok (.dup, 1) := by decide +kernel
theorem dX7_add_43 : decode cX7_add 43 = .ok (.getfield 21, 3) := by decide +kernel
theorem dX7_add_46 : decode cX7_add 46 = .ok (.iconst 1, 1) := by decide +kernel
theorem dX7_add_47 : decode cX7_add 47 = .ok (.iadd, 1) := by decide +kernel
theorem dX7_add_48 : decode cX7_add 48 = .ok (.putfield 21, 3) := by decide +kernel
theorem dX7_add_51 : decode cX7_add 51 = .ok (.iconst 1, 1) := by decide +kernel
theorem dX7_add_52 : decode cX7_add 52 = .ok (.ireturn, 1) := by decide +kernel
theorem dX7_fit_0 : decode cX7_fit 0 = .ok (.iconst 0, 1) := by decide +kernel
theorem dX7_fit_1 : decode cX7_fit 1 = .ok (.istore 4, 2) := by decide +kernel
theorem dX7_fit_3 : decode cX7_fit 3 = .ok (.iload 4, 2) := by decide +kernel
theorem dX7_fit_5 : decode cX7_fit 5 = .ok (.aload_n 0, 1) := by decide +kernel
theorem dX7_fit_6 : decode cX7_fit 6 = .ok (.getfield 21, 3) := by decide +kernel
theorem dX7_fit_9 : decode cX7_fit 9 = .ok (.if_icmp .ge 61, 3) := by decide +kernel
theorem dX7_fit_12 : decode cX7_fit 12 = .ok (.aload_n 1, 1) := by decide +kernel
theorem dX7_fit_13 : decode cX7_fit 13 = .ok (.aload_n 0, 1) := by decide +kernel
theorem dX7_fit_14 : decode cX7_fit 14 = .ok (.getfield 9, 3) := by decide +kernel
theorem dX7_fit_17 : decode cX7_fit 17 = .ok (.iload 4, 2) := by decide +kernel
theorem dX7_fit_19 : decode cX7_fit 19 = .ok (.iaload, 1) := by decide +kernel
theorem dX7_fit_20 : decode cX7_fit 20 = .ok (.invokevirtual 25, 3) := by decide +kernel
theorem dX7_fit_23 : decode cX7_fit 23 = .ok (.astore 5, 2) := by decide +kernel
theorem dX7_fit_25 : decode cX7_fit 25 = .ok (.aload 5, 2) := by decide +kernel
theorem dX7_fit_27 : decode cX7_fit 27 = .ok (.ifnull 37, 3) := by decide +kernel
theorem dX7_fit_30 : decode cX7_fit 30 = .ok (.aload 5, 2) := by decide +kernel
theorem dX7_fit_32 : decode cX7_fit 32 = .ok (.getfield 31, 3) := by decide +kernel
theorem dX7_fit_35 : decode cX7_fit 35 = .ok (.iload_n 2, 1) := by decide +kernel
theorem dX7_fit_36 : decode cX7_fit 36 = .ok (.if_icmp .ne 28, 3) := by decide +kernel
theorem dX7_fit_39 : decode cX7_fit 39 = .ok (.aload 5, 2) := by decide +kernel
theorem dX7_fit_41 : decode cX7_fit 41 = .ok (.aload_n 0, 1) := by decide +kernel
theorem dX7_fit_42 : decode cX7_fit 42 = .ok (.getfield 15, 3) := by decide +kernel
theorem dX7_fit_45 : decode cX7_fit 45 = .ok (.iload 4, 2) := by decide +kernel
theorem dX7_fit_47 : decode cX7_fit 47 = .ok (.iaload, 1) := by decide +kernel
theorem dX7_fit_48 : decode cX7_fit 48 = .ok (.iload_n 3, 1) := by decide +kernel
theorem dX7_fit_49 : decode cX7_fit 49 = .ok (.invokestatic 36, 3) := by decide +kernel
theorem dX7_fit_52 : decode cX7_fit 52 = .ok (.aload_n 0, 1) := by decide +kernel
theorem dX7_fit_53 : decode cX7_fit 53 = .ok (.getfield 18, 3) := by decide +kernel
theorem dX7_fit_56 : decode cX7_fit 56 = .ok (.iload 4, 2) := by decide +kernel
theorem dX7_fit_58 : decode cX7_fit 58 = .ok (.iaload, 1) := by decide +kernel
theorem dX7_fit_59 : decode cX7_fit 59 = .ok (.if_icmp .eq 5, 3) := by decide +kernel
theorem dX7_fit_62 : decode cX7_fit 62 = .ok (.iconst 0, 1) := by decide +kernel
theorem dX7_fit_63 : decode cX7_fit 63 = .ok (.ireturn, 1) := by decide +kernel
theorem dX7_fit_64 : decode cX7_fit 64 = .ok (.iinc 4 1, 3) := by decide +kernel
theorem dX7_fit_67 : decode cX7_fit 67 = .ok (.goto (-64), 3) := by decide +kernel
theorem dX7_fit_70 : decode cX7_fit 70 = .ok (.iconst 1, 1) := by decide +kernel
theorem dX7_fit_71 : decode cX7_fit 71 = .ok (.ireturn, 1) := by decide +kernel
theorem dX7_smeltBehind_0 : decode cX7_smeltBehind 0 = .ok (.iconst 0, 1) := by decide +kernel
theorem dX7_smeltBehind_1 : decode cX7_smeltBehind 1 = .ok (.istore_n 3, 1) := by decide +kernel
theorem dX7_smeltBehind_2 : decode cX7_smeltBehind 2 = .ok (.iconst 0, 1) := by decide +kernel
theorem dX7_smeltBehind_3 : decode cX7_smeltBehind 3 = .ok (.istore 4, 2) := by decide +kernel
theorem dX7_smeltBehind_5 : decode cX7_smeltBehind 5 = .ok (.iload 4, 2) := by decide +kernel
theorem dX7_smeltBehind_7 : decode cX7_smeltBehind 7 = .ok (.iload_n 1, 1) := by decide +kernel
theorem dX7_smeltBehind_8 : decode cX7_smeltBehind 8 = .ok (.if_icmp .ge 24, 3) := by decide +kernel
theorem dX7_smeltBehind_11 : decode cX7_smeltBehind 11 = .ok (.iload_n 3, 1) := by decide +kernel
theorem dX7_smeltBehind_12 : decode cX7_smeltBehind 12 = .ok (.aload_n 0, 1) := by decide +kernel
theorem dX7_smeltBehind_13 : decode cX7_smeltBehind 13 = .ok (.aload_n 0, 1) := by decide +kernel
theorem dX7_smeltBehind_14 : decode cX7_smeltBehind 14 = .ok (.getfield 31, 3) := by decide +kernel
theorem dX7_smeltBehind_17 : decode cX7_smeltBehind 17 = .ok (.iload_n 2, 1) := by decide +kernel
theorem dX7_smeltBehind_18 : decode cX7_smeltBehind 18 = .ok (.invokevirtual 40, 3) := by decide +kernel
theorem dX7_smeltBehind_21 : decode cX7_smeltBehind 21 = .ok (.iadd, 1) := by decide +kernel
theorem dX7_smeltBehind_22 : decode cX7_smeltBehind 22 = .ok (.invokestatic 44, 3) := by decide +kernel
theorem dX7_smeltBehind_25 : decode cX7_smeltBehind 25 = .ok (.istore_n 3, 1) := by decide +kernel
theorem dX7_smeltBehind_26 : decode cX7_smeltBehind 26 = .ok (.iinc 4 1, 3) := by decide +kernel
theorem dX7_smeltBehind_29 : decode cX7_smeltBehind 29 = .ok (.goto (-24), 3) := by decide +kernel
theorem dX7_smeltBehind_32 : decode cX7_smeltBehind 32 = .ok (.aload_n 0, 1) := by decide +kernel
theorem dX7_smeltBehind_33 : decode cX7_smeltBehind 33 = .ok (.iload_n 3, 1) := by decide +kernel
theorem dX7_smeltBehind_34 : decode cX7_smeltBehind 34 = .ok (.iconst 0, 1) := by decide +kernel
theorem dX7_smeltBehind_35 : decode cX7_smeltBehind 35 = .ok (.invokevirtual 48, 3) := by decide +kernel
theorem dX7_smeltBehind_38 : decode cX7_smeltBehind 38 = .ok (.ireturn, 1) := by decide +kernel
theorem dX8_init_0 : decode cX8_init 0 = .ok (.aload_n 0, 1) := by decide +kernel
theorem dX8_init_1 : decode cX8_init 1 = .ok (.invokespecial 3, 3) := by decide +kernel
theorem dX8_init_4 : decode cX8_init 4 = .ok (.aload_n 0, 1) := by decide +kernel
theorem dX8_init_5 : decode cX8_init 5 = .ok (.sipush 160, 3) := by decide +kernel
theorem dX8_init_8 : decode cX8_init 8 = .ok (.newarray .char, 2) := by decide +kernel
theorem dX8_init_10 : decode cX8_init 10 = .ok (.putfield 9, 3) := by decide +kernel
theorem dX8_init_13 : decode cX8_init 13 = .ok (.aload_n 0, 1) := by decide +kernel
theorem dX8_init_14 : decode cX8_init 14 = .ok (.bipush 14, 2) := by decide +kernel
theorem dX8_init_16 : decode cX8_init 16 = .ok (.newarray .int, 2) := by decide +kernel
theorem dX8_init_18 : decode cX8_init 18 = .ok (.putfield 15, 3) := by decide +kernel
theorem dX8_init_21 : decode cX8_init 21 = .ok (.aload_n 0, 1) := by decide +kernel
theorem dX8_init_22 : decode cX8_init 22 = .ok (.bipush 42, 2) := by decide +kernel
theorem dX8_init_24 : decode cX8_init 24 = .ok (.newarray .int, 2) := by decide +kernel
theorem dX8_init_26 : decode cX8_init 26 = .ok (.putfield 19, 3) := by decide +kernel
theorem dX8_init_29 : decode cX8_init 29 = .ok (.return_, 1) := by decide +kernel
theorem dX8_add_0 : decode cX8_add 0 = .ok (.aload_n 0, 1) := by decide +kernel
theorem dX8_add_1 : decode cX8_add 1 = .ok (.getfield 22, 3) := by decide +kernel
theorem dX8_add_4 : decode cX8_add 4 = .ok (.sipush 160, 3) := by decide +kernel
theorem dX8_add_7 : decode cX8_add 7 = .ok (.if_icmp .lt 5, 3) := by decide +kernel
theorem dX8_add_10 : decode cX8_add 10 = .ok (.iconst 0, 1) := by decide +kernel
theorem dX8_add_11 : decode cX8_add 11 = .ok (.ireturn, 1) := by decide +kernel
theorem dX8_add_12 : decode cX8_add 12 = .ok (.aload_n 0, 1) := by decide +kernel
theorem dX8_add_13 : decode cX8_add 13 = .ok (.getfield 9, 3) := by decide +kernel
theorem dX8_add_16 : decode cX8_add 16 = .ok (.aload_n 0, 1) := by decide +kernel
theorem dX8_add_17 : decode cX8_add 17 = .ok (.getfield 22, 3) := by decide +kernel
theorem dX8_add_20 : decode cX8_add 20 = .ok (.iload_n 1, 1) := by decide +kernel
theorem dX8_add_21 : decode cX8_add 21 = .ok (.castore, 1) := by decide +kernel
theorem dX8_add_22 : decode cX8_add 22 = .ok (.aload_n 0, 1) := by decide +kernel
theorem dX8_add_23 : decode cX8_add 23 = .ok (.dup, 1) := by decide +kernel
theorem dX8_add_24 : decode cX8_add 24 = .ok (.getfield 22, 3) := by decide +kernel
theorem dX8_add_27 : decode cX8_add 27 = .ok (.iconst 1, 1) := by decide +kernel
theorem dX8_add_28 : decode cX8_add 28 = .ok (.iadd, 1) := by decide +kernel
theorem dX8_add_29 : decode cX8_add 29 = .ok (.putfield 22, 3) := by decide +kernel
theorem dX8_add_32 : decode cX8_add 32 = .ok (.iconst 1, 1) := by decide +kernel
theorem dX8_add_33 : decode cX8_add 33 = .ok (.ireturn, 1) := by decide +kernel
theorem dX8_numberOf_0 : decode cX8_numberOf 0 = .ok (.aload_n 0, 1) := by decide +kernel
theorem dX8_numberOf_1 : decode cX8_numberOf 1 = .ok (.getfield 19, 3) := by decide +kernel
theorem dX8_numberOf_4 : decode cX8_numberOf 4 = .ok (.iload_n 1, 1) := by decide +kernel
theorem dX8_numberOf_5 : decode cX8_numberOf 5 = .ok (.iconst 3, 1) := by decide +kernel
theorem dX8_numberOf_6 : decode cX8_numberOf 6 = .ok (.imul, 1) := by decide +kernel
theorem dX8_numberOf_7 : decode cX8_numberOf 7 = .ok (.iload_n 2, 1) := by decide +kernel
theorem dX8_numberOf_8 : decode cX8_numberOf 8 = .ok (.iadd, 1) := by decide +kernel
theorem dX8_numberOf_9 : decode cX8_numberOf 9 = .ok (.iaload, 1) := by decide +kernel
theorem dX8_numberOf_10 : decode cX8_numberOf 10 = .ok (.ireturn, 1) := by decide +kernel
theorem dX8_read_0 : decode cX8_read 0 = .ok (.aload_n 0, 1) := by decide +kernel
theorem dX8_read_1 : decode cX8_read 1 = .ok (.iload_n 1, 1) := by decide +kernel
theorem dX8_read_2 : decode cX8_read 2 = .ok (.putfield 26, 3) := by decide +kernel
theorem dX8_read_5 : decode cX8_read 5 = .ok (.aload_n 0, 1) := by decide +kernel
theorem dX8_read_6 : decode cX8_read 6 = .ok (.iconst 0, 1) := by decide +kernel
theorem dX8_read_7 : decode cX8_read 7 = .ok (.putfield 29, 3) := by decide +kernel
theorem dX8_read_10 : decode cX8_read 10 = .ok (.aload_n 0, 1) := by decide +kernel
theorem dX8_read_11 : decode cX8_read 11 = .ok (.iconst 0, 1) := by decide +kernel
theorem dX8_read_12 : decode cX8_read 12 = .ok (.putfield 32, 3) := by decide +kernel
theorem dX8_read_15 : decode cX8_read 15 = .ok (.iconst 0, 1) := by decide +kernel
theorem dX8_read_16 : decode cX8_read 16 = .ok (.istore_n 2, 1) := by decide +kernel
theorem dX8_read_17 : decode cX8_read 17 = .ok (.iload_n 2, 1) := by decide +kernel
theorem dX8_read_18 : decode cX8_read 18 = .ok (.bipush 14, 2) := by decide +kernel
theorem dX8_read_20 : decode cX8_read 20 = .ok (.if_icmp .ge 68, 3) := by decide +kernel
theorem dX8_read_23 : decode cX8_read 23 = .ok (.aload_n 0, 1) := by decide +kernel
theorem dX8_read_24 : decode cX8_read 24 = .ok (.iload_n 2, 1) := by decide +kernel
theorem dX8_read_25 : decode cX8_read 25 = .ok (.invokevirtual 35, 3) := by decide +kernel
theorem dX8_read_28 : decode cX8_read 28 = .ok (.ifCond .ne 8, 3) := by decide +kernel
theorem dX8_read_31 : decode cX8_read 31 = .ok (.aload_n 0, 1) := by decide +kernel
theorem dX8_read_32 : decode cX8_read 32 = .ok (.getfield 39, 3) := by decide +kernel
theorem dX8_read_35 : decode cX8_read 35 = .ok (.ireturn, 1) := by decide +kernel
theorem dX8_read_36 : decode cX8_read 36 = .ok (.aload_n 0, 1) := by decide +kernel
theorem dX8_read_37 : decode cX8_read 37 = .ok (.dup, 1) := by decide +kernel
theorem dX8_read_38 : decode cX8_read 38 = .ok (.getfield 29, 3) := by decide +kernel
theorem dX8_read_41 : decode cX8_read 41 = .ok (.iconst 1, 1) := by decide +kernel
theorem dX8_read_42 : decode cX8_read 42 = .ok (.iadd, 1) := by decide +kernel
theorem dX8_read_43 : decode cX8_read 43 = .ok (.putfield 29, 3) := by decide +kernel
theorem dX8_read_46 : decode cX8_read 46 = .ok (.aload_n 0, 1) := by decide +kernel
theorem dX8_read_47 : decode cX8_read 47 = .ok (.invokevirtual 42, 3) := by decide +kernel
theorem dX8_read_50 : decode cX8_read 50 = .ok (.aload_n 0, 1) := by decide +kernel
theorem dX8_read_51 : decode cX8_read 51 = .ok (.getfield 39, 3) := by decide +kernel
theorem dX8_read_54 : decode cX8_read 54 = .ok (.aload_n 0, 1) := by decide +kernel
theorem dX8_read_55 : decode cX8_read 55 = .ok (.getfield 22, 3) := by decide +kernel
theorem dX8_read_58 : decode cX8_read 58 = .ok (.if_icmp .lt 5, 3) := by decide +kernel
theorem dX8_read_61 : decode cX8_read 61 = .ok (.iconst (-1), 1) := by decide +kernel
theorem dX8_read_62 : decode cX8_read 62 = .ok (.ireturn, 1) := by decide +kernel
theorem dX8_read_63 : decode cX8_read 63 = .ok (.aload_n 0, 1) := by decide +kernel
theorem dX8_read_64 : decode cX8_read 64 = .ok (.getfield 9, 3) := by decide +kernel
theorem dX8_read_67 : decode cX8_read 67 = .ok (.aload_n 0, 1) := by decide +kernel
theorem dX8_read_68 : decode cX8_read 68 = .ok (.getfield 39, 3) := by decide +kernel
theorem dX8_read_71 : decode cX8_read 71 = .ok (.caload, 1) := by decide +kernel
theorem dX8_read_72 : decode cX8_read 72 = .ok (.bipush 59, 2) := by decide +kernel
theorem dX8_read_74 : decode cX8_read 74 = .ok (.if_icmp .eq 8, 3) := by decide +kernel
theorem dX8_read_77 : decode cX8_read 77 = .ok (.aload_n 0, 1) := by decide +kernel
theorem dX8_read_78 : decode cX8_read 78 = .ok (.getfield 39, 3) := by decide +kernel
theorem dX8_read_81 : decode cX8_read 81 = .ok (.ireturn, 1) := by decide +kernel
theorem dX8_read_82 : decode cX8_read 82 = .ok (.iinc 2 1, 3) := by decide +kernel
theorem dX8_read_85 : decode cX8_read 85 = .ok (.goto (-68), 3) := by decide +kernel
theorem dX8_read_88 : decode cX8_read 88 = .ok (.aload_n 0, 1) := by decide +kernel
theorem dX8_read_89 : decode cX8_read 89 = .ok (.getfield 39, 3) := by decide +kernel
theorem dX8_read_92 : decode cX8_read 92 = .ok (.ireturn, 1) := by decide +kernel
theorem dX8_isClause_0 : decode cX8_isClause 0 = .ok (.aload_n 0, 1) := by decide +kernel
theorem dX8_isClause_1 : decode cX8_isClause 1 = .ok (.invokevirtual 42, 3) := by decide +kernel
theorem dX8_isClause_4 : decode cX8_isClause 4 = .ok (.aload_n 0, 1) := by decide +kernel
theorem dX8_isClause_5 : decode cX8_isClause 5 = .ok (.invokevirtual 45, 3) := by decide +kernel
theorem dX8_isClause_8 : decode cX8_isClause 8 = .ok (.istore_n 2, 1) := by decide +kernel
theorem dX8_isClause_9 : decode cX8_isClause 9 = .ok (.iload_n 2, 1) := by decide +kernel
theorem dX8_isClause_10 : decode cX8_isClause 10 = .ok (.iconst (-1), 1) := by decide +kernel
theorem dX8_isClause_11 : decode cX8_isClause 11 = .ok (.if_icmp .eq 11, 3) := by decide +kernel
theorem dX8_isClause_14 : decode cX8_isClause 14 = .ok (.aload_n 0, 1) := by decide +kernel
theorem dX8_isClause_15 : decode cX8_isClause 15 = .ok (.iload_n 2, 1) := by decide +kernel
theorem dX8_isClause_16 : decode cX8_isClause 16 = .ok (.invokevirtual 49, 3) := by decide +kernel
theorem dX8_isClause_19 : decode cX8_isClause 19 = .ok (.ifCond .ne 5, 3) := by decide +kernel
theorem dX8_isClause_22 : decode cX8_isClause 22 = .ok (.iconst 0, 1) := by decide +kernel
theorem dX8_isClause_23 : decode cX8_isClause 23 = .ok (.ireturn, 1) := by decide +kernel
theorem dX8_isClause_24 : decode cX8_isClause 24 = .ok (.aload_n 0, 1) := by decide +kernel
theorem dX8_isClause_25 : decode cX8_isClause 25 = .ok (.getfield 15, 3) := by decide +kernel
theorem dX8_isClause_28 : decode cX8_isClause 28 = .ok (.iload_n 1, 1) := by decide +kernel
theorem dX8_isClause_29 : decode cX8_isClause 29 = .ok (.iload_n 2, 1) := by decide +kernel
theorem dX8_isClause_30 : decode cX8_isClause 30 = .ok (.iastore, 1) := by decide +kernel
theorem dX8_isClause_31 : decode cX8_isClause 31 = .ok (.iconst 0, 1) := by decide +kernel
theorem dX8_isClause_32 : decode cX8_isClause 32 = .ok (.istore_n 3, 1) := by decide +kernel
theorem dX8_isClause_33 : decode cX8_isClause 33 = .ok (.iload_n 3, 1) := by decide +kernel
theorem dX8_isClause_34 : decode cX8_isClause 34 = .ok (.getstatic 52, 3) := by decide +kernel
theorem dX8_isClause_37 : decode cX8_isClause 37 = .ok (.iload_n 2, 1) := by decide +kernel
theorem dX8_isClause_38 : decode cX8_isClause 38 = .ok (.iaload, 1) := by decide +kernel
theorem dX8_isClause_39 : decode cX8_isClause 39 = .ok (.if_icmp .ge 60, 3) := by decide +kernel
theorem dX8_isClause_42 : decode cX8_isClause 42 = .ok (.aload_n 0, 1) := by decide +kernel
theorem dX8_isClause_43 : decode cX8_isClause 43 = .ok (.invokevirtual 42, 3) := by decide +kernel
theorem dX8_isClause_46 : decode cX8_isClause 46 = .ok (.aload_n 0, 1) := by decide +kernel
theorem dX8_isClause_47 : decode cX8_isClause 47 = .ok (.invokevirtual 55, 3) := by decide +kernel
theorem dX8_isClause_50 : decode cX8_isClause 50 = .ok (.istore 4, 2) := by decide +kernel
theorem dX8_isClause_52 : decode cX8_isClause 52 = .ok (.iload_n 2, 1) := by decide +kernel
theorem dX8_isClause_53 : decode cX8_isClause 53 = .ok (.iconst 3, 1) := by decide +kernel
theorem dX8_isClause_54 : decode cX8_isClause 54 = .ok (.imul, 1) := by decide +kernel
theorem dX8_isClause_55 : decode cX8_isClause 55 = .ok (.iload_n 3, 1) := by decide +kernel
theorem dX8_isClause_56 : decode cX8_isClause 56 = .ok (.iadd, 1) := by decide +kernel
theorem dX8_isClause_57 : decode cX8_isClause 57 = .ok (.istore 5, 2) := by decide +kernel
theorem dX8_isClause_59 : decode cX8_isClause 59 = .ok (.iload 4, 2) := by decide +kernel
theorem dX8_isClause_61 : decode cX8_isClause 61 = .ok (.getstatic 58, 3) := by decide +kernel
theorem dX8_isClause_64 : decode cX8_isClause 64 = .ok (.iload 5, 2) := by decide +kernel
theorem dX8_isClause_66 : decode cX8_isClause 66 = .ok (.iaload, 1) := by decide +kernel
theorem dX8_isClause_67 : decode cX8_isClause 67 = .ok (.getstatic 61, 3) := by decide +kernel
theorem dX8_isClause_70 : decode cX8_isClause 70 = .ok (.iload 5, 2) := by decide +kernel
theorem dX8_isClause_72 : decode cX8_isClause 72 = .ok (.iaload, 1) := by decide +kernel
theorem dX8_isClause_73 : decode cX8_isClause 73 = .ok (.invokestatic 64, 3) := by decide +kernel
theorem dX8_isClause_76 : decode cX8_isClause 76 = .ok (.ifCond .ne 5, 3) := by decide +kernel
theorem dX8_isClause_79 : decode cX8_isClause 79 = .ok (.iconst 0, 1) := by decide +kernel
theorem dX8_isClause_80 : decode cX8_isClause 80 = .ok (.ireturn, 1) := by decide +kernel
theorem dX8_isClause_81 : decode cX8_isClause 81 = .ok (.aload_n 0, 1) := by decide +kernel
theorem dX8_isClause_82 : decode cX8_isClause 82 = .ok (.getfield 19, 3) := by decide +kernel
theorem dX8_isClause_85 : decode cX8_isClause 85 = .ok (.iload_n 1, 1) := by decide +kernel
theorem dX8_isClause_86 : decode cX8_isClause 86 = .ok (.iconst 3, 1) := by decide +kernel
theorem dX8_isClause_87 : decode cX8_isClause 87 = .ok (.imul, 1) := by decide +kernel
theorem dX8_isClause_88 : decode cX8_isClause 88 = .ok (.iload_n 3, 1) := by decide +kernel
theorem dX8_isClause_89 : decode cX8_isClause 89 = .ok (.iadd, 1) := by decide +kernel
theorem dX8_isClause_90 : decode cX8_isClause 90 = .ok (.iload 4, 2) := by decide +kernel
theorem dX8_isClause_92 : decode cX8_isClause 92 = .ok (.iastore, 1) := by decide +kernel
theorem dX8_isClause_93 : decode cX8_isClause 93 = .ok (.iinc 3 1, 3) := by decide +kernel
theorem dX8_isClause_96 : decode cX8_isClause 96 = .ok (.goto (-63), 3) := by decide +kernel
theorem dX8_isClause_99 : decode cX8_isClause 99 = .ok (.iconst 1, 1) := by decide +kernel
theorem dX8_isClause_100 : decode cX8_isClause 100 = .ok (.ireturn, 1) := by decide +kernel
theorem dX8_hasRoom_0 : decode cX8_hasRoom 0 = .ok (.iload_n 1, 1) := by decide +kernel
theorem dX8_hasRoom_1 : decode cX8_hasRoom 1 = .ok (.ifCond .eq 9, 3) := by decide +kernel
theorem dX8_hasRoom_4 : decode cX8_hasRoom 4 = .ok (.iload_n 1, 1) := by decide +kernel
theorem dX8_hasRoom_5 : decode cX8_hasRoom 5 = .ok (.bipush 8, 2) := by decide +kernel
theorem dX8_hasRoom_7 : decode cX8_hasRoom 7 = .ok (.if_icmp .ne 8, 3) := by decide +kernel
theorem dX8_hasRoom_10 : decode cX8_hasRoom 10 = .ok (.aload_n 0, 1) := by decide +kernel
theorem dX8_hasRoom_11 : decode cX8_hasRoom 11 = .ok (.iconst 0, 1) := by decide +kernel
theorem dX8_hasRoom_12 : decode cX8_hasRoom 12 = .ok (.putfield 26, 3) := by decide +kernel
theorem dX8_hasRoom_15 : decode cX8_hasRoom 15 = .ok (.iload_n 1, 1) := by decide +kernel
theorem dX8_hasRoom_16 : decode cX8_hasRoom 16 = .ok (.iconst 2, 1) := by decide +kernel
theorem dX8_hasRoom_17 : decode cX8_hasRoom 17 = .ok (.iconst 5, 1) := by decide +kernel
theorem dX8_hasRoom_18 : decode cX8_hasRoom 18 = .ok (.invokestatic 64, 3) := by decide +kernel
theorem dX8_hasRoom_21 : decode cX8_hasRoom 21 = .ok (.ifCond .eq 13, 3) := by decide +kernel
theorem dX8_hasRoom_24 : decode cX8_hasRoom 24 = .ok (.aload_n 0, 1) := by decide +kernel
theorem dX8_hasRoom_25 : decode cX8_hasRoom 25 = .ok (.dup, 1) := by decide +kernel
theorem dX8_hasRoom_26 : decode cX8_hasRoom 26 = .ok (.getfield 26, 3) := by decide +kernel
theorem dX8_hasRoom_29 : decode cX8_hasRoom 29 = .ok (.iconst 1, 1) := by decide +kernel
theorem dX8_hasRoom_30 : decode cX8_hasRoom 30 = .ok (.iadd, 1) := by decide +kernel
theorem dX8_hasRoom_31 : decode cX8_hasRoom 31 = .ok (.putfield 26, 3) := by decide +kernel
theorem dX8_hasRoom_34 : decode cX8_hasRoom 34 = .ok (.aload_n 0, 1) := by decide +kernel
theorem dX8_hasRoom_35 : decode cX8_hasRoom 35 = .ok (.getfield 26, 3) := by decide +kernel
theorem dX8_hasRoom_38 : decode cX8_hasRoom 38 = .ok (.bipush 6, 2) := by decide +kernel
theorem dX8_hasRoom_40 : decode cX8_hasRoom 40 = .ok (.if_icmp .gt 7, 3) := by decide +kernel
theorem dX8_hasRoom_43 : decode cX8_hasRoom 43 = .ok (.iconst 1, 1) := by decide +kernel
theorem dX8_hasRoom_44 : decode cX8_hasRoom 44 = .ok (.goto 4, 3) := by decide +kernel
theorem dX8_hasRoom_47 : decode cX8_hasRoom 47 = .ok (.iconst 0, 1) := by decide +kernel
theorem dX8_hasRoom_48 : decode cX8_hasRoom 48 = .ok (.ireturn, 1) := by decide +kernel
theorem dX8_nextToken_0 : decode cX8_nextToken 0 = .ok (.aload_n 0, 1) := by decide +kernel
theorem dX8_nextToken_1 : decode cX8_nextToken 1 = .ok (.aload_n 0, 1) := by decide +kernel
theorem dX8_nextToken_2 : decode cX8_nextToken 2 = .ok (.getfield 32, 3) := by decide +kernel
theorem dX8_nextToken_5 : decode cX8_nextToken 5 = .ok (.putfield 39, 3) := by decide +kernel
theorem dX8_nextToken_8 : decode cX8_nextToken 8 = .ok (.aload_n 0, 1) := by decide +kernel
theorem dX8_nextToken_9 : decode cX8_nextToken 9 = .ok (.getfield 39, 3) := by decide +kernel
theorem dX8_nextToken_12 : decode cX8_nextToken 12 = .ok (.aload_n 0, 1) := by decide +kernel
theorem dX8_nextToken_13 : decode cX8_nextToken 13 = .ok (.getfield 22, 3) := by decide +kernel
theorem dX8_nextToken_16 : decode cX8_nextToken 16 = .ok (.if_icmp .ge 30, 3) := by decide +kernel
theorem dX8_nextToken_19 : decode cX8_nextToken 19 = .ok (.aload_n 0, 1) := by decide +kernel
theorem dX8_nextToken_20 : decode cX8_nextToken 20 = .ok (.getfield 9, 3) := by decide +kernel
theorem dX8_nextToken_23 : decode cX8_nextToken 23 = .ok (.aload_n 0, 1) := by decide +kernel
theorem dX8_nextToken_24 : decode cX8_nextToken 24 = .ok (.getfield 39, 3) := by decide +kernel
theorem dX8_nextToken_27 : decode cX8_nextToken 27 = .ok (.caload, 1) := by decide +kernel
theorem dX8_nextToken_28 : decode cX8_nextToken 28 = .ok (.bipush 32, 2) := by decide +kernel
theorem dX8_nextToken_30 : decode cX8_nextToken 30 = .ok (.if_icmp .ne 16, 3) := by decide +kernel
theorem dX8_nextToken_33 : decode cX8_nextToken 33 = .ok (.aload_n 0, 1) := by decide +kernel
theorem dX8_nextToken_34 : decode cX8_nextToken 34 = .ok (.dup, 1) := by decide +kernel
theorem dX8_nextToken_35 : decode cX8_nextToken 35 = .ok (.getfield 39, 3) := by decide +kernel
theorem dX8_nextToken_38 : decode cX8_nextToken 38 = .ok (.iconst 1, 1) := by decide +kernel
theorem dX8_nextToken_39 : decode cX8_nextToken 39 = .ok (.iadd, 1) := by decide +kernel
theorem dX8_nextToken_40 : decode cX8_nextToken 40 = .ok (.putfield 39, 3) := by decide +kernel
theorem dX8_nextToken_43 : decode cX8_nextToken 43 = .ok (.goto (-35), 3) := by decide +kernel
theorem dX8_nextToken_46 : decode cX8_nextToken 46 = .ok (.aload_n 0, 1) := by decide +kernel
theorem dX8_nextToken_47 : decode cX8_nextToken 47 = .ok (.aload_n 0, 1) := by decide +kernel
theorem dX8_nextToken_48 : decode cX8_nextToken 48 = .ok (.getfield 39, 3) := by decide +kernel
theorem dX8_nextToken_51 : decode cX8_nextToken 51 = .ok (.putfield 32, 3) := by decide +kernel
theorem dX8_nextToken_54 : decode cX8_nextToken 54 = .ok (.aload_n 0, 1) := by decide +kernel
theorem dX8_nextToken_55 : decode cX8_nextToken 55 = .ok (.getfield 39, 3) := by decide +kernel
theorem dX8_nextToken_58 : decode cX8_nextToken 58 = .ok (.aload_n 0, 1) := by decide +kernel
theorem dX8_nextToken_59 : decode cX8_nextToken 59 = .ok (.getfield 22, 3) := by decide +kernel
theorem dX8_nextToken_62 : decode cX8_nextToken 62 = .ok (.if_icmp .lt 4, 3) := by decide +kernel
theorem dX8_nextToken_65 : decode cX8_nextToken 65 = .ok (.return_, 1) := by decide +kernel
theorem dX8_nextToken_66 : decode cX8_nextToken 66 = .ok (.aload_n 0, 1) := by decide +kernel
theorem dX8_nextToken_67 : decode cX8_nextToken 67 = .ok (.getfield 9, 3) := by decide +kernel
theorem dX8_nextToken_70 : decode cX8_nextToken 70 = .ok (.aload_n 0, 1) := by decide +kernel
theorem dX8_nextToken_71 : decode cX8_nextToken 71 = .ok (.getfield 39, 3) := by decide +kernel
theorem dX8_nextToken_74 : decode cX8_nextToken 74 = .ok (.caload, 1) := by decide +kernel
theorem dX8_nextToken_75 : decode cX8_nextToken 75 = .ok (.istore_n 1, 1) := by decide +kernel
theorem dX8_nextToken_76 : decode cX8_nextToken 76 = .ok (.aload_n 0, 1) := by decide +kernel
theorem dX8_nextToken_77 : decode cX8_nextToken 77 = .ok (.dup, 1) := by decide +kernel
theorem dX8_nextToken_78 : decode cX8_nextToken 78 = .ok (.getfield 32, 3) := by decide +kernel
theorem dX8_nextToken_81 : decode cX8_nextToken 81 = .ok (.iconst 1, 1) := by decide +kernel
theorem dX8_nextToken_82 : decode cX8_nextToken 82 = .ok (.iadd, 1) := by decide +kernel
theorem dX8_nextToken_83 : decode cX8_nextToken 83 = .ok (.putfield 32, 3) := by decide +kernel
theorem dX8_nextToken_86 : decode cX8_nextToken 86 = .ok (.aload_n 0, 1) := by decide +kernel
theorem dX8_nextToken_87 : decode cX8_nextToken 87 = .ok (.getfield 32, 3) := by decide +kernel
theorem dX8_nextToken_90 : decode cX8_nextToken 90 = .ok (.aload_n 0, 1) := by decide +kernel
theorem dX8_nextToken_91 : decode cX8_nextToken 91 = .ok (.getfield 22, 3) := by decide +kernel
theorem dX8_nextToken_94 : decode cX8_nextToken 94 = .ok (.if_icmp .ge 32, 3) := by decide +kernel
theorem dX8_nextToken_97 : decode cX8_nextToken 97 = .ok (.iload_n 1, 1) := by decide +kernel
theorem dX8_nextToken_98 : decode cX8_nextToken 98 = .ok (.aload_n 0, 1) := by decide +kernel
theorem dX8_nextToken_99 : decode cX8_nextToken 99 = .ok (.getfield 9, 3) := by decide +kernel
theorem dX8_nextToken_102 : decode cX8_nextToken 102 = .ok (.aload_n 0, 1) := by decide +kernel
theorem dX8_nextToken_103 : decode cX8_nextToken 103 = .ok (.getfield 32, 3) := by decide +kernel
theorem dX8_nextToken_106 : decode cX8_nextToken 106 = .ok (.caload, 1) := by decide +kernel
theorem dX8_nextToken_107 : decode cX8_nextToken 107 = .ok (.invokestatic 68, 3) := by decide +kernel
theorem dX8_nextToken_110 : decode cX8_nextToken 110 = .ok (.ifCond .eq 16, 3) := by decide +kernel
theorem dX8_nextToken_113 : decode cX8_nextToken 113 = .ok (.aload_n 0, 1) := by decide +kernel
theorem dX8_nextToken_114 : decode cX8_nextToken 114 = .ok (.dup, 1) := by decide +kernel
theorem dX8_nextToken_115 : decode cX8_nextToken 115 = .ok (.getfield 32, 3) := by decide +kernel
theorem dX8_nextToken_118 : decode cX8_nextToken 118 = .ok (.iconst 1, 1) := by decide +kernel
theorem dX8_nextToken_119 : decode cX8_nextToken 119 = .ok (.iadd, 1) := by decide +kernel
theorem dX8_nextToken_120 : decode cX8_nextToken 120 = .ok (.putfield 32, 3) := by decide +kernel
theorem dX8_nextToken_123 : decode cX8_nextToken 123 = .ok (.goto (-37), 3) := by decide +kernel
theorem dX8_nextToken_126 : decode cX8_nextToken 126 = .ok (.return_, 1) := by decide +kernel
theorem dX8_isOneRow_0 : decode cX8_isOneRow 0 = .ok (.iload_n 0, 1) := by decide +kernel
theorem dX8_isOneRow_1 : decode cX8_isOneRow 1 = .ok (.invokestatic 72, 3) := by decide +kernel
theorem dX8_isOneRow_4 : decode cX8_isOneRow 4 = .ok (.ifCond .eq 10, 3) := by decide +kernel
theorem dX8_isOneRow_7 : decode cX8_isOneRow 7 = .ok (.iload_n 1, 1) := by decide +kernel
theorem dX8_isOneRow_8 : decode cX8_isOneRow 8 = .ok (.invokestatic 72, 3) := by decide +kernel
theorem dX8_isOneRow_11 : decode cX8_isOneRow 11 = .ok (.ifCond .ne 17, 3) := by decide +kernel
theorem dX8_isOneRow_14 : decode cX8_isOneRow 14 = .ok (.iload_n 0, 1) := by decide +kernel
theorem dX8_isOneRow_15 : decode cX8_isOneRow 15 = .ok (.invokestatic 76, 3) := by decide +kernel
theorem dX8_isOneRow_18 : decode cX8_isOneRow 18 = .ok (.ifCond .eq 14, 3) := by decide +kernel
theorem dX8_isOneRow_21 : decode cX8_isOneRow 21 = .ok (.iload_n 1, 1) := by decide +kernel
theorem dX8_isOneRow_22 : decode cX8_isOneRow 22 = .ok (.invokestatic 76, 3) := by decide +kernel
theorem dX8_isOneRow_25 : decode cX8_isOneRow 25 = .ok (.ifCond .eq 7, 3) := by decide +kernel
theorem dX8_isOneRow_28 : decode cX8_isOneRow 28 = .ok (.iconst 1, 1) := by decide +kernel
theorem dX8_isOneRow_29 : decode cX8_isOneRow 29 = .ok (.goto 4, 3) := by decide +kernel
theorem dX8_isOneRow_32 : decode cX8_isOneRow 32 = .ok (.iconst 0, 1) := by decide +kernel
theorem dX8_isOneRow_33 : decode cX8_isOneRow 33 = .ok (.ireturn, 1) := by decide +kernel
theorem dX8_isSmall_0 : decode cX8_isSmall 0 = .ok (.bipush 97, 2) := by decide +kernel
theorem dX8_isSmall_2 : decode cX8_isSmall 2 = .ok (.iload_n 0, 1) := by decide +kernel
theorem dX8_isSmall_3 : decode cX8_isSmall 3 = .ok (.if_icmp .gt 13, 3) := by decide +kernel
theorem dX8_isSmall_6 : decode cX8_isSmall 6 = .ok (.iload_n 0, 1) := by decide +kernel
theorem dX8_isSmall_7 : decode cX8_isSmall 7 = .ok (.bipush 122, 2) := by decide +kernel
theorem dX8_isSmall_9 : decode cX8_isSmall 9 = .ok (.if_icmp .gt 7, 3) := by decide +kernel
theorem dX8_isSmall_12 : decode cX8_isSmall 12 = .ok (.iconst 1, 1) := by decide +kernel
theorem dX8_isSmall_13 : decode cX8_isSmall 13 = .ok (.goto 4, 3) := by decide +kernel
theorem dX8_isSmall_16 : decode cX8_isSmall 16 = .ok (.iconst 0, 1) := by decide +kernel
theorem dX8_isSmall_17 : decode cX8_isSmall 17 = .ok (.ireturn, 1) := by decide +kernel
theorem dX8_isDigit_0 : decode cX8_isDigit 0 = .ok (.bipush 48, 2) := by decide +kernel
theorem dX8_isDigit_2 : decode cX8_isDigit 2 = .ok (.iload_n 0, 1) := by decide +kernel
theorem dX8_isDigit_3 : decode cX8_isDigit 3 = .ok (.if_icmp .gt 13, 3) := by decide +kernel
theorem dX8_isDigit_6 : decode cX8_isDigit 6 = .ok (.iload_n 0, 1) := by decide +kernel
theorem dX8_isDigit_7 : decode cX8_isDigit 7 = .ok (.bipush 57, 2) := by decide +kernel
theorem dX8_isDigit_9 : decode cX8_isDigit 9 = .ok (.if_icmp .gt 7, 3) := by decide +kernel
theorem dX8_isDigit_12 : decode cX8_isDigit 12 = .ok (.iconst 1, 1) := by decide +kernel
theorem dX8_isDigit_13 : decode cX8_isDigit 13 = .ok (.goto 4, 3) := by decide +kernel
theorem dX8_isDigit_16 : decode cX8_isDigit 16 = .ok (.iconst 0, 1) := by decide +kernel
theorem dX8_isDigit_17 : decode cX8_isDigit 17 = .ok (.ireturn, 1) := by decide +kernel
theorem dX8_wordHere_0 : decode cX8_wordHere 0 = .ok (.aload_n 0, 1) := by decide +kernel
theorem dX8_wordHere_1 : decode cX8_wordHere 1 = .ok (.ldc 79, 2) := by decide +kernel
theorem dX8_wordHere_3 : decode cX8_wordHere 3 = .ok (.invokevirtual 81, 3) := by decide +kernel
theorem dX8_wordHere_6 : decode cX8_wordHere 6 = .ok (.ifCond .eq 5, 3) := by decide +kernel
theorem dX8_wordHere_9 : decode cX8_wordHere 9 = .ok (.iconst 0, 1) := by decide +kernel
theorem dX8_wordHere_10 : decode cX8_wordHere 10 = .ok (.ireturn, 1) := by decide +kernel
theorem dX8_wordHere_11 : decode cX8_wordHere 11 = .ok (.aload_n 0, 1) := by decide +kernel
theorem dX8_wordHere_12 : decode cX8_wordHere 12 = .ok (.ldc 85, 2) := by decide +kernel
theorem dX8_wordHere_14 : decode cX8_wordHere 14 = .ok (.invokevirtual 81, 3) := by decide +kernel
theorem dX8_wordHere_17 : decode cX8_wordHere 17 = .ok (.ifCond .eq 5, 3) := by decide +kernel
theorem dX8_wordHere_20 : decode cX8_wordHere 20 = .ok (.iconst 1, 1) := by decide +kernel
theorem dX8_wordHere_21 : decode cX8_wordHere 21 = .ok (.ireturn, 1) := by decide +kernel
theorem dX8_wordHere_22 : decode cX8_wordHere 22 = .ok (.aload_n 0, 1) := by decide +kernel
theorem dX8_wordHere_23 : decode cX8_wordHere 23 = .ok (.ldc 87, 2) := by decide +kernel
theorem dX8_wordHere_25 : decode cX8_wordHere 25 = .ok (.invokevirtual 81, 3) := by decide +kernel
theorem dX8_wordHere_28 : decode cX8_wordHere 28 = .ok (.ifCond .eq 5, 3) := by decide +kernel
theorem dX8_wordHere_31 : decode cX8_wordHere 31 = .ok (.iconst 2, 1) := by decide +kernel
theorem dX8_wordHere_32 : decode cX8_wordHere 32 = .ok (.ireturn, 1) := by decide +kernel
theorem dX8_wordHere_33 : decode cX8_wordHere 33 = .ok (.aload_n 0, 1) := by decide +kernel
theorem dX8_wordHere_34 : decode cX8_wordHere 34 = .ok (.ldc 89, 2) := by decide +kernel
theorem dX8_wordHere_36 : decode cX8_wordHere 36 = .ok (.invokevirtual 81, 3) := by decide +kernel
theorem dX8_wordHere_39 : decode cX8_wordHere 39 = .ok (.ifCond .eq 5, 3) := by decide +kernel
theorem dX8_wordHere_42 : decode cX8_wordHere 42 = .ok (.iconst 3, 1) := by decide +kernel
theorem dX8_wordHere_43 : decode cX8_wordHere 43 = .ok (.ireturn, 1) := by decide +kernel
theorem dX8_wordHere_44 : decode cX8_wordHere 44 = .ok (.aload_n 0, 1) := by decide +kernel
theorem dX8_wordHere_45 : decode cX8_wordHere 45 = .ok (.ldc 91, 2) := by decide +kernel
theorem dX8_wordHere_47 : decode cX8_wordHere 47 = .ok (.invokevirtual 81, 3) := by decide +kernel
theorem dX8_wordHere_50 : decode cX8_wordHere 50 = .ok (.ifCond .eq 5, 3) := by decide +kernel
theorem dX8_wordHere_53 : decode cX8_wordHere 53 = .ok (.iconst 4, 1) := by decide +kernel
theorem dX8_wordHere_54 : decode cX8_wordHere 54 = .ok (.ireturn, 1) := by decide +kernel
theorem dX8_wordHere_55 : decode cX8_wordHere 55 = .ok (.aload_n 0, 1) := by decide +kernel
theorem dX8_wordHere_56 : decode cX8_wordHere 56 = .ok (.ldc 93, 2) := by decide +kernel
theorem dX8_wordHere_58 : decode cX8_wordHere 58 = .ok (.invokevirtual 81, 3) := by decide +kernel
theorem dX8_wordHere_61 : decode cX8_wordHere 61 = .ok (.ifCond .eq 5, 3) := by decide +kernel
theorem dX8_wordHere_64 : decode cX8_wordHere 64 = .ok (.iconst 5, 1) := by decide +kernel
theorem dX8_wordHere_65 : decode cX8_wordHere 65 = .ok (.ireturn, 1) := by decide +kernel
theorem dX8_wordHere_66 : decode cX8_wordHere 66 = .ok (.aload_n 0, 1) := by decide +kernel
theorem dX8_wordHere_67 : decode cX8_wordHere 67 = .ok (.ldc 95, 2) := by decide +kernel
theorem dX8_wordHere_69 : decode cX8_wordHere 69 = .ok (.invokevirtual 81, 3) := by decide +kernel
theorem dX8_wordHere_72 : decode cX8_wordHere 72 = .ok (.ifCond .eq 6, 3) := by decide +kernel
theorem dX8_wordHere_75 : decode cX8_wordHere 75 = .ok (.bipush 6, 2) := by decide +kernel
theorem dX8_wordHere_77 : decode cX8_wordHere 77 = .ok (.ireturn, 1) := by decide +kernel
theorem dX8_wordHere_78 : decode cX8_wordHere 78 = .ok (.aload_n 0, 1) := by decide +kernel
theorem dX8_wordHere_79 : decode cX8_wordHere 79 = .ok (.ldc 97, 2) := by decide +kernel
theorem dX8_wordHere_81 : decode cX8_wordHere 81 = .ok (.invokevirtual 81, 3) := by decide +kernel
theorem dX8_wordHere_84 : decode cX8_wordHere 84 = .ok (.ifCond .eq 6, 3) := by decide +kernel
theorem dX8_wordHere_87 : decode cX8_wordHere 87 = .ok (.bipush 7, 2) := by decide +kernel
theorem dX8_wordHere_89 : decode cX8_wordHere 89 = .ok (.ireturn, 1) := by decide +kernel
theorem dX8_wordHere_90 : decode cX8_wordHere 90 = .ok (.aload_n 0, 1) := by decide +kernel
theorem dX8_wordHere_91 : decode cX8_wordHere 91 = .ok (.ldc 99, 2) := by decide +kernel
theorem dX8_wordHere_93 : decode cX8_wordHere 93 = .ok (.invokevirtual 81, 3) := by decide +kernel
theorem dX8_wordHere_96 : decode cX8_wordHere 96 = .ok (.ifCond .eq 6, 3) := by decide +kernel
theorem dX8_wordHere_99 : decode cX8_wordHere 99 = .ok (.bipush 8, 2) := by decide +kernel
theorem dX8_wordHere_101 : decode cX8_wordHere 101 = .ok (.ireturn, 1) := by decide +kernel
theorem dX8_wordHere_102 : decode cX8_wordHere 102 = .ok (.iconst (-1), 1) := by decide +kernel
theorem dX8_wordHere_103 : decode cX8_wordHere 103 = .ok (.ireturn, 1) := by decide +kernel
theorem dX8_says_0 : decode cX8_says 0 = .ok (.aload_n 0, 1) := by decide +kernel
theorem dX8_says_1 : decode cX8_says 1 = .ok (.getfield 32, 3) := by decide +kernel
theorem dX8_says_4 : decode cX8_says 4 = .ok (.aload_n 0, 1) := by decide +kernel
theorem dX8_says_5 : decode cX8_says 5 = .ok (.getfield 39, 3) := by decide +kernel
theorem dX8_says_8 : decode cX8_says 8 = .ok (.isub, 1) := by decide +kernel
theorem dX8_says_9 : decode cX8_says 9 = .ok (.aload_n 1, 1) := by decide +kernel
theorem dX8_says_10 : decode cX8_says 10 = .ok (.invokevirtual 101, 3) := by decide +kernel
theorem dX8_says_13 : decode cX8_says 13 = .ok (.if_icmp .eq 5, 3) := by decide +kernel
theorem dX8_says_16 : decode cX8_says 16 = .ok (.iconst 0, 1) := by decide +kernel
theorem dX8_says_17 : decode cX8_says 17 = .ok (.ireturn, 1) := by decide +kernel
theorem dX8_says_18 : decode cX8_says 18 = .ok (.iconst 0, 1) := by decide +kernel
theorem dX8_says_19 : decode cX8_says 19 = .ok (.istore_n 2, 1) := by decide +kernel
theorem dX8_says_20 : decode cX8_says 20 = .ok (.iload_n 2, 1) := by decide +kernel
theorem dX8_says_21 : decode cX8_says 21 = .ok (.aload_n 1, 1) := by decide +kernel
theorem dX8_says_22 : decode cX8_says 22 = .ok (.invokevirtual 101, 3) := by decide +kernel
theorem dX8_says_25 : decode cX8_says 25 = .ok (.if_icmp .ge 30, 3) := by decide +kernel
theorem dX8_says_28 : decode cX8_says 28 = .ok (.aload_n 0, 1) := by decide +kernel
theorem dX8_says_29 : decode cX8_says 29 = .ok (.getfield 9, 3) := by decide +kernel
theorem dX8_says_32 : decode cX8_says 32 = .ok (.aload_n 0, 1) := by decide +kernel
theorem dX8_says_33 : decode cX8_says 33 = .ok (.getfield 39, 3) := by decide +kernel
theorem dX8_says_36 : decode cX8_says 36 = .ok (.iload_n 2, 1) := by decide +kernel
theorem dX8_says_37 : decode cX8_says 37 = .ok (.iadd, 1) := by decide +kernel
theorem dX8_says_38 : decode cX8_says 38 = .ok (.caload, 1) := by decide +kernel
theorem dX8_says_39 : decode cX8_says 39 = .ok (.aload_n 1, 1) := by decide +kernel
theorem dX8_says_40 : decode cX8_says 40 = .ok (.iload_n 2, 1) := by decide +kernel
theorem dX8_says_41 : decode cX8_says 41 = .ok (.invokevirtual 105, 3) := by decide +kernel
theorem dX8_says_44 : decode cX8_says 44 = .ok (.if_icmp .eq 5, 3) := by decide +kernel
theorem dX8_says_47 : decode cX8_says 47 = .ok (.iconst 0, 1) := by decide +kernel
theorem dX8_says_48 : decode cX8_says 48 = .ok (.ireturn, 1) := by decide +kernel
theorem dX8_says_49 : decode cX8_says 49 = .ok (.iinc 2 1, 3) := by decide +kernel
theorem dX8_says_52 : decode cX8_says 52 = .ok (.goto (-32), 3) := by decide +kernel
theorem dX8_says_55 : decode cX8_says 55 = .ok (.iconst 1, 1) := by decide +kernel
theorem dX8_says_56 : decode cX8_says 56 = .ok (.ireturn, 1) := by decide +kernel
theorem dX8_numberHere_0 : decode cX8_numberHere 0 = .ok (.aload_n 0, 1) := by decide +kernel
theorem dX8_numberHere_1 : decode cX8_numberHere 1 = .ok (.getfield 32, 3) := by decide +kernel
theorem dX8_numberHere_4 : decode cX8_numberHere 4 = .ok (.aload_n 0, 1) := by decide +kernel
theorem dX8_numberHere_5 : decode cX8_numberHere 5 = .ok (.getfield 39, 3) := by decide +kernel
theorem dX8_numberHere_8 : decode cX8_numberHere 8 = .ok (.isub, 1) := by decide +kernel
theorem dX8_numberHere_9 : decode cX8_numberHere 9 = .ok (.iconst 1, 1) := by decide +kernel
theorem dX8_numberHere_10 : decode cX8_numberHere 10 = .ok (.iconst 2, 1) := by decide +kernel
theorem dX8_numberHere_11 : decode cX8_numberHere 11 = .ok (.invokestatic 64, 3) := by decide +kernel
theorem dX8_numberHere_14 : decode cX8_numberHere 14 = .ok (.ifCond .ne 5, 3) := by decide +kernel
theorem dX8_numberHere_17 : decode cX8_numberHere 17 = .ok (.iconst (-1), 1) := by decide +kernel
theorem dX8_numberHere_18 : decode cX8_numberHere 18 = .ok (.ireturn, 1) := by decide +kernel
theorem dX8_numberHere_19 : decode cX8_numberHere 19 = .ok (.iconst 0, 1) := by decide +kernel
theorem dX8_numberHere_20 : decode cX8_numberHere 20 = .ok (.istore_n 1, 1) := by decide +kernel
theorem dX8_numberHere_21 : decode cX8_numberHere 21 = .ok (.aload_n 0, 1) := by decide +kernel
theorem dX8_numberHere_22 : decode cX8_numberHere 22 = .ok (.getfield 39, 3) := by decide +kernel
theorem dX8_numberHere_25 : decode cX8_numberHere 25 = .ok (.istore_n 2, 1) := by decide +kernel
theorem dX8_numberHere_26 : decode cX8_numberHere 26 = .ok (.iload_n 2, 1) := by decide +kernel
theorem dX8_numberHere_27 : decode cX8_numberHere 27 = .ok (.aload_n 0, 1) := by decide +kernel
theorem dX8_numberHere_28 : decode cX8_numberHere 28 = .ok (.getfield 32, 3) := by decide +kernel
theorem dX8_numberHere_31 : decode cX8_numberHere 31 = .ok (.if_icmp .ge 38, 3) := by decide +kernel
theorem dX8_numberHere_34 : decode cX8_numberHere 34 = .ok (.aload_n 0, 1) := by decide +kernel
theorem dX8_numberHere_35 : decode cX8_numberHere 35 = .ok (.getfield 9, 3) := by decide +kernel
theorem dX8_numberHere_38 : decode cX8_numberHere 38 = .ok (.iload_n 2, 1) := by decide +kernel
theorem dX8_numberHere_39 : decode cX8_numberHere 39 = .ok (.caload, 1) := by decide +kernel
theorem dX8_numberHere_40 : decode cX8_numberHere 40 = .ok (.invokestatic 76, 3) := by decide +kernel
theorem dX8_numberHere_43 : decode cX8_numberHere 43 = .ok (.ifCond .ne 5, 3) := by decide +kernel
theorem dX8_numberHere_46 : decode cX8_numberHere 46 = .ok (.iconst (-1), 1) := by decide +kernel
theorem dX8_numberHere_47 : decode cX8_numberHere 47 = .ok (.ireturn, 1) := by decide +kernel
theorem dX8_numberHere_48 : decode cX8_numberHere 48 = .ok (.bipush 10, 2) := by decide +kernel
theorem dX8_numberHere_50 : decode cX8_numberHere 50 = .ok (.iload_n 1, 1) := by decide +kernel
theorem dX8_numberHere_51 : decode cX8_numberHere 51 = .ok (.imul, 1) := by decide +kernel
theorem dX8_numberHere_52 : decode cX8_numberHere 52 = .ok (.aload_n 0, 1) := by decide +kernel
theorem dX8_numberHere_53 : decode cX8_numberHere 53 = .ok (.getfield 9, 3) := by decide +kernel
theorem dX8_numberHere_56 : decode cX8_numberHere 56 = .ok (.iload_n 2, 1) := by decide +kernel
theorem dX8_numberHere_57 : decode cX8_numberHere 57 = .ok (.caload, 1) := by decide +kernel
theorem dX8_numberHere_58 : decode cX8_numberHere 58 = .ok (.iadd, 1) := by decide +kernel
theorem dX8_numberHere_59 : decode cX8_numberHere 59 = .ok (.bipush 48, 2) := by decide +kernel
theorem dX8_numberHere_61 : decode cX8_numberHere 61 = .ok (.isub, 1) := by decide +kernel
theorem dX8_numberHere_62 : decode cX8_numberHere 62 = .ok (.istore_n 1, 1) := by decide +kernel
theorem dX8_numberHere_63 : decode cX8_numberHere 63 = .ok (.iinc 2 1, 3) := by decide +kernel
theorem dX8_numberHere_66 : decode cX8_numberHere 66 = .ok (.goto (-40), 3) := by decide +kernel
theorem dX8_numberHere_69 : decode cX8_numberHere 69 = .ok (.iload_n 1, 1) := by decide +kernel
theorem dX8_numberHere_70 : decode cX8_numberHere 70 = .ok (.ireturn, 1) := by decide +kernel
theorem dX9_init_0 : decode cX9_init 0 = .ok (.aload_n 0, 1) := by decide +kernel
theorem dX9_init_1 : decode cX9_init 1 = .ok (.invokespecial 3, 3) := by decide +kernel
theorem dX9_init_4 : decode cX9_init 4 = .ok (.aload_n 0, 1) := by decide +kernel
theorem dX9_init_5 : decode cX9_init 5 = .ok (.bipush 6, 2) := by decide +kernel
theorem dX9_init_7 : decode cX9_init 7 = .ok (.newarray .int, 2) := by decide +kernel
theorem dX9_init_9 : decode cX9_init 9 = .ok (.putfield 9, 3) := by decide +kernel
theorem dX9_init_12 : decode cX9_init 12 = .ok (.aload_n 0, 1) := by decide +kernel
theorem dX9_init_13 : decode cX9_init 13 = .ok (.bipush 6, 2) := by decide +kernel
theorem dX9_init_15 : decode cX9_init 15 = .ok (.newarray .int, 2) := by decide +kernel
theorem dX9_init_17 : decode cX9_init 17 = .ok (.putfield 15, 3) := by decide +kernel
theorem dX9_init_20 : decode cX9_init 20 = .ok (.aload_n 0, 1) := by decide +kernel
theorem dX9_init_21 : decode cX9_init 21 = .ok (.bipush 7, 2) := by decide +kernel
theorem dX9_init_23 : decode cX9_init 23 = .ok (.anewarray 18, 3) := by decide +kernel
theorem dX9_init_26 : decode cX9_init 26 = .ok (.putfield 20, 3) := by decide +kernel
theorem dX9_init_29 : decode cX9_init 29 = .ok (.iconst 0, 1) := by decide +kernel
theorem dX9_init_30 : decode cX9_init 30 = .ok (.istore_n 1, 1) := by decide +kernel
theorem dX9_init_31 : decode cX9_init 31 = .ok (.iload_n 1, 1) := by decide +kernel
theorem dX9_init_32 : decode cX9_init 32 = .ok (.bipush 6, 2) := by decide +kernel
theorem dX9_init_34 : decode cX9_init 34 = .ok (.if_icmp .gt 22, 3) := by decide +kernel
theorem dX9_init_37 : decode cX9_init 37 = .ok (.aload_n 0, 1) := by decide +kernel
theorem dX9_init_38 : decode cX9_init 38 = .ok (.getfield 20, 3) := by decide +kernel
theorem dX9_init_41 : decode cX9_init 41 = .ok (.iload_n 1, 1) := by decide +kernel
theorem dX9_init_42 : decode cX9_init 42 = .ok (.new 18, 3) := by decide +kernel
theorem dX9_init_45 : decode cX9_init 45 = .ok (.dup, 1) := by decide +kernel
theorem dX9_init_46 : decode cX9_init 46 = .ok (.invokespecial 24, 3) := by decide +kernel
theorem dX9_init_49 : decode cX9_init 49 = .ok (.aastore, 1) := by decide +kernel
theorem dX9_init_50 : decode cX9_init 50 = .ok (.iinc 1 1, 3) := by decide +kernel
theorem dX9_init_53 : decode cX9_init 53 = .ok (.goto (-22), 3) := by decide +kernel
theorem dX9_init_56 : decode cX9_init 56 = .ok (.return_, 1) := by decide +kernel
theorem dX9_begin_0 : decode cX9_begin 0 = .ok (.aload_n 0, 1) := by decide +kernel
theorem dX9_begin_1 : decode cX9_begin 1 = .ok (.iconst 0, 1) := by decide +kernel
theorem dX9_begin_2 : decode cX9_begin 2 = .ok (.putfield 25, 3) := by decide +kernel
theorem dX9_begin_5 : decode cX9_begin 5 = .ok (.iconst 0, 1) := by decide +kernel
theorem dX9_begin_6 : decode cX9_begin 6 = .ok (.istore 4, 2) := by decide +kernel
theorem dX9_begin_8 : decode cX9_begin 8 = .ok (.iload 4, 2) := by decide +kernel
theorem dX9_begin_10 : decode cX9_begin 10 = .ok (.bipush 6, 2) := by decide +kernel
theorem dX9_begin_12 : decode cX9_begin 12 = .ok (.if_icmp .ge 40, 3) := by decide +kernel
theorem dX9_begin_15 : decode cX9_begin 15 = .ok (.iload_n 3, 1) := by decide +kernel
theorem dX9_begin_16 : decode cX9_begin 16 = .ok (.iload 4, 2) := by decide +kernel
theorem dX9_begin_18 : decode cX9_begin 18 = .ok (.ishr, 1) := by decide +kernel
theorem dX9_begin_19 : decode cX9_begin 19 = .ok (.iconst 1, 1) := by decide +kernel
theorem dX9_begin_20 : decode cX9_begin 20 = .ok (.iand, 1) := by decide +kernel
theorem dX9_begin_21 : decode cX9_begin 21 = .ok (.iconst 1, 1) := by decide +kernel
theorem dX9_begin_22 : decode cX9_begin 22 = .ok (.if_icmp .ne 24, 3) := by decide +kernel
theorem dX9_begin_25 : decode cX9_begin 25 = .ok (.aload_n 0, 1) := by decide +kernel
theorem dX9_begin_26 : decode cX9_begin 26 = .ok (.getfield 9, 3) := by decide +kernel
theorem dX9_begin_29 : decode cX9_begin 29 = .ok (.aload_n 0, 1) := by decide +kernel
theorem dX9_begin_30 : decode cX9_begin 30 = .ok (.getfield 25, 3) := by decide +kernel
theorem dX9_begin_33 : decode cX9_begin 33 = .ok (.iload 4, 2) := by decide +kernel
theorem dX9_begin_35 : decode cX9_begin 35 = .ok (.iastore, 1) := by decide +kernel
theorem dX9_begin_36 : decode cX9_begin 36 = .ok (.aload_n 0, 1) := by decide +kernel
theorem dX9_begin_37 : decode cX9_begin 37 = .ok (.dup, 1) := by decide +kernel
theorem dX9_begin_38 : decode cX9_begin 38 = .ok (.getfield 25, 3) := by decide +kernel
theorem dX9_begin_41 : decode cX9_begin 41 = .ok (.iconst 1, 1) := by decide +kernel
theorem dX9_begin_42 : decode cX9_begin 42 = .ok (.iadd, 1) := by decide +kernel
theorem dX9_begin_43 : decode cX9_begin 43 = .ok (.putfield 25, 3) := by decide +kernel
theorem dX9_begin_46 : decode cX9_begin 46 = .ok (.iinc 4 1, 3) := by decide +kernel
theorem dX9_begin_49 : decode cX9_begin 49 = .ok (.goto (-41), 3) := by decide +kernel
theorem dX9_begin_52 : decode cX9_begin 52 = .ok (.aload_n 0, 1) := by decide +kernel
theorem dX9_begin_53 : decode cX9_begin 53 = .ok (.getfield 20, 3) := by decide +kernel
theorem dX9_begin_56 : decode cX9_begin 56 = .ok (.iconst 0, 1) := by decide +kernel
theorem dX9_begin_57 : decode cX9_begin 57 = .ok (.aaload, 1) := by decide +kernel
theorem dX9_begin_58 : decode cX9_begin 58 = .ok (.aload_n 2, 1) := by decide +kernel
theorem dX9_begin_59 : decode cX9_begin 59 = .ok (.invokevirtual 29, 3) := by decide +kernel
theorem dX9_begin_62 : decode cX9_begin 62 = .ok (.aload_n 0, 1) := by decide +kernel
theorem dX9_begin_63 : decode cX9_begin 63 = .ok (.aload_n 1, 1) := by decide +kernel
theorem dX9_begin_64 : decode cX9_begin 64 = .ok (.iconst 0, 1) := by decide +kernel
theorem dX9_begin_65 : decode cX9_begin 65 = .ok (.invokevirtual 33, 3) := by decide +kernel
theorem dX9_begin_68 : decode cX9_begin 68 = .ok (.iconst 1, 1) := by decide +kernel
theorem dX9_begin_69 : decode cX9_begin 69 = .ok (.ireturn, 1) := by decide +kernel
theorem dX9_next_0 : decode cX9_next 0 = .ok (.aload_n 0, 1) := by decide +kernel
theorem dX9_next_1 : decode cX9_next 1 = .ok (.getfield 25, 3) := by decide +kernel
theorem dX9_next_4 : decode cX9_next 4 = .ok (.iconst 2, 1) := by decide +kernel
theorem dX9_next_5 : decode cX9_next 5 = .ok (.isub, 1) := by decide +kernel
theorem dX9_next_6 : decode cX9_next 6 = .ok (.istore_n 2, 1) := by decide +kernel
theorem dX9_next_7 : decode cX9_next 7 = .ok (.iload_n 2, 1) := by decide +kernel
theorem dX9_next_8 : decode cX9_next 8 = .ok (.ifCond .lt 26, 3) := by decide +kernel
theorem dX9_next_11 : decode cX9_next 11 = .ok (.aload_n 0, 1) := by decide +kernel
theorem dX9_next_12 : decode cX9_next 12 = .ok (.getfield 9, 3) := by decide +kernel
theorem dX9_next_15 : decode cX9_next 15 = .ok (.iload_n 2, 1) := by decide +kernel
theorem dX9_next_16 : decode cX9_next 16 = .ok (.iaload, 1) := by decide +kernel
theorem dX9_next_17 : decode cX9_next 17 = .ok (.aload_n 0, 1) := by decide +kernel
theorem dX9_next_18 : decode cX9_next 18 = .ok (.getfield 9, 3) := by decide +kernel
theorem dX9_next_21 : decode cX9_next 21 = .ok (.iload_n 2, 1) := by decide +kernel
theorem dX9_next_22 : decode cX9_next 22 = .ok (.iconst 1, 1) := by decide +kernel
theorem dX9_next_23 : decode cX9_next 23 = .ok (.iadd, 1) := by decide +kernel
theorem dX9_next_24 : decode cX9_next 24 = .ok (.iaload, 1) := by decide +kernel
theorem dX9_next_25 : decode cX9_next 25 = .ok (.if_icmp .le 9, 3) := by decide +kernel
theorem dX9_next_28 : decode cX9_next 28 = .ok (.iinc 2 (-1), 3) := by decide +kernel
theorem dX9_next_31 : decode cX9_next 31 = .ok (.goto (-24), 3) := by decide +kernel
theorem dX9_next_34 : decode cX9_next 34 = .ok (.iload_n 2, 1) := by decide +kernel
theorem dX9_next_35 : decode cX9_next 35 = .ok (.ifCond .ge 5, 3) := by decide +kernel
theorem dX9_next_38 : decode cX9_next 38 = .ok (.iconst 0, 1) := by decide +kernel
theorem dX9_next_39 : decode cX9_next 39 = .ok (.ireturn, 1) := by decide +kernel
theorem dX9_next_40 : decode cX9_next 40 = .ok (.aload_n 0, 1) := by decide +kernel
theorem dX9_next_41 : decode cX9_next 41 = .ok (.getfield 25, 3) := by decide +kernel
theorem dX9_next_44 : decode cX9_next 44 = .ok (.iconst 1, 1) := by decide +kernel
theorem dX9_next_45 : decode cX9_next 45 = .ok (.isub, 1) := by decide +kernel
theorem dX9_next_46 : decode cX9_next 46 = .ok (.istore_n 3, 1) := by decide +kernel
theorem dX9_next_47 : decode cX9_next 47 = .ok (.iload_n 3, 1) := by decide +kernel
theorem dX9_next_48 : decode cX9_next 48 = .ok (.iload_n 2, 1) := by decide +kernel
theorem dX9_next_49 : decode cX9_next 49 = .ok (.iconst 1, 1) := by decide +kernel
theorem dX9_next_50 : decode cX9_next 50 = .ok (.iadd, 1) := by decide +kernel
theorem dX9_next_51 : decode cX9_next 51 = .ok (.if_icmp .le 24, 3) := by decide +kernel
theorem dX9_next_54 : decode cX9_next 54 = .ok (.aload_n 0, 1) := by decide +kernel
theorem dX9_next_55 : decode cX9_next 55 = .ok (.getfield 9, 3) := by decide +kernel
theorem dX9_next_58 : decode cX9_next 58 = .ok (.iload_n 3, 1) := by decide +kernel
theorem dX9_next_59 : decode cX9_next 59 = .ok (.iaload, 1) := by decide +kernel
theorem dX9_next_60 : decode cX9_next 60 = .ok (.aload_n 0, 1) := by decide +kernel
theorem dX9_next_61 : decode cX9_next 61 = .ok (.getfield 9, 3) := by decide +kernel
theorem dX9_next_64 : decode cX9_next 64 = .ok (.iload_n 2, 1) := by decide +kernel
theorem dX9_next_65 : decode cX9_next 65 = .ok (.iaload, 1) := by decide +kernel
theorem dX9_next_66 : decode cX9_next 66 = .ok (.if_icmp .ge 9, 3) := by decide +kernel
theorem dX9_next_69 : decode cX9_next 69 = .ok (.iinc 3 (-1), 3) := by decide +kernel
theorem dX9_next_72 : decode cX9_next 72 = .ok (.goto (-25), 3) := by decide +kernel
theorem dX9_next_75 : decode cX9_next 75 = .ok (.aload_n 0, 1) := by decide +kernel
theorem dX9_next_76 : decode cX9_next 76 = .ok (.iload_n 2, 1) := by decide +kernel
theorem dX9_next_77 : decode cX9_next 77 = .ok (.iload_n 3, 1) := by decide +kernel
theorem dX9_next_78 : decode cX9_next 78 = .ok (.invokevirtual 37, 3) := by decide +kernel
theorem dX9_next_81 : decode cX9_next 81 = .ok (.iload_n 2, 1) := by decide +kernel
theorem dX9_next_82 : decode cX9_next 82 = .ok (.iconst 1, 1) := by decide +kernel
theorem dX9_next_83 : decode cX9_next 83 = .ok (.iadd, 1) := by decide +kernel
theorem dX9_next_84 : decode cX9_next 84 = .ok (.istore 4, 2) := by decide +kernel
theorem dX9_next_86 : decode cX9_next 86 = .ok (.aload_n 0, 1) := by decide +kernel
theorem dX9_next_87 : decode cX9_next 87 = .ok (.getfield 25, 3) := by decide +kernel
theorem dX9_next_90 : decode cX9_next 90 = .ok (.iconst 1, 1) := by decide +kernel
theorem dX9_next_91 : decode cX9_next 91 = .ok (.isub, 1) := by decide +kernel
theorem dX9_next_92 : decode cX9_next 92 = .ok (.istore 5, 2) := by decide +kernel
theorem dX9_next_94 : decode cX9_next 94 = .ok (.iload 4, 2) := by decide +kernel
theorem dX9_next_96 : decode cX9_next 96 = .ok (.iload 5, 2) := by decide +kernel
theorem dX9_next_98 : decode cX9_next 98 = .ok (.if_icmp .ge 20, 3) := by decide +kernel
theorem dX9_next_101 : decode cX9_next 101 = .ok (.aload_n 0, 1) := by decide +kernel
theorem dX9_next_102 : decode cX9_next 102 = .ok (.iload 4, 2) := by decide +kernel
theorem dX9_next_104 : decode cX9_next 104 = .ok (.iload 5, 2) := by decide +kernel
theorem dX9_next_106 : decode cX9_next 106 = .ok (.invokevirtual 37, 3) := by decide +kernel
theorem dX9_next_109 : decode cX9_next 109 = .ok (.iinc 4 1, 3) := by decide +kernel
theorem dX9_next_112 : decode cX9_next 112 = .ok (.iinc 5 (-1), 3) := by decide +kernel
theorem dX9_next_115 : decode cX9_next 115 = .ok (.goto (-21), 3) := by decide +kernel
theorem dX9_next_118 : decode cX9_next 118 = .ok (.aload_n 0, 1) := by decide +kernel
theorem dX9_next_119 : decode cX9_next 119 = .ok (.aload_n 1, 1) := by decide +kernel
theorem dX9_next_120 : decode cX9_next 120 = .ok (.iload_n 2, 1) := by decide +kernel
theorem dX9_next_121 : decode cX9_next 121 = .ok (.invokevirtual 33, 3) := by decide +kernel
theorem dX9_next_124 : decode cX9_next 124 = .ok (.iconst 1, 1) := by decide +kernel
theorem dX9_next_125 : decode cX9_next 125 = .ok (.ireturn, 1) := by decide +kernel
theorem dX9_exchange_0 : decode cX9_exchange 0 = .ok (.aload_n 0, 1) := by decide +kernel
theorem dX9_exchange_1 : decode cX9_exchange 1 = .ok (.getfield 9, 3) := by decide +kernel
theorem dX9_exchange_4 : decode cX9_exchange 4 = .ok (.iload_n 1, 1) := by decide +kernel
theorem dX9_exchange_5 : decode cX9_exchange 5 = .ok (.iaload, 1) := by decide +kernel
theorem dX9_exchange_6 : decode cX9_exchange 6 = .ok (.istore_n 3, 1) := by decide +kernel
theorem dX9_exchange_7 : decode cX9_exchange 7 = .ok (.aload_n 0, 1) := by decide +kernel
theorem dX9_exchange_8 : decode cX9_exchange 8 = .ok (.getfield 9, 3) := by decide +kernel
theorem dX9_exchange_11 : decode cX9_exchange 11 = .ok (.iload_n 1, 1) := by decide +kernel
theorem dX9_exchange_12 : decode cX9_exchange 12 = .ok (.aload_n 0, 1) := by decide +kernel
theorem dX9_exchange_13 : decode cX9_exchange 13 = .ok (.getfield 9, 3) := by decide +kernel
theorem dX9_exchange_16 : decode cX9_exchange 16 = .ok (.iload_n 2, 1) := by decide +kernel
theorem dX9_exchange_17 : decode cX9_exchange 17 = .ok (.iaload, 1) := by decide +kernel
theorem dX9_exchange_18 : decode cX9_exchange 18 = .ok (.iastore, 1) := by decide +kernel
theorem dX9_exchange_19 : decode cX9_exchange 19 = .ok (.aload_n 0, 1) := by decide +kernel
theorem dX9_exchange_20 : decode cX9_exchange 20 = .ok (.getfield 9, 3) := by decide +kernel
theorem dX9_exchange_23 : decode cX9_exchange 23 = .ok (.iload_n 2, 1) := by decide +kernel
theorem dX9_exchange_24 : decode cX9_exchange 24 = .ok (.iload_n 3, 1) := by decide +kernel
theorem dX9_exchange_25 : decode cX9_exchange 25 = .ok (.iastore, 1) := by decide +kernel
theorem dX9_exchange_26 : decode cX9_exchange 26 = .ok (.return_, 1) := by decide +kernel
theorem dX9_goFrom_0 : decode cX9_goFrom 0 = .ok (.iload_n 2, 1) := by decide +kernel
theorem dX9_goFrom_1 : decode cX9_goFrom 1 = .ok (.istore_n 3, 1) := by decide +kernel
theorem dX9_goFrom_2 : decode cX9_goFrom 2 = .ok (.iload_n 3, 1) := by decide +kernel
theorem dX9_goFrom_3 : decode cX9_goFrom 3 = .ok (.aload_n 0, 1) := by decide +kernel
theorem dX9_goFrom_4 : decode cX9_goFrom 4 = .ok (.getfield 25, 3) := by decide +kernel
theorem dX9_goFrom_7 : decode cX9_goFrom 7 = .ok (.if_icmp .ge 50, 3) := by decide +kernel
theorem dX9_goFrom_10 : decode cX9_goFrom 10 = .ok (.aload_n 0, 1) := by decide +kernel
theorem dX9_goFrom_11 : decode cX9_goFrom 11 = .ok (.getfield 20, 3) := by decide +kernel
theorem dX9_goFrom_14 : decode cX9_goFrom 14 = .ok (.iload_n 3, 1) := by decide +kernel
theorem dX9_goFrom_15 : decode cX9_goFrom 15 = .ok (.iconst 1, 1) := by decide +kernel
theorem dX9_goFrom_16 : decode cX9_goFrom 16 = .ok (.iadd, 1) := by decide +kernel
theorem dX9_goFrom_17 : decode cX9_goFrom 17 = .ok (.aaload, 1) := by decide +kernel
theorem dX9_goFrom_18 : decode cX9_goFrom 18 = .ok (.aload_n 0, 1) := by decide +kernel
theorem dX9_goFrom_19 : decode cX9_goFrom 19 = .ok (.getfield 20, 3) := by decide +kernel
theorem dX9_goFrom_22 : decode cX9_goFrom 22 = .ok (.iload_n 3, 1) := by decide +kernel
theorem dX9_goFrom_23 : decode cX9_goFrom 23 = .ok (.aaload, 1) := by decide +kernel
theorem dX9_goFrom_24 : decode cX9_goFrom 24 = .ok (.invokevirtual 29, 3) := by decide +kernel
theorem dX9_goFrom_27 : decode cX9_goFrom 27 = .ok (.aload_n 0, 1) := by decide +kernel
theorem dX9_goFrom_28 : decode cX9_goFrom 28 = .ok (.getfield 15, 3) := by decide +kernel
theorem dX9_goFrom_31 : decode cX9_goFrom 31 = .ok (.iload_n 3, 1) := by decide +kernel
theorem dX9_goFrom_32 : decode cX9_goFrom 32 = .ok (.aload_n 0, 1) := by decide +kernel
theorem dX9_goFrom_33 : decode cX9_goFrom 33 = .ok (.getfield 20, 3) := by decide +kernel
theorem dX9_goFrom_36 : decode cX9_goFrom 36 = .ok (.iload_n 3, 1) := by decide +kernel
theorem dX9_goFrom_37 : decode cX9_goFrom 37 = .ok (.iconst 1, 1) := by decide +kernel
theorem dX9_goFrom_38 : decode cX9_goFrom 38 = .ok (.iadd, 1) := by decide +kernel
theorem dX9_goFrom_39 : decode cX9_goFrom 39 = .ok (.aaload, 1) := by decide +kernel
theorem dX9_goFrom_40 : decode cX9_goFrom 40 = .ok (.aload_n 1, 1) := by decide +kernel
theorem dX9_goFrom_41 : decode cX9_goFrom 41 = .ok (.aload_n 0, 1) := by decide +kernel
theorem dX9_goFrom_42 : decode cX9_goFrom 42 = .ok (.getfield 9, 3) := by decide +kernel
theorem dX9_goFrom_45 : decode cX9_goFrom 45 = .ok (.iload_n 3, 1) := by decide +kernel
theorem dX9_goFrom_46 : decode cX9_goFrom 46 = .ok (.iaload, 1) := by decide +kernel
theorem dX9_goFrom_47 : decode cX9_goFrom 47 = .ok (.invokevirtual 41, 3) := by decide +kernel
theorem dX9_goFrom_50 : decode cX9_goFrom 50 = .ok (.iastore, 1) := by decide +kernel
theorem dX9_goFrom_51 : decode cX9_goFrom 51 = .ok (.iinc 3 1, 3) := by decide +kernel
theorem dX9_goFrom_54 : decode cX9_goFrom 54 = .ok (.goto (-52), 3) := by decide +kernel
theorem dX9_goFrom_57 : decode cX9_goFrom 57 = .ok (.return_, 1) := by decide +kernel
theorem dX9_end_0 : decode cX9_end 0 = .ok (.aload_n 0, 1) := by decide +kernel
theorem dX9_end_1 : decode cX9_end 1 = .ok (.getfield 20, 3) := by decide +kernel
theorem dX9_end_4 : decode cX9_end 4 = .ok (.aload_n 0, 1) := by decide +kernel
theorem dX9_end_5 : decode cX9_end 5 = .ok (.getfield 25, 3) := by decide +kernel
theorem dX9_end_8 : decode cX9_end 8 = .ok (.aaload, 1) := by decide +kernel
theorem dX9_end_9 : decode cX9_end 9 = .ok (.areturn, 1) := by decide +kernel
theorem dX9_isEach_0 : decode cX9_isEach 0 = .ok (.iconst 0, 1) := by decide +kernel
theorem dX9_isEach_1 : decode cX9_isEach 1 = .ok (.istore_n 2, 1) := by decide +kernel
theorem dX9_isEach_2 : decode cX9_isEach 2 = .ok (.iload_n 2, 1) := by decide +kernel
theorem dX9_isEach_3 : decode cX9_isEach 3 = .ok (.aload_n 0, 1) := by decide +kernel
theorem dX9_isEach_4 : decode cX9_isEach 4 = .ok (.getfield 25, 3) := by decide +kernel
theorem dX9_isEach_7 : decode cX9_isEach 7 = .ok (.if_icmp .ge 21, 3) := by decide +kernel
theorem dX9_isEach_10 : decode cX9_isEach 10 = .ok (.aload_n 0, 1) := by decide +kernel
theorem dX9_isEach_11 : decode cX9_isEach 11 = .ok (.getfield 15, 3) := by decide +kernel
theorem dX9_isEach_14 : decode cX9_isEach 14 = .ok (.iload_n 2, 1) := by decide +kernel
theorem dX9_isEach_15 : decode cX9_isEach 15 = .ok (.iaload, 1) := by decide +kernel
theorem dX9_isEach_16 : decode cX9_isEach 16 = .ok (.iload_n 1, 1) := by decide +kernel
theorem dX9_isEach_17 : decode cX9_isEach 17 = .ok (.if_icmp .ge 5, 3) := by decide +kernel
theorem dX9_isEach_20 : decode cX9_isEach 20 = .ok (.iconst 0, 1) := by decide +kernel
theorem dX9_isEach_21 : decode cX9_isEach 21 = .ok (.ireturn, 1) := by decide +kernel
theorem dX9_isEach_22 : decode cX9_isEach 22 = .ok (.iinc 2 1, 3) := by decide +kernel
theorem dX9_isEach_25 : decode cX9_isEach 25 = .ok (.goto (-23), 3) := by decide +kernel
theorem dX9_isEach_28 : decode cX9_isEach 28 = .ok (.iconst 1, 1) := by decide +kernel
theorem dX9_isEach_29 : decode cX9_isEach 29 = .ok (.ireturn, 1) := by decide +kernel
theorem dX9_shopAt_0 : decode cX9_shopAt 0 = .ok (.iload_n 1, 1) := by decide +kernel
theorem dX9_shopAt_1 : decode cX9_shopAt 1 = .ok (.iconst 0, 1) := by decide +kernel
theorem dX9_shopAt_2 : decode cX9_shopAt 2 = .ok (.aload_n 0, 1) := by decide +kernel
theorem dX9_shopAt_3 : decode cX9_shopAt 3 = .ok (.getfield 25, 3) := by decide +kernel
theorem dX9_shopAt_6 : decode cX9_shopAt 6 = .ok (.iconst 1, 1) := by decide +kernel
theorem dX9_shopAt_7 : decode cX9_shopAt 7 = .ok (.isub, 1) := by decide +kernel
theorem dX9_shopAt_8 : decode cX9_shopAt 8 = .ok (.invokestatic 45, 3) := by decide +kernel
theorem dX9_shopAt_11 : decode cX9_shopAt 11 = .ok (.ifCond .eq 12, 3) := by decide +kernel
theorem dX9_shopAt_14 : decode cX9_shopAt 14 = .ok (.aload_n 0, 1) := by decide +kernel
theorem dX9_shopAt_15 : decode cX9_shopAt 15 = .ok (.getfield 9, 3) := by decide +kernel
theorem dX9_shopAt_18 : decode cX9_shopAt 18 = .ok (.iload_n 1, 1) := by decide +kernel
theorem dX9_shopAt_19 : decode cX9_shopAt 19 = .ok (.iaload, 1) := by decide +kernel
theorem dX9_shopAt_20 : decode cX9_shopAt 20 = .ok (.goto 4, 3) := by decide +kernel
theorem dX9_shopAt_23 : decode cX9_shopAt 23 = .ok (.iconst (-1), 1) := by decide +kernel
theorem dX9_shopAt_24 : decode cX9_shopAt 24 = .ok (.ireturn, 1) := by decide +kernel
theorem dX9_smeltAt_0 : decode cX9_smeltAt 0 = .ok (.iconst 0, 1) := by decide +kernel
theorem dX9_smeltAt_1 : decode cX9_smeltAt 1 = .ok (.istore_n 2, 1) := by decide +kernel
theorem dX9_smeltAt_2 : decode cX9_smeltAt 2 = .ok (.iload_n 2, 1) := by decide +kernel
theorem dX9_smeltAt_3 : decode cX9_smeltAt 3 = .ok (.aload_n 0, 1) := by decide +kernel
theorem dX9_smeltAt_4 : decode cX9_smeltAt 4 = .ok (.getfield 25, 3) := by decide +kernel
theorem dX9_smeltAt_7 : decode cX9_smeltAt 7 = .ok (.if_icmp .ge 26, 3) := by decide +kernel
theorem dX9_smeltAt_10 : decode cX9_smeltAt 10 = .ok (.aload_n 0, 1) := by decide +kernel
theorem dX9_smeltAt_11 : decode cX9_smeltAt 11 = .ok (.getfield 9, 3) := by decide +kernel
theorem dX9_smeltAt_14 : decode cX9_smeltAt 14 = .ok (.iload_n 2, 1) := by decide +kernel
theorem dX9_smeltAt_15 : decode cX9_smeltAt 15 = .ok (.iaload, 1) := by decide +kernel
theorem dX9_smeltAt_16 : decode cX9_smeltAt 16 = .ok (.iload_n 1, 1) := by decide +kernel
theorem dX9_smeltAt_17 : decode cX9_smeltAt 17 = .ok (.if_icmp .ne 10, 3) := by decide +kernel
theorem dX9_smeltAt_20 : decode cX9_smeltAt 20 = .ok (.aload_n 0, 1) := by decide +kernel
theorem dX9_smeltAt_21 : decode cX9_smeltAt 21 = .ok (.getfield 15, 3) := by decide +kernel
theorem dX9_smeltAt_24 : decode cX9_smeltAt 24 = .ok (.iload_n 2, 1) := by decide +kernel
theorem dX9_smeltAt_25 : decode cX9_smeltAt 25 = .ok (.iaload, 1) := by decide +kernel
theorem dX9_smeltAt_26 : decode cX9_smeltAt 26 = .ok (.ireturn, 1) := by decide +kernel
theorem dX9_smeltAt_27 : decode cX9_smeltAt 27 = .ok (.iinc 2 1, 3) := by decide +kernel
theorem dX9_smeltAt_30 : decode cX9_smeltAt 30 = .ok (.goto (-28), 3) := by decide +kernel
theorem dX9_smeltAt_33 : decode cX9_smeltAt 33 = .ok (.iconst (-1), 1) := by decide +kernel
theorem dX9_smeltAt_34 : decode cX9_smeltAt 34 = .ok (.ireturn, 1) := by decide +kernel
theorem dX10_init_0 : decode cX10_init 0 = .ok (.aload_n 0, 1) := by decide +kernel
theorem dX10_init_1 : decode cX10_init 1 = .ok (.invokespecial 1, 3) := by decide +kernel
theorem dX10_init_4 : decode cX10_init 4 = .ok (.aload_n 0, 1) := by decide +kernel
theorem dX10_init_5 : decode cX10_init 5 = .ok (.new 7, 3) := by decide +kernel
theorem dX10_init_8 : decode cX10_init 8 = .ok (.dup, 1) := by decide +kernel
theorem dX10_init_9 : decode cX10_init 9 = .ok (.invokespecial 9, 3) := by decide +kernel
theorem dX10_init_12 : decode cX10_init 12 = .ok (.putfield 10, 3) := by decide +kernel
theorem dX10_init_15 : decode cX10_init 15 = .ok (.aload_n 0, 1) := by decide +kernel
theorem dX10_init_16 : decode cX10_init 16 = .ok (.new 16, 3) := by decide +kernel
theorem dX10_init_19 : decode cX10_init 19 = .ok (.dup, 1) := by decide +kernel
theorem dX10_init_20 : decode cX10_init 20 = .ok (.invokespecial 18, 3) := by decide +kernel
theorem dX10_init_23 : decode cX10_init 23 = .ok (.putfield 19, 3) := by decide +kernel
theorem dX10_init_26 : decode cX10_init 26 = .ok (.aload_n 0, 1) := by decide +kernel
theorem dX10_init_27 : decode cX10_init 27 = .ok (.new 23, 3) := by decide +kernel
theorem dX10_init_30 : decode cX10_init 30 = .ok (.dup, 1) := by decide +kernel
theorem dX10_init_31 : decode cX10_init 31 = .ok (.invokespecial 25, 3) := by decide +kernel
theorem dX10_init_34 : decode cX10_init 34 = .ok (.putfield 26, 3) := by decide +kernel
theorem dX10_init_37 : decode cX10_init 37 = .ok (.aload_n 0, 1) := by decide +kernel
theorem dX10_init_38 : decode cX10_init 38 = .ok (.new 30, 3) := by decide +kernel
theorem dX10_init_41 : decode cX10_init 41 = .ok (.dup, 1) := by decide +kernel
theorem dX10_init_42 : decode cX10_init 42 = .ok (.invokespecial 32, 3) := by decide +kernel
theorem dX10_init_45 : decode cX10_init 45 = .ok (.putfield 33, 3) := by decide +kernel
theorem dX10_init_48 : decode cX10_init 48 = .ok (.aload_n 0, 1) := by decide +kernel
theorem dX10_init_49 : decode cX10_init 49 = .ok (.bipush 8, 2) := by decide +kernel
theorem dX10_init_51 : decode cX10_init 51 = .ok (.anewarray 23, 3) := by decide +kernel
theorem dX10_init_54 : decode cX10_init 54 = .ok (.putfield 37, 3) := by decide +kernel
theorem dX10_init_57 : decode cX10_init 57 = .ok (.aload_n 0, 1) := by decide +kernel
theorem dX10_init_58 : decode cX10_init 58 = .ok (.iconst 2, 1) := by decide +kernel
theorem dX10_init_59 : decode cX10_init 59 = .ok (.anewarray 23, 3) := by decide +kernel
theorem dX10_init_62 : decode cX10_init 62 = .ok (.putfield 41, 3) := by decide +kernel
theorem dX10_init_65 : decode cX10_init 65 = .ok (.aload_n 0, 1) := by decide +kernel
theorem dX10_init_66 : decode cX10_init 66 = .ok (.iconst 2, 1) := by decide +kernel
theorem dX10_init_67 : decode cX10_init 67 = .ok (.newarray .boolean, 2) := by decide +kernel
theorem dX10_init_69 : decode cX10_init 69 = .ok (.putfield 44, 3) := by decide +kernel
theorem dX10_init_72 : decode cX10_init 72 = .ok (.aload_n 0, 1) := by decide +kernel
theorem dX10_init_73 : decode cX10_init 73 = .ok (.new 23, 3) := by decide +kernel
theorem dX10_init_76 : decode cX10_init 76 = .ok (.dup, 1) := by decide +kernel
theorem dX10_init_77 : decode cX10_init 77 = .ok (.invokespecial 25, 3) := by decide +kernel
theorem dX10_init_80 : decode cX10_init 80 = .ok (.putfield 48, 3) := by decide +kernel
theorem dX10_init_83 : decode cX10_init 83 = .ok (.aload_n 0, 1) := by decide +kernel
theorem dX10_init_84 : decode cX10_init 84 = .ok (.new 51, 3) := by decide +kernel
theorem dX10_init_87 : decode cX10_init 87 = .ok (.dup, 1) := by decide +kernel
theorem dX10_init_88 : decode cX10_init 88 = .ok (.invokespecial 53, 3) := by decide +kernel
theorem dX10_init_91 : decode cX10_init 91 = .ok (.putfield 54, 3) := by decide +kernel
theorem dX10_init_94 : decode cX10_init 94 = .ok (.aload_n 0, 1) := by decide +kernel
theorem dX10_init_95 : decode cX10_init 95 = .ok (.bipush 6, 2) := by decide +kernel
theorem dX10_init_97 : decode cX10_init 97 = .ok (.newarray .int, 2) := by decide +kernel
theorem dX10_init_99 : decode cX10_init 99 = .ok (.putfield 58, 3) := by decide +kernel
theorem dX10_init_102 : decode cX10_init 102 = .ok (.aload_n 0, 1) := by decide +kernel
theorem dX10_init_103 : decode cX10_init 103 = .ok (.new 62, 3) := by decide +kernel
theorem dX10_init_106 : decode cX10_init 106 = .ok (.dup, 1) := by decide +kernel
theorem dX10_init_107 : decode cX10_init 107 = .ok (.iconst 0, 1) := by decide +kernel
theorem dX10_init_108 : decode cX10_init 108 = .ok (.iconst 1, 1) := by decide +kernel
theorem dX10_init_109 : decode cX10_init 109 = .ok (.iconst 0, 1) := by decide +kernel
theorem dX10_init_110 : decode cX10_init 110 = .ok (.invokespecial 64, 3) := by decide +kernel
theorem dX10_init_113 : decode cX10_init 113 = .ok (.putfield 67, 3) := by decide +kernel
theorem dX10_init_116 : decode cX10_init 116 = .ok (.aload_n 0, 1) := by decide +kernel
theorem dX10_init_117 : decode cX10_init 117 = .ok (.bipush 6, 2) := by decide +kernel
theorem dX10_init_119 : decode cX10_init 119 = .ok (.newarray .int, 2) := by decide +kernel
theorem dX10_init_121 : decode cX10_init 121 = .ok (.putfield 71, 3) := by decide +kernel
theorem dX10_init_124 : decode cX10_init 124 = .ok (.iconst 0, 1) := by decide +kernel
theorem dX10_init_125 : decode cX10_init 125 = .ok (.istore_n 1, 1) := by decide +kernel
theorem dX10_init_126 : decode cX10_init 126 = .ok (.iload_n 1, 1) := by decide +kernel
theorem dX10_init_127 : decode cX10_init 127 = .ok (.bipush 8, 2) := by decide +kernel
theorem dX10_init_129 : decode cX10_init 129 = .ok (.if_icmp .ge 22, 3) := by decide +kernel
theorem dX10_init_132 : decode cX10_init 132 = .ok (.aload_n 0, 1) := by decide +kernel
theorem dX10_init_133 : decode cX10_init 133 = .ok (.getfield 37, 3) := by decide +kernel
theorem dX10_init_136 : decode cX10_init 136 = .ok (.iload_n 1, 1) := by decide +kernel
theorem dX10_init_137 : decode cX10_init 137 = .ok (.new 23, 3) := by decide +kernel
theorem dX10_init_140 : decode cX10_init 140 = .ok (.dup, 1) := by decide +kernel
theorem dX10_init_141 : decode cX10_init 141 = .ok (.invokespecial 25, 3) := by decide +kernel
theorem dX10_init_144 : decode cX10_init 144 = .ok (.aastore, 1) := by decide +kernel
theorem dX10_init_145 : decode cX10_init 145 = .ok (.iinc 1 1, 3) := by decide +kernel
theorem dX10_init_148 : decode cX10_init 148 = .ok (.goto (-22), 3) := by decide +kernel
theorem dX10_init_151 : decode cX10_init 151 = .ok (.iconst 0, 1) := by decide +kernel
theorem dX10_init_152 : decode cX10_init 152 = .ok (.istore_n 1, 1) := by decide +kernel
theorem dX10_init_153 : decode cX10_init 153 = .ok (.iload_n 1, 1) := by decide +kernel
theorem dX10_init_154 : decode cX10_init 154 = .ok (.iconst 2, 1) := by decide +kernel
theorem dX10_init_155 : decode cX10_init 155 = .ok (.if_icmp .ge 22, 3) := by decide +kernel
theorem dX10_init_158 : decode cX10_init 158 = .ok (.aload_n 0, 1) := by decide +kernel
theorem dX10_init_159 : decode cX10_init 159 = .ok (.getfield 41, 3) := by decide +kernel
theorem dX10_init_162 : decode cX10_init 162 = .ok (.iload_n 1, 1) := by decide +kernel
theorem dX10_init_163 : decode cX10_init 163 = .ok (.new 23, 3) := by decide +kernel
theorem dX10_init_166 : decode cX10_init 166 = .ok (.dup, 1) := by decide +kernel
theorem dX10_init_167 : decode cX10_init 167 = .ok (.invokespecial 25, 3) := by decide +kernel
theorem dX10_init_170 : decode cX10_init 170 = .ok (.aastore, 1) := by decide +kernel
theorem dX10_init_171 : decode cX10_init 171 = .ok (.iinc 1 1, 3) := by decide +kernel
theorem dX10_init_174 : decode cX10_init 174 = .ok (.goto (-21), 3) := by decide +kernel
theorem dX10_init_177 : decode cX10_init 177 = .ok (.aload_n 0, 1) := by decide +kernel
theorem dX10_init_178 : decode cX10_init 178 = .ok (.getfield 26, 3) := by decide +kernel
theorem dX10_init_181 : decode cX10_init 181 = .ok (.bipush 60, 2) := by decide +kernel
theorem dX10_init_183 : decode cX10_init 183 = .ok (.putfield 74, 3) := by decide +kernel
theorem dX10_init_186 : decode cX10_init 186 = .ok (.return_, 1) := by decide +kernel
theorem dX10_write_0 : decode cX10_write 0 = .ok (.iload_n 1, 1) := by decide +kernel
theorem dX10_write_1 : decode cX10_write 1 = .ok (.iconst 0, 1) := by decide +kernel
theorem dX10_write_2 : decode cX10_write 2 = .ok (.sipush 255, 3) := by decide +kernel
theorem dX10_write_5 : decode cX10_write 5 = .ok (.invokestatic 78, 3) := by decide +kernel
theorem dX10_write_8 : decode cX10_write 8 = .ok (.ifCond .ne 6, 3) := by decide +kernel
theorem dX10_write_11 : decode cX10_write 11 = .ok (.bipush (-3), 2) := by decide +kernel
theorem dX10_write_13 : decode cX10_write 13 = .ok (.ireturn, 1) := by decide +kernel
theorem dX10_write_14 : decode cX10_write 14 = .ok (.aload_n 0, 1) := by decide +kernel
theorem dX10_write_15 : decode cX10_write 15 = .ok (.getfield 10, 3) := by decide +kernel
theorem dX10_write_18 : decode cX10_write 18 = .ok (.iload_n 1, 1) := by decide +kernel
theorem dX10_write_19 : decode cX10_write 19 = .ok (.i2c, 1) := by decide +kernel
theorem dX10_write_20 : decode cX10_write 20 = .ok (.invokevirtual 82, 3) := by decide +kernel
theorem dX10_write_23 : decode cX10_write 23 = .ok (.ifCond .eq 13, 3) := by decide +kernel
theorem dX10_write_26 : decode cX10_write 26 = .ok (.aload_n 0, 1) := by decide +kernel
theorem dX10_write_27 : decode cX10_write 27 = .ok (.getfield 10, 3) := by decide +kernel
theorem dX10_write_30 : decode cX10_write 30 = .ok (.getfield 86, 3) := by decide +kernel
theorem dX10_write_33 : decode cX10_write 33 = .ok (.goto 5, 3) := by decide +kernel
theorem dX10_write_36 : decode cX10_write 36 = .ok (.bipush (-5), 2) := by decide +kernel
theorem dX10_write_38 : decode cX10_write 38 = .ok (.ireturn, 1) := by decide +kernel
theorem dX10_erase_0 : decode cX10_erase 0 = .ok (.aload_n 0, 1) := by decide +kernel
theorem dX10_erase_1 : decode cX10_erase 1 = .ok (.getfield 10, 3) := by decide +kernel
theorem dX10_erase_4 : decode cX10_erase 4 = .ok (.getfield 86, 3) := by decide +kernel
theorem dX10_erase_7 : decode cX10_erase 7 = .ok (.istore_n 1, 1) := by decide +kernel
theorem dX10_erase_8 : decode cX10_erase 8 = .ok (.aload_n 0, 1) := by decide +kernel
theorem dX10_erase_9 : decode cX10_erase 9 = .ok (.getfield 10, 3) := by decide +kernel
theorem dX10_erase_12 : decode cX10_erase 12 = .ok (.iconst 0, 1) := by decide +kernel
theorem dX10_erase_13 : decode cX10_erase 13 = .ok (.putfield 86, 3) := by decide +kernel
theorem dX10_erase_16 : decode cX10_erase 16 = .ok (.iload_n 1, 1) := by decide +kernel
theorem dX10_erase_17 : decode cX10_erase 17 = .ok (.ireturn, 1) := by decide +kernel
theorem dX10_fault_0 : decode cX10_fault 0 = .ok (.aload_n 0, 1) := by decide +kernel
