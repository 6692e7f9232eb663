theorem dX11_keep_19 : decode cX11_keep 19 = .ok (.iload_n 1, 1) := by decide +kernel
theorem dX11_keep_20 : decode cX11_keep 20 = .ok (.imul, 1) := by decide +kernel
theorem dX11_keep_21 : decode cX11_keep 21 = .ok (.iadd, 1) := by decide +kernel
theorem dX11_keep_22 : decode cX11_keep 22 = .ok (.invokevirtual 165, 3) := by decide +kernel
theorem dX11_keep_25 : decode cX11_keep 25 = .ok (.aload_n 0, 1) := by decide +kernel
theorem dX11_keep_26 : decode cX11_keep 26 = .ok (.getfield 13, 3) := by decide +kernel
theorem dX11_keep_29 : decode cX11_keep 29 = .ok (.iload_n 1, 1) := by decide +kernel
theorem dX11_keep_30 : decode cX11_keep 30 = .ok (.iconst 1, 1) := by decide +kernel
theorem dX11_keep_31 : decode cX11_keep 31 = .ok (.bastore, 1) := by decide +kernel
theorem dX11_keep_32 : decode cX11_keep 32 = .ok (.aload_n 0, 1) := by decide +kernel
theorem dX11_keep_33 : decode cX11_keep 33 = .ok (.getfield 7, 3) := by decide +kernel
theorem dX11_keep_36 : decode cX11_keep 36 = .ok (.bipush 11, 2) := by decide +kernel
theorem dX11_keep_38 : decode cX11_keep 38 = .ok (.iaload, 1) := by decide +kernel
theorem dX11_keep_39 : decode cX11_keep 39 = .ok (.ireturn, 1) := by decide +kernel
theorem dX11_back_0 : decode cX11_back 0 = .ok (.iload_n 1, 1) := by decide +kernel
theorem dX11_back_1 : decode cX11_back 1 = .ok (.i2l, 1) := by decide +kernel
theorem dX11_back_2 : decode cX11_back 2 = .ok (.lconst 0, 1) := by decide +kernel
theorem dX11_back_3 : decode cX11_back 3 = .ok (.lconst 1, 1) := by decide +kernel
theorem dX11_back_4 : decode cX11_back 4 = .ok (.invokestatic 68, 3) := by decide +kernel
theorem dX11_back_7 : decode cX11_back 7 = .ok (.ifCond .ne 6, 3) := by decide +kernel
theorem dX11_back_10 : decode cX11_back 10 = .ok (.bipush (-2), 2) := by decide +kernel
theorem dX11_back_12 : decode cX11_back 12 = .ok (.ireturn, 1) := by decide +kernel
theorem dX11_back_13 : decode cX11_back 13 = .ok (.aload_n 0, 1) := by decide +kernel
theorem dX11_back_14 : decode cX11_back 14 = .ok (.getfield 13, 3) := by decide +kernel
theorem dX11_back_17 : decode cX11_back 17 = .ok (.iload_n 1, 1) := by decide +kernel
theorem dX11_back_18 : decode cX11_back 18 = .ok (.baload, 1) := by decide +kernel
theorem dX11_back_19 : decode cX11_back 19 = .ok (.ifCond .ne 6, 3) := by decide +kernel
theorem dX11_back_22 : decode cX11_back 22 = .ok (.bipush (-4), 2) := by decide +kernel
theorem dX11_back_24 : decode cX11_back 24 = .ok (.ireturn, 1) := by decide +kernel
theorem dX11_back_25 : decode cX11_back 25 = .ok (.aload_n 0, 1) := by decide +kernel
theorem dX11_back_26 : decode cX11_back 26 = .ok (.bipush 32, 2) := by decide +kernel
theorem dX11_back_28 : decode cX11_back 28 = .ok (.bipush 16, 2) := by decide +kernel
theorem dX11_back_30 : decode cX11_back 30 = .ok (.iload_n 1, 1) := by decide +kernel
theorem dX11_back_31 : decode cX11_back 31 = .ok (.imul, 1) := by decide +kernel
theorem dX11_back_32 : decode cX11_back 32 = .ok (.iadd, 1) := by decide +kernel
theorem dX11_back_33 : decode cX11_back 33 = .ok (.iconst 0, 1) := by decide +kernel
theorem dX11_back_34 : decode cX11_back 34 = .ok (.invokevirtual 165, 3) := by decide +kernel
theorem dX11_back_37 : decode cX11_back 37 = .ok (.aload_n 0, 1) := by decide +kernel
theorem dX11_back_38 : decode cX11_back 38 = .ok (.iconst 0, 1) := by decide +kernel
theorem dX11_back_39 : decode cX11_back 39 = .ok (.putfield 139, 3) := by decide +kernel
theorem dX11_back_42 : decode cX11_back 42 = .ok (.aload_n 0, 1) := by decide +kernel
theorem dX11_back_43 : decode cX11_back 43 = .ok (.getfield 7, 3) := by decide +kernel
theorem dX11_back_46 : decode cX11_back 46 = .ok (.bipush 11, 2) := by decide +kernel
theorem dX11_back_48 : decode cX11_back 48 = .ok (.iaload, 1) := by decide +kernel
theorem dX11_back_49 : decode cX11_back 49 = .ok (.ireturn, 1) := by decide +kernel
theorem dX11_firstOrder_0 : decode cX11_firstOrder 0 = .ok (.aload_n 0, 1) := by decide +kernel
theorem dX11_firstOrder_1 : decode cX11_firstOrder 1 = .ok (.iconst 0, 1) := by decide +kernel
theorem dX11_firstOrder_2 : decode cX11_firstOrder 2 = .ok (.putfield 188, 3) := by decide +kernel
theorem dX11_firstOrder_5 : decode cX11_firstOrder 5 = .ok (.iconst 0, 1) := by decide +kernel
theorem dX11_firstOrder_6 : decode cX11_firstOrder 6 = .ok (.istore_n 2, 1) := by decide +kernel
theorem dX11_firstOrder_7 : decode cX11_firstOrder 7 = .ok (.iload_n 2, 1) := by decide +kernel
theorem dX11_firstOrder_8 : decode cX11_firstOrder 8 = .ok (.aload_n 0, 1) := by decide +kernel
theorem dX11_firstOrder_9 : decode cX11_firstOrder 9 = .ok (.getfield 35, 3) := by decide +kernel
theorem dX11_firstOrder_12 : decode cX11_firstOrder 12 = .ok (.iconst 0, 1) := by decide +kernel
theorem dX11_firstOrder_13 : decode cX11_firstOrder 13 = .ok (.iaload, 1) := by decide +kernel
theorem dX11_firstOrder_14 : decode cX11_firstOrder 14 = .ok (.if_icmp .ge 37, 3) := by decide +kernel
theorem dX11_firstOrder_17 : decode cX11_firstOrder 17 = .ok (.iload_n 1, 1) := by decide +kernel
theorem dX11_firstOrder_18 : decode cX11_firstOrder 18 = .ok (.iload_n 2, 1) := by decide +kernel
theorem dX11_firstOrder_19 : decode cX11_firstOrder 19 = .ok (.invokestatic 148, 3) := by decide +kernel
theorem dX11_firstOrder_22 : decode cX11_firstOrder 22 = .ok (.ifCond .eq 23, 3) := by decide +kernel
theorem dX11_firstOrder_25 : decode cX11_firstOrder 25 = .ok (.aload_n 0, 1) := by decide +kernel
theorem dX11_firstOrder_26 : decode cX11_firstOrder 26 = .ok (.getfield 47, 3) := by decide +kernel
theorem dX11_firstOrder_29 : decode cX11_firstOrder 29 = .ok (.aload_n 0, 1) := by decide +kernel
theorem dX11_firstOrder_30 : decode cX11_firstOrder 30 = .ok (.getfield 188, 3) := by decide +kernel
theorem dX11_firstOrder_33 : decode cX11_firstOrder 33 = .ok (.iload_n 2, 1) := by decide +kernel
theorem dX11_firstOrder_34 : decode cX11_firstOrder 34 = .ok (.iastore, 1) := by decide +kernel
theorem dX11_firstOrder_35 : decode cX11_firstOrder 35 = .ok (.aload_n 0, 1) := by decide +kernel
theorem dX11_firstOrder_36 : decode cX11_firstOrder 36 = .ok (.dup, 1) := by decide +kernel
theorem dX11_firstOrder_37 : decode cX11_firstOrder 37 = .ok (.getfield 188, 3) := by decide +kernel
theorem dX11_firstOrder_40 : decode cX11_firstOrder 40 = .ok (.iconst 1, 1) := by decide +kernel
theorem dX11_firstOrder_41 : decode cX11_firstOrder 41 = .ok (.iadd, 1) := by decide +kernel
theorem dX11_firstOrder_42 : decode cX11_firstOrder 42 = .ok (.putfield 188, 3) := by decide +kernel
theorem dX11_firstOrder_45 : decode cX11_firstOrder 45 = .ok (.iinc 2 1, 3) := by decide +kernel
theorem dX11_firstOrder_48 : decode cX11_firstOrder 48 = .ok (.goto (-41), 3) := by decide +kernel
theorem dX11_firstOrder_51 : decode cX11_firstOrder 51 = .ok (.iconst 1, 1) := by decide +kernel
theorem dX11_firstOrder_52 : decode cX11_firstOrder 52 = .ok (.ireturn, 1) := by decide +kernel
theorem dX11_nextOrder_0 : decode cX11_nextOrder 0 = .ok (.aload_n 0, 1) := by decide +kernel
theorem dX11_nextOrder_1 : decode cX11_nextOrder 1 = .ok (.getfield 188, 3) := by decide +kernel
theorem dX11_nextOrder_4 : decode cX11_nextOrder 4 = .ok (.iconst 2, 1) := by decide +kernel
theorem dX11_nextOrder_5 : decode cX11_nextOrder 5 = .ok (.isub, 1) := by decide +kernel
theorem dX11_nextOrder_6 : decode cX11_nextOrder 6 = .ok (.istore_n 1, 1) := by decide +kernel
theorem dX11_nextOrder_7 : decode cX11_nextOrder 7 = .ok (.iload_n 1, 1) := by decide +kernel
theorem dX11_nextOrder_8 : decode cX11_nextOrder 8 = .ok (.ifCond .lt 26, 3) := by decide +kernel
theorem dX11_nextOrder_11 : decode cX11_nextOrder 11 = .ok (.aload_n 0, 1) := by decide +kernel
theorem dX11_nextOrder_12 : decode cX11_nextOrder 12 = .ok (.getfield 47, 3) := by decide +kernel
theorem dX11_nextOrder_15 : decode cX11_nextOrder 15 = .ok (.iload_n 1, 1) := by decide +kernel
theorem dX11_nextOrder_16 : decode cX11_nextOrder 16 = .ok (.iaload, 1) := by decide +kernel
theorem dX11_nextOrder_17 : decode cX11_nextOrder 17 = .ok (.aload_n 0, 1) := by decide +kernel
theorem dX11_nextOrder_18 : decode cX11_nextOrder 18 = .ok (.getfield 47, 3) := by decide +kernel
theorem dX11_nextOrder_21 : decode cX11_nextOrder 21 = .ok (.iload_n 1, 1) := by decide +kernel
theorem dX11_nextOrder_22 : decode cX11_nextOrder 22 = .ok (.iconst 1, 1) := by decide +kernel
theorem dX11_nextOrder_23 : decode cX11_nextOrder 23 = .ok (.iadd, 1) := by decide +kernel
theorem dX11_nextOrder_24 : decode cX11_nextOrder 24 = .ok (.iaload, 1) := by decide +kernel
theorem dX11_nextOrder_25 : decode cX11_nextOrder 25 = .ok (.if_icmp .le 9, 3) := by decide +kernel
theorem dX11_nextOrder_28 : decode cX11_nextOrder 28 = .ok (.iinc 1 (-1), 3) := by decide +kernel
theorem dX11_nextOrder_31 : decode cX11_nextOrder 31 = .ok (.goto (-24), 3) := by decide +kernel
theorem dX11_nextOrder_34 : decode cX11_nextOrder 34 = .ok (.iload_n 1, 1) := by decide +kernel
theorem dX11_nextOrder_35 : decode cX11_nextOrder 35 = .ok (.ifCond .ge 5, 3) := by decide +kernel
theorem dX11_nextOrder_38 : decode cX11_nextOrder 38 = .ok (.iconst 0, 1) := by decide +kernel
theorem dX11_nextOrder_39 : decode cX11_nextOrder 39 = .ok (.ireturn, 1) := by decide +kernel
theorem dX11_nextOrder_40 : decode cX11_nextOrder 40 = .ok (.aload_n 0, 1) := by decide +kernel
theorem dX11_nextOrder_41 : decode cX11_nextOrder 41 = .ok (.getfield 188, 3) := by decide +kernel
theorem dX11_nextOrder_44 : decode cX11_nextOrder 44 = .ok (.iconst 1, 1) := by decide +kernel
theorem dX11_nextOrder_45 : decode cX11_nextOrder 45 = .ok (.isub, 1) := by decide +kernel
theorem dX11_nextOrder_46 : decode cX11_nextOrder 46 = .ok (.istore_n 2, 1) := by decide +kernel
theorem dX11_nextOrder_47 : decode cX11_nextOrder 47 = .ok (.aload_n 0, 1) := by decide +kernel
theorem dX11_nextOrder_48 : decode cX11_nextOrder 48 = .ok (.getfield 47, 3) := by decide +kernel
theorem dX11_nextOrder_51 : decode cX11_nextOrder 51 = .ok (.iload_n 2, 1) := by decide +kernel
theorem dX11_nextOrder_52 : decode cX11_nextOrder 52 = .ok (.iaload, 1) := by decide +kernel
theorem dX11_nextOrder_53 : decode cX11_nextOrder 53 = .ok (.aload_n 0, 1) := by decide +kernel
theorem dX11_nextOrder_54 : decode cX11_nextOrder 54 = .ok (.getfield 47, 3) := by decide +kernel
theorem dX11_nextOrder_57 : decode cX11_nextOrder 57 = .ok (.iload_n 1, 1) := by decide +kernel
theorem dX11_nextOrder_58 : decode cX11_nextOrder 58 = .ok (.iaload, 1) := by decide +kernel
theorem dX11_nextOrder_59 : decode cX11_nextOrder 59 = .ok (.if_icmp .ge 9, 3) := by decide +kernel
theorem dX11_nextOrder_62 : decode cX11_nextOrder 62 = .ok (.iinc 2 (-1), 3) := by decide +kernel
theorem dX11_nextOrder_65 : decode cX11_nextOrder 65 = .ok (.goto (-18), 3) := by decide +kernel
theorem dX11_nextOrder_68 : decode cX11_nextOrder 68 = .ok (.aload_n 0, 1) := by decide +kernel
theorem dX11_nextOrder_69 : decode cX11_nextOrder 69 = .ok (.iload_n 1, 1) := by decide +kernel
theorem dX11_nextOrder_70 : decode cX11_nextOrder 70 = .ok (.iload_n 2, 1) := by decide +kernel
theorem dX11_nextOrder_71 : decode cX11_nextOrder 71 = .ok (.invokevirtual 191, 3) := by decide +kernel
theorem dX11_nextOrder_74 : decode cX11_nextOrder 74 = .ok (.iload_n 1, 1) := by decide +kernel
theorem dX11_nextOrder_75 : decode cX11_nextOrder 75 = .ok (.iconst 1, 1) := by decide +kernel
theorem dX11_nextOrder_76 : decode cX11_nextOrder 76 = .ok (.iadd, 1) := by decide +kernel
theorem dX11_nextOrder_77 : decode cX11_nextOrder 77 = .ok (.istore_n 3, 1) := by decide +kernel
theorem dX11_nextOrder_78 : decode cX11_nextOrder 78 = .ok (.aload_n 0, 1) := by decide +kernel
theorem dX11_nextOrder_79 : decode cX11_nextOrder 79 = .ok (.getfield 188, 3) := by decide +kernel
theorem dX11_nextOrder_82 : decode cX11_nextOrder 82 = .ok (.iconst 1, 1) := by decide +kernel
theorem dX11_nextOrder_83 : decode cX11_nextOrder 83 = .ok (.isub, 1) := by decide +kernel
theorem dX11_nextOrder_84 : decode cX11_nextOrder 84 = .ok (.istore 4, 2) := by decide +kernel
theorem dX11_nextOrder_86 : decode cX11_nextOrder 86 = .ok (.iload_n 3, 1) := by decide +kernel
theorem dX11_nextOrder_87 : decode cX11_nextOrder 87 = .ok (.iload 4, 2) := by decide +kernel
theorem dX11_nextOrder_89 : decode cX11_nextOrder 89 = .ok (.if_icmp .ge 19, 3) := by decide +kernel
theorem dX11_nextOrder_92 : decode cX11_nextOrder 92 = .ok (.aload_n 0, 1) := by decide +kernel
theorem dX11_nextOrder_93 : decode cX11_nextOrder 93 = .ok (.iload_n 3, 1) := by decide +kernel
theorem dX11_nextOrder_94 : decode cX11_nextOrder 94 = .ok (.iload 4, 2) := by decide +kernel
theorem dX11_nextOrder_96 : decode cX11_nextOrder 96 = .ok (.invokevirtual 191, 3) := by decide +kernel
theorem dX11_nextOrder_99 : decode cX11_nextOrder 99 = .ok (.iinc 3 1, 3) := by decide +kernel
theorem dX11_nextOrder_102 : decode cX11_nextOrder 102 = .ok (.iinc 4 (-1), 3) := by decide +kernel
theorem dX11_nextOrder_105 : decode cX11_nextOrder 105 = .ok (.goto (-19), 3) := by decide +kernel
theorem dX11_nextOrder_108 : decode cX11_nextOrder 108 = .ok (.iconst 1, 1) := by decide +kernel
theorem dX11_nextOrder_109 : decode cX11_nextOrder 109 = .ok (.ireturn, 1) := by decide +kernel
theorem dX11_exchange_0 : decode cX11_exchange 0 = .ok (.aload_n 0, 1) := by decide +kernel
theorem dX11_exchange_1 : decode cX11_exchange 1 = .ok (.getfield 47, 3) := by decide +kernel
theorem dX11_exchange_4 : decode cX11_exchange 4 = .ok (.iload_n 1, 1) := by decide +kernel
theorem dX11_exchange_5 : decode cX11_exchange 5 = .ok (.iaload, 1) := by decide +kernel
theorem dX11_exchange_6 : decode cX11_exchange 6 = .ok (.istore_n 3, 1) := by decide +kernel
theorem dX11_exchange_7 : decode cX11_exchange 7 = .ok (.aload_n 0, 1) := by decide +kernel
theorem dX11_exchange_8 : decode cX11_exchange 8 = .ok (.getfield 47, 3) := by decide +kernel
theorem dX11_exchange_11 : decode cX11_exchange 11 = .ok (.iload_n 1, 1) := by decide +kernel
theorem dX11_exchange_12 : decode cX11_exchange 12 = .ok (.aload_n 0, 1) := by decide +kernel
theorem dX11_exchange_13 : decode cX11_exchange 13 = .ok (.getfield 47, 3) := by decide +kernel
theorem dX11_exchange_16 : decode cX11_exchange 16 = .ok (.iload_n 2, 1) := by decide +kernel
theorem dX11_exchange_17 : decode cX11_exchange 17 = .ok (.iaload, 1) := by decide +kernel
theorem dX11_exchange_18 : decode cX11_exchange 18 = .ok (.iastore, 1) := by decide +kernel
theorem dX11_exchange_19 : decode cX11_exchange 19 = .ok (.aload_n 0, 1) := by decide +kernel
theorem dX11_exchange_20 : decode cX11_exchange 20 = .ok (.getfield 47, 3) := by decide +kernel
theorem dX11_exchange_23 : decode cX11_exchange 23 = .ok (.iload_n 2, 1) := by decide +kernel
theorem dX11_exchange_24 : decode cX11_exchange 24 = .ok (.iload_n 3, 1) := by decide +kernel
theorem dX11_exchange_25 : decode cX11_exchange 25 = .ok (.iastore, 1) := by decide +kernel
theorem dX11_exchange_26 : decode cX11_exchange 26 = .ok (.return_, 1) := by decide +kernel
theorem dX11_keepOrder_0 : decode cX11_keepOrder 0 = .ok (.iconst 0, 1) := by decide +kernel
theorem dX11_keepOrder_1 : decode cX11_keepOrder 1 = .ok (.istore_n 1, 1) := by decide +kernel
theorem dX11_keepOrder_2 : decode cX11_keepOrder 2 = .ok (.iload_n 1, 1) := by decide +kernel
theorem dX11_keepOrder_3 : decode cX11_keepOrder 3 = .ok (.aload_n 0, 1) := by decide +kernel
theorem dX11_keepOrder_4 : decode cX11_keepOrder 4 = .ok (.getfield 188, 3) := by decide +kernel
theorem dX11_keepOrder_7 : decode cX11_keepOrder 7 = .ok (.if_icmp .ge 21, 3) := by decide +kernel
theorem dX11_keepOrder_10 : decode cX11_keepOrder 10 = .ok (.aload_n 0, 1) := by decide +kernel
theorem dX11_keepOrder_11 : decode cX11_keepOrder 11 = .ok (.getfield 50, 3) := by decide +kernel
theorem dX11_keepOrder_14 : decode cX11_keepOrder 14 = .ok (.iload_n 1, 1) := by decide +kernel
theorem dX11_keepOrder_15 : decode cX11_keepOrder 15 = .ok (.aload_n 0, 1) := by decide +kernel
theorem dX11_keepOrder_16 : decode cX11_keepOrder 16 = .ok (.getfield 47, 3) := by decide +kernel
theorem dX11_keepOrder_19 : decode cX11_keepOrder 19 = .ok (.iload_n 1, 1) := by decide +kernel
theorem dX11_keepOrder_20 : decode cX11_keepOrder 20 = .ok (.iaload, 1) := by decide +kernel
theorem dX11_keepOrder_21 : decode cX11_keepOrder 21 = .ok (.iastore, 1) := by decide +kernel
theorem dX11_keepOrder_22 : decode cX11_keepOrder 22 = .ok (.iinc 1 1, 3) := by decide +kernel
theorem dX11_keepOrder_25 : decode cX11_keepOrder 25 = .ok (.goto (-23), 3) := by decide +kernel
theorem dX11_keepOrder_28 : decode cX11_keepOrder 28 = .ok (.return_, 1) := by decide +kernel
theorem dX11_walks_0 : decode cX11_walks 0 = .ok (.aload_n 0, 1) := by decide +kernel
theorem dX11_walks_1 : decode cX11_walks 1 = .ok (.iconst 0, 1) := by decide +kernel
theorem dX11_walks_2 : decode cX11_walks 2 = .ok (.bipush 16, 2) := by decide +kernel
theorem dX11_walks_4 : decode cX11_walks 4 = .ok (.invokevirtual 165, 3) := by decide +kernel
theorem dX11_walks_7 : decode cX11_walks 7 = .ok (.aload_n 0, 1) := by decide +kernel
theorem dX11_walks_8 : decode cX11_walks 8 = .ok (.getfield 7, 3) := by decide +kernel
theorem dX11_walks_11 : decode cX11_walks 11 = .ok (.bipush 27, 2) := by decide +kernel
theorem dX11_walks_13 : decode cX11_walks 13 = .ok (.iconst 0, 1) := by decide +kernel
theorem dX11_walks_14 : decode cX11_walks 14 = .ok (.iastore, 1) := by decide +kernel
theorem dX11_walks_15 : decode cX11_walks 15 = .ok (.aload_n 0, 1) := by decide +kernel
theorem dX11_walks_16 : decode cX11_walks 16 = .ok (.getfield 7, 3) := by decide +kernel
theorem dX11_walks_19 : decode cX11_walks 19 = .ok (.bipush 31, 2) := by decide +kernel
theorem dX11_walks_21 : decode cX11_walks 21 = .ok (.iconst 0, 1) := by decide +kernel
theorem dX11_walks_22 : decode cX11_walks 22 = .ok (.iastore, 1) := by decide +kernel
theorem dX11_walks_23 : decode cX11_walks 23 = .ok (.iconst 1, 1) := by decide +kernel
theorem dX11_walks_24 : decode cX11_walks 24 = .ok (.istore_n 2, 1) := by decide +kernel
theorem dX11_walks_25 : decode cX11_walks 25 = .ok (.iconst 0, 1) := by decide +kernel
theorem dX11_walks_26 : decode cX11_walks 26 = .ok (.istore_n 3, 1) := by decide +kernel
theorem dX11_walks_27 : decode cX11_walks 27 = .ok (.iload_n 3, 1) := by decide +kernel
theorem dX11_walks_28 : decode cX11_walks 28 = .ok (.aload_n 0, 1) := by decide +kernel
theorem dX11_walks_29 : decode cX11_walks 29 = .ok (.getfield 188, 3) := by decide +kernel
theorem dX11_walks_32 : decode cX11_walks 32 = .ok (.if_icmp .ge 46, 3) := by decide +kernel
theorem dX11_walks_35 : decode cX11_walks 35 = .ok (.iload_n 2, 1) := by decide +kernel
theorem dX11_walks_36 : decode cX11_walks 36 = .ok (.ifCond .eq 42, 3) := by decide +kernel
theorem dX11_walks_39 : decode cX11_walks 39 = .ok (.aload_n 0, 1) := by decide +kernel
theorem dX11_walks_40 : decode cX11_walks 40 = .ok (.bipush 16, 2) := by decide +kernel
theorem dX11_walks_42 : decode cX11_walks 42 = .ok (.aload_n 0, 1) := by decide +kernel
theorem dX11_walks_43 : decode cX11_walks 43 = .ok (.getfield 47, 3) := by decide +kernel
theorem dX11_walks_46 : decode cX11_walks 46 = .ok (.iload_n 3, 1) := by decide +kernel
theorem dX11_walks_47 : decode cX11_walks 47 = .ok (.iaload, 1) := by decide +kernel
theorem dX11_walks_48 : decode cX11_walks 48 = .ok (.aload_n 0, 1) := by decide +kernel
theorem dX11_walks_49 : decode cX11_walks 49 = .ok (.getfield 23, 3) := by decide +kernel
theorem dX11_walks_52 : decode cX11_walks 52 = .ok (.aload_n 0, 1) := by decide +kernel
theorem dX11_walks_53 : decode cX11_walks 53 = .ok (.getfield 47, 3) := by decide +kernel
theorem dX11_walks_56 : decode cX11_walks 56 = .ok (.iload_n 3, 1) := by decide +kernel
theorem dX11_walks_57 : decode cX11_walks 57 = .ok (.iaload, 1) := by decide +kernel
theorem dX11_walks_58 : decode cX11_walks 58 = .ok (.iaload, 1) := by decide +kernel
theorem dX11_walks_59 : decode cX11_walks 59 = .ok (.invokevirtual 180, 3) := by decide +kernel
theorem dX11_walks_62 : decode cX11_walks 62 = .ok (.iload_n 1, 1) := by decide +kernel
theorem dX11_walks_63 : decode cX11_walks 63 = .ok (.if_icmp .lt 7, 3) := by decide +kernel
theorem dX11_walks_66 : decode cX11_walks 66 = .ok (.iconst 1, 1) := by decide +kernel
theorem dX11_walks_67 : decode cX11_walks 67 = .ok (.goto 4, 3) := by decide +kernel
theorem dX11_walks_70 : decode cX11_walks 70 = .ok (.iconst 0, 1) := by decide +kernel
theorem dX11_walks_71 : decode cX11_walks 71 = .ok (.istore_n 2, 1) := by decide +kernel
theorem dX11_walks_72 : decode cX11_walks 72 = .ok (.iinc 3 1, 3) := by decide +kernel
theorem dX11_walks_75 : decode cX11_walks 75 = .ok (.goto (-48), 3) := by decide +kernel
theorem dX11_walks_78 : decode cX11_walks 78 = .ok (.iload_n 2, 1) := by decide +kernel
theorem dX11_walks_79 : decode cX11_walks 79 = .ok (.ireturn, 1) := by decide +kernel
theorem dX11_isSet_0 : decode cX11_isSet 0 = .ok (.iload_n 1, 1) := by decide +kernel
theorem dX11_isSet_1 : decode cX11_isSet 1 = .ok (.i2l, 1) := by decide +kernel
theorem dX11_isSet_2 : decode cX11_isSet 2 = .ok (.lconst 0, 1) := by decide +kernel
theorem dX11_isSet_3 : decode cX11_isSet 3 = .ok (.iconst 1, 1) := by decide +kernel
theorem dX11_isSet_4 : decode cX11_isSet 4 = .ok (.aload_n 0, 1) := by decide +kernel
theorem dX11_isSet_5 : decode cX11_isSet 5 = .ok (.getfield 35, 3) := by decide +kernel
theorem dX11_isSet_8 : decode cX11_isSet 8 = .ok (.iconst 0, 1) := by decide +kernel
theorem dX11_isSet_9 : decode cX11_isSet 9 = .ok (.iaload, 1) := by decide +kernel
theorem dX11_isSet_10 : decode cX11_isSet 10 = .ok (.ishl, 1) := by decide +kernel
theorem dX11_isSet_11 : decode cX11_isSet 11 = .ok (.iconst 1, 1) := by decide +kernel
theorem dX11_isSet_12 : decode cX11_isSet 12 = .ok (.isub, 1) := by decide +kernel
theorem dX11_isSet_13 : decode cX11_isSet 13 = .ok (.i2l, 1) := by decide +kernel
theorem dX11_isSet_14 : decode cX11_isSet 14 = .ok (.invokestatic 68, 3) := by decide +kernel
theorem dX11_isSet_17 : decode cX11_isSet 17 = .ok (.ireturn, 1) := by decide +kernel
theorem dX11_best_0 : decode cX11_best 0 = .ok (.aload_n 0, 1) := by decide +kernel
theorem dX11_best_1 : decode cX11_best 1 = .ok (.iload_n 1, 1) := by decide +kernel
theorem dX11_best_2 : decode cX11_best 2 = .ok (.invokevirtual 194, 3) := by decide +kernel
theorem dX11_best_5 : decode cX11_best 5 = .ok (.ifCond .ne 6, 3) := by decide +kernel
theorem dX11_best_8 : decode cX11_best 8 = .ok (.bipush (-2), 2) := by decide +kernel
theorem dX11_best_10 : decode cX11_best 10 = .ok (.ireturn, 1) := by decide +kernel
theorem dX11_best_11 : decode cX11_best 11 = .ok (.iload_n 2, 1) := by decide +kernel
theorem dX11_best_12 : decode cX11_best 12 = .ok (.i2l, 1) := by decide +kernel
theorem dX11_best_13 : decode cX11_best 13 = .ok (.lconst 0, 1) := by decide +kernel
theorem dX11_best_14 : decode cX11_best 14 = .ok (.ldc2_w 197, 3) := by decide +kernel
theorem dX11_best_17 : decode cX11_best 17 = .ok (.invokestatic 68, 3) := by decide +kernel
theorem dX11_best_20 : decode cX11_best 20 = .ok (.ifCond .eq 15, 3) := by decide +kernel
theorem dX11_best_23 : decode cX11_best 23 = .ok (.iload_n 3, 1) := by decide +kernel
theorem dX11_best_24 : decode cX11_best 24 = .ok (.i2l, 1) := by decide +kernel
theorem dX11_best_25 : decode cX11_best 25 = .ok (.lconst 0, 1) := by decide +kernel
theorem dX11_best_26 : decode cX11_best 26 = .ok (.ldc2_w 199, 3) := by decide +kernel
theorem dX11_best_29 : decode cX11_best 29 = .ok (.invokestatic 68, 3) := by decide +kernel
theorem dX11_best_32 : decode cX11_best 32 = .ok (.ifCond .ne 6, 3) := by decide +kernel
theorem dX11_best_35 : decode cX11_best 35 = .ok (.bipush (-3), 2) := by decide +kernel
theorem dX11_best_37 : decode cX11_best 37 = .ok (.ireturn, 1) := by decide +kernel
theorem dX11_best_38 : decode cX11_best 38 = .ok (.ldc 201, 2) := by decide +kernel
theorem dX11_best_40 : decode cX11_best 40 = .ok (.istore 4, 2) := by decide +kernel
theorem dX11_best_42 : decode cX11_best 42 = .ok (.iconst 0, 1) := by decide +kernel
theorem dX11_best_43 : decode cX11_best 43 = .ok (.istore 5, 2) := by decide +kernel
theorem dX11_best_45 : decode cX11_best 45 = .ok (.aload_n 0, 1) := by decide +kernel
theorem dX11_best_46 : decode cX11_best 46 = .ok (.iload_n 1, 1) := by decide +kernel
theorem dX11_best_47 : decode cX11_best 47 = .ok (.invokevirtual 202, 3) := by decide +kernel
theorem dX11_best_50 : decode cX11_best 50 = .ok (.istore 6, 2) := by decide +kernel
theorem dX11_best_52 : decode cX11_best 52 = .ok (.iload 6, 2) := by decide +kernel
theorem dX11_best_54 : decode cX11_best 54 = .ok (.ifCond .eq 78, 3) := by decide +kernel
theorem dX11_best_57 : decode cX11_best 57 = .ok (.aload_n 0, 1) := by decide +kernel
theorem dX11_best_58 : decode cX11_best 58 = .ok (.iload_n 2, 1) := by decide +kernel
theorem dX11_best_59 : decode cX11_best 59 = .ok (.invokevirtual 205, 3) := by decide +kernel
theorem dX11_best_62 : decode cX11_best 62 = .ok (.ifCond .eq 61, 3) := by decide +kernel
theorem dX11_best_65 : decode cX11_best 65 = .ok (.aload_n 0, 1) := by decide +kernel
theorem dX11_best_66 : decode cX11_best 66 = .ok (.getfield 7, 3) := by decide +kernel
theorem dX11_best_69 : decode cX11_best 69 = .ok (.bipush 27, 2) := by decide +kernel
theorem dX11_best_71 : decode cX11_best 71 = .ok (.iaload, 1) := by decide +kernel
theorem dX11_best_72 : decode cX11_best 72 = .ok (.iload 4, 2) := by decide +kernel
theorem dX11_best_74 : decode cX11_best 74 = .ok (.if_icmp .lt 27, 3) := by decide +kernel
theorem dX11_best_77 : decode cX11_best 77 = .ok (.aload_n 0, 1) := by decide +kernel
theorem dX11_best_78 : decode cX11_best 78 = .ok (.getfield 7, 3) := by decide +kernel
theorem dX11_best_81 : decode cX11_best 81 = .ok (.bipush 27, 2) := by decide +kernel
theorem dX11_best_83 : decode cX11_best 83 = .ok (.iaload, 1) := by decide +kernel
theorem dX11_best_84 : decode cX11_best 84 = .ok (.iload 4, 2) := by decide +kernel
theorem dX11_best_86 : decode cX11_best 86 = .ok (.if_icmp .ne 37, 3) := by decide +kernel
theorem dX11_best_89 : decode cX11_best 89 = .ok (.aload_n 0, 1) := by decide +kernel
theorem dX11_best_90 : decode cX11_best 90 = .ok (.getfield 7, 3) := by decide +kernel
theorem dX11_best_93 : decode cX11_best 93 = .ok (.bipush 31, 2) := by decide +kernel
theorem dX11_best_95 : decode cX11_best 95 = .ok (.iaload, 1) := by decide +kernel
theorem dX11_best_96 : decode cX11_best 96 = .ok (.iload 5, 2) := by decide +kernel
theorem dX11_best_98 : decode cX11_best 98 = .ok (.if_icmp .le 25, 3) := by decide +kernel
theorem dX11_best_101 : decode cX11_best 101 = .ok (.aload_n 0, 1) := by decide +kernel
theorem dX11_best_102 : decode cX11_best 102 = .ok (.getfield 7, 3) := by decide +kernel
theorem dX11_best_105 : decode cX11_best 105 = .ok (.bipush 27, 2) := by decide +kernel
theorem dX11_best_107 : decode cX11_best 107 = .ok (.iaload, 1) := by decide +kernel
theorem dX11_best_108 : decode cX11_best 108 = .ok (.istore 4, 2) := by decide +kernel
theorem dX11_best_110 : decode cX11_best 110 = .ok (.aload_n 0, 1) := by decide +kernel
theorem dX11_best_111 : decode cX11_best 111 = .ok (.getfield 7, 3) := by decide +kernel
theorem dX11_best_114 : decode cX11_best 114 = .ok (.bipush 31, 2) := by decide +kernel
theorem dX11_best_116 : decode cX11_best 116 = .ok (.iaload, 1) := by decide +kernel
theorem dX11_best_117 : decode cX11_best 117 = .ok (.istore 5, 2) := by decide +kernel
theorem dX11_best_119 : decode cX11_best 119 = .ok (.aload_n 0, 1) := by decide +kernel
theorem dX11_best_120 : decode cX11_best 120 = .ok (.invokevirtual 208, 3) := by decide +kernel
theorem dX11_best_123 : decode cX11_best 123 = .ok (.aload_n 0, 1) := by decide +kernel
theorem dX11_best_124 : decode cX11_best 124 = .ok (.invokevirtual 211, 3) := by decide +kernel
theorem dX11_best_127 : decode cX11_best 127 = .ok (.istore 6, 2) := by decide +kernel
theorem dX11_best_129 : decode cX11_best 129 = .ok (.goto (-77), 3) := by decide +kernel
theorem dX11_best_132 : decode cX11_best 132 = .ok (.iload 4, 2) := by decide +kernel
theorem dX11_best_134 : decode cX11_best 134 = .ok (.ldc 201, 2) := by decide +kernel
theorem dX11_best_136 : decode cX11_best 136 = .ok (.if_icmp .ne 5, 3) := by decide +kernel
theorem dX11_best_139 : decode cX11_best 139 = .ok (.iconst (-1), 1) := by decide +kernel
theorem dX11_best_140 : decode cX11_best 140 = .ok (.ireturn, 1) := by decide +kernel
theorem dX11_best_141 : decode cX11_best 141 = .ok (.iload_n 3, 1) := by decide +kernel
theorem dX11_best_142 : decode cX11_best 142 = .ok (.ifCond .ne 8, 3) := by decide +kernel
theorem dX11_best_145 : decode cX11_best 145 = .ok (.iload 4, 2) := by decide +kernel
theorem dX11_best_147 : decode cX11_best 147 = .ok (.goto 35, 3) := by decide +kernel
theorem dX11_best_150 : decode cX11_best 150 = .ok (.iload_n 3, 1) := by decide +kernel
theorem dX11_best_151 : decode cX11_best 151 = .ok (.iconst 1, 1) := by decide +kernel
theorem dX11_best_152 : decode cX11_best 152 = .ok (.if_icmp .ne 8, 3) := by decide +kernel
theorem dX11_best_155 : decode cX11_best 155 = .ok (.iload 5, 2) := by decide +kernel
theorem dX11_best_157 : decode cX11_best 157 = .ok (.goto 25, 3) := by decide +kernel
theorem dX11_best_160 : decode cX11_best 160 = .ok (.iload_n 3, 1) := by decide +kernel
theorem dX11_best_161 : decode cX11_best 161 = .ok (.iconst 2, 1) := by decide +kernel
theorem dX11_best_162 : decode cX11_best 162 = .ok (.isub, 1) := by decide +kernel
theorem dX11_best_163 : decode cX11_best 163 = .ok (.aload_n 0, 1) := by decide +kernel
theorem dX11_best_164 : decode cX11_best 164 = .ok (.getfield 188, 3) := by decide +kernel
theorem dX11_best_167 : decode cX11_best 167 = .ok (.if_icmp .ge 14, 3) := by decide +kernel
theorem dX11_best_170 : decode cX11_best 170 = .ok (.aload_n 0, 1) := by decide +kernel
theorem dX11_best_171 : decode cX11_best 171 = .ok (.getfield 50, 3) := by decide +kernel
theorem dX11_best_174 : decode cX11_best 174 = .ok (.iload_n 3, 1) := by decide +kernel
theorem dX11_best_175 : decode cX11_best 175 = .ok (.iconst 2, 1) := by decide +kernel
theorem dX11_best_176 : decode cX11_best 176 = .ok (.isub, 1) := by decide +kernel
theorem dX11_best_177 : decode cX11_best 177 = .ok (.iaload, 1) := by decide +kernel
theorem dX11_best_178 : decode cX11_best 178 = .ok (.goto 4, 3) := by decide +kernel
theorem dX11_best_181 : decode cX11_best 181 = .ok (.iconst (-1), 1) := by decide +kernel
theorem dX11_best_182 : decode cX11_best 182 = .ok (.ireturn, 1) := by decide +kernel
theorem dX11_shopAt_0 : decode cX11_shopAt 0 = .ok (.iconst 0, 1) := by decide +kernel
theorem dX11_shopAt_1 : decode cX11_shopAt 1 = .ok (.istore_n 2, 1) := by decide +kernel
theorem dX11_shopAt_2 : decode cX11_shopAt 2 = .ok (.iconst 0, 1) := by decide +kernel
theorem dX11_shopAt_3 : decode cX11_shopAt 3 = .ok (.istore_n 3, 1) := by decide +kernel
theorem dX11_shopAt_4 : decode cX11_shopAt 4 = .ok (.iload_n 3, 1) := by decide +kernel
theorem dX11_shopAt_5 : decode cX11_shopAt 5 = .ok (.aload_n 0, 1) := by decide +kernel
theorem dX11_shopAt_6 : decode cX11_shopAt 6 = .ok (.getfield 35, 3) := by decide +kernel
theorem dX11_shopAt_9 : decode cX11_shopAt 9 = .ok (.iconst 0, 1) := by decide +kernel
theorem dX11_shopAt_10 : decode cX11_shopAt 10 = .ok (.iaload, 1) := by decide +kernel
theorem dX11_shopAt_11 : decode cX11_shopAt 11 = .ok (.if_icmp .ge 28, 3) := by decide +kernel
theorem dX11_shopAt_14 : decode cX11_shopAt 14 = .ok (.aload_n 0, 1) := by decide +kernel
theorem dX11_shopAt_15 : decode cX11_shopAt 15 = .ok (.getfield 7, 3) := by decide +kernel
theorem dX11_shopAt_18 : decode cX11_shopAt 18 = .ok (.bipush 16, 2) := by decide +kernel
theorem dX11_shopAt_20 : decode cX11_shopAt 20 = .ok (.iload_n 3, 1) := by decide +kernel
theorem dX11_shopAt_21 : decode cX11_shopAt 21 = .ok (.iadd, 1) := by decide +kernel
theorem dX11_shopAt_22 : decode cX11_shopAt 22 = .ok (.iaload, 1) := by decide +kernel
theorem dX11_shopAt_23 : decode cX11_shopAt 23 = .ok (.iload_n 1, 1) := by decide +kernel
theorem dX11_shopAt_24 : decode cX11_shopAt 24 = .ok (.if_icmp .ne 7, 3) := by decide +kernel
theorem dX11_shopAt_27 : decode cX11_shopAt 27 = .ok (.iload_n 3, 1) := by decide +kernel
theorem dX11_shopAt_28 : decode cX11_shopAt 28 = .ok (.goto 4, 3) := by decide +kernel
theorem dX11_shopAt_31 : decode cX11_shopAt 31 = .ok (.iload_n 2, 1) := by decide +kernel
theorem dX11_shopAt_32 : decode cX11_shopAt 32 = .ok (.istore_n 2, 1) := by decide +kernel
theorem dX11_shopAt_33 : decode cX11_shopAt 33 = .ok (.iinc 3 1, 3) := by decide +kernel
theorem dX11_shopAt_36 : decode cX11_shopAt 36 = .ok (.goto (-32), 3) := by decide +kernel
theorem dX11_shopAt_39 : decode cX11_shopAt 39 = .ok (.iload_n 2, 1) := by decide +kernel
theorem dX11_shopAt_40 : decode cX11_shopAt 40 = .ok (.ireturn, 1) := by decide +kernel
theorem dX11_throughBy_0 : decode cX11_throughBy 0 = .ok (.aload_n 0, 1) := by decide +kernel
theorem dX11_throughBy_1 : decode cX11_throughBy 1 = .ok (.bipush 16, 2) := by decide +kernel
theorem dX11_throughBy_3 : decode cX11_throughBy 3 = .ok (.invokevirtual 133, 3) := by decide +kernel
theorem dX11_throughBy_6 : decode cX11_throughBy 6 = .ok (.iconst 0, 1) := by decide +kernel
theorem dX11_throughBy_7 : decode cX11_throughBy 7 = .ok (.istore_n 2, 1) := by decide +kernel
theorem dX11_throughBy_8 : decode cX11_throughBy 8 = .ok (.iconst 0, 1) := by decide +kernel
theorem dX11_throughBy_9 : decode cX11_throughBy 9 = .ok (.istore_n 3, 1) := by decide +kernel
theorem dX11_throughBy_10 : decode cX11_throughBy 10 = .ok (.iload_n 3, 1) := by decide +kernel
theorem dX11_throughBy_11 : decode cX11_throughBy 11 = .ok (.aload_n 0, 1) := by decide +kernel
theorem dX11_throughBy_12 : decode cX11_throughBy 12 = .ok (.getfield 35, 3) := by decide +kernel
theorem dX11_throughBy_15 : decode cX11_throughBy 15 = .ok (.iconst 0, 1) := by decide +kernel
theorem dX11_throughBy_16 : decode cX11_throughBy 16 = .ok (.iaload, 1) := by decide +kernel
theorem dX11_throughBy_17 : decode cX11_throughBy 17 = .ok (.if_icmp .ge 58, 3) := by decide +kernel
theorem dX11_throughBy_20 : decode cX11_throughBy 20 = .ok (.aload_n 0, 1) := by decide +kernel
theorem dX11_throughBy_21 : decode cX11_throughBy 21 = .ok (.iload_n 3, 1) := by decide +kernel
theorem dX11_throughBy_22 : decode cX11_throughBy 22 = .ok (.invokevirtual 215, 3) := by decide +kernel
theorem dX11_throughBy_25 : decode cX11_throughBy 25 = .ok (.istore 4, 2) := by decide +kernel
theorem dX11_throughBy_27 : decode cX11_throughBy 27 = .ok (.aload_n 0, 1) := by decide +kernel
theorem dX11_throughBy_28 : decode cX11_throughBy 28 = .ok (.bipush 16, 2) := by decide +kernel
theorem dX11_throughBy_30 : decode cX11_throughBy 30 = .ok (.iload 4, 2) := by decide +kernel
theorem dX11_throughBy_32 : decode cX11_throughBy 32 = .ok (.iload 4, 2) := by decide +kernel
theorem dX11_throughBy_34 : decode cX11_throughBy 34 = .ok (.iload_n 1, 1) := by decide +kernel
theorem dX11_throughBy_35 : decode cX11_throughBy 35 = .ok (.if_icmp .ne 7, 3) := by decide +kernel
theorem dX11_throughBy_38 : decode cX11_throughBy 38 = .ok (.iconst 2, 1) := by decide +kernel
theorem dX11_throughBy_39 : decode cX11_throughBy 39 = .ok (.goto 10, 3) := by decide +kernel
theorem dX11_throughBy_42 : decode cX11_throughBy 42 = .ok (.aload_n 0, 1) := by decide +kernel
theorem dX11_throughBy_43 : decode cX11_throughBy 43 = .ok (.getfield 23, 3) := by decide +kernel
theorem dX11_throughBy_46 : decode cX11_throughBy 46 = .ok (.iload 4, 2) := by decide +kernel
theorem dX11_throughBy_48 : decode cX11_throughBy 48 = .ok (.iaload, 1) := by decide +kernel
theorem dX11_throughBy_49 : decode cX11_throughBy 49 = .ok (.invokevirtual 180, 3) := by decide +kernel
theorem dX11_throughBy_52 : decode cX11_throughBy 52 = .ok (.istore 5, 2) := by decide +kernel
theorem dX11_throughBy_54 : decode cX11_throughBy 54 = .ok (.iload_n 2, 1) := by decide +kernel
theorem dX11_throughBy_55 : decode cX11_throughBy 55 = .ok (.iload 4, 2) := by decide +kernel
theorem dX11_throughBy_57 : decode cX11_throughBy 57 = .ok (.iload_n 1, 1) := by decide +kernel
theorem dX11_throughBy_58 : decode cX11_throughBy 58 = .ok (.if_icmp .ne 7, 3) := by decide +kernel
theorem dX11_throughBy_61 : decode cX11_throughBy 61 = .ok (.iconst 0, 1) := by decide +kernel
theorem dX11_throughBy_62 : decode cX11_throughBy 62 = .ok (.goto 5, 3) := by decide +kernel
theorem dX11_throughBy_65 : decode cX11_throughBy 65 = .ok (.iload 5, 2) := by decide +kernel
theorem dX11_throughBy_67 : decode cX11_throughBy 67 = .ok (.iadd, 1) := by decide +kernel
theorem dX11_throughBy_68 : decode cX11_throughBy 68 = .ok (.istore_n 2, 1) := by decide +kernel
theorem dX11_throughBy_69 : decode cX11_throughBy 69 = .ok (.iinc 3 1, 3) := by decide +kernel
theorem dX11_throughBy_72 : decode cX11_throughBy 72 = .ok (.goto (-62), 3) := by decide +kernel
theorem dX11_throughBy_75 : decode cX11_throughBy 75 = .ok (.iload_n 2, 1) := by decide +kernel
theorem dX11_throughBy_76 : decode cX11_throughBy 76 = .ok (.ireturn, 1) := by decide +kernel
theorem dX11_through_0 : decode cX11_through 0 = .ok (.aload_n 0, 1) := by decide +kernel
theorem dX11_through_1 : decode cX11_through 1 = .ok (.iconst 0, 1) := by decide +kernel
theorem dX11_through_2 : decode cX11_through 2 = .ok (.bipush 16, 2) := by decide +kernel
theorem dX11_through_4 : decode cX11_through 4 = .ok (.invokevirtual 165, 3) := by decide +kernel
theorem dX11_through_7 : decode cX11_through 7 = .ok (.aload_n 0, 1) := by decide +kernel
theorem dX11_through_8 : decode cX11_through 8 = .ok (.iconst (-1), 1) := by decide +kernel
theorem dX11_through_9 : decode cX11_through 9 = .ok (.invokevirtual 219, 3) := by decide +kernel
theorem dX11_through_12 : decode cX11_through 12 = .ok (.ireturn, 1) := by decide +kernel
theorem dX11_change_0 : decode cX11_change 0 = .ok (.aload_n 0, 1) := by decide +kernel
theorem dX11_change_1 : decode cX11_change 1 = .ok (.iconst 0, 1) := by decide +kernel
theorem dX11_change_2 : decode cX11_change 2 = .ok (.bipush 16, 2) := by decide +kernel
theorem dX11_change_4 : decode cX11_change 4 = .ok (.invokevirtual 165, 3) := by decide +kernel
theorem dX11_change_7 : decode cX11_change 7 = .ok (.aload_n 0, 1) := by decide +kernel
theorem dX11_change_8 : decode cX11_change 8 = .ok (.iconst (-1), 1) := by decide +kernel
theorem dX11_change_9 : decode cX11_change 9 = .ok (.invokevirtual 219, 3) := by decide +kernel
theorem dX11_change_12 : decode cX11_change 12 = .ok (.istore_n 1, 1) := by decide +kernel
theorem dX11_change_13 : decode cX11_change 13 = .ok (.iconst (-1), 1) := by decide +kernel
theorem dX11_change_14 : decode cX11_change 14 = .ok (.istore_n 2, 1) := by decide +kernel
theorem dX11_change_15 : decode cX11_change 15 = .ok (.iconst 0, 1) := by decide +kernel
theorem dX11_change_16 : decode cX11_change 16 = .ok (.istore_n 3, 1) := by decide +kernel
theorem dX11_change_17 : decode cX11_change 17 = .ok (.iload_n 3, 1) := by decide +kernel
theorem dX11_change_18 : decode cX11_change 18 = .ok (.aload_n 0, 1) := by decide +kernel
theorem dX11_change_19 : decode cX11_change 19 = .ok (.getfield 35, 3) := by decide +kernel
theorem dX11_change_22 : decode cX11_change 22 = .ok (.iconst 0, 1) := by decide +kernel
theorem dX11_change_23 : decode cX11_change 23 = .ok (.iaload, 1) := by decide +kernel
theorem dX11_change_24 : decode cX11_change 24 = .ok (.if_icmp .ge 94, 3) := by decide +kernel
theorem dX11_change_27 : decode cX11_change 27 = .ok (.iload_n 3, 1) := by decide +kernel
theorem dX11_change_28 : decode cX11_change 28 = .ok (.iconst 1, 1) := by decide +kernel
theorem dX11_change_29 : decode cX11_change 29 = .ok (.iadd, 1) := by decide +kernel
theorem dX11_change_30 : decode cX11_change 30 = .ok (.istore 4, 2) := by decide +kernel
theorem dX11_change_32 : decode cX11_change 32 = .ok (.iload 4, 2) := by decide +kernel
theorem dX11_change_34 : decode cX11_change 34 = .ok (.aload_n 0, 1) := by decide +kernel
theorem dX11_change_35 : decode cX11_change 35 = .ok (.getfield 35, 3) := by decide +kernel
theorem dX11_change_38 : decode cX11_change 38 = .ok (.iconst 0, 1) := by decide +kernel
theorem dX11_change_39 : decode cX11_change 39 = .ok (.iaload, 1) := by decide +kernel
theorem dX11_change_40 : decode cX11_change 40 = .ok (.if_icmp .ge 72, 3) := by decide +kernel
theorem dX11_change_43 : decode cX11_change 43 = .ok (.aload_n 0, 1) := by decide +kernel
theorem dX11_change_44 : decode cX11_change 44 = .ok (.iconst 0, 1) := by decide +kernel
theorem dX11_change_45 : decode cX11_change 45 = .ok (.bipush 16, 2) := by decide +kernel
theorem dX11_change_47 : decode cX11_change 47 = .ok (.invokevirtual 165, 3) := by decide +kernel
theorem dX11_change_50 : decode cX11_change 50 = .ok (.aload_n 0, 1) := by decide +kernel
theorem dX11_change_51 : decode cX11_change 51 = .ok (.getfield 7, 3) := by decide +kernel
theorem dX11_change_54 : decode cX11_change 54 = .ok (.bipush 16, 2) := by decide +kernel
theorem dX11_change_56 : decode cX11_change 56 = .ok (.iload_n 3, 1) := by decide +kernel
theorem dX11_change_57 : decode cX11_change 57 = .ok (.iadd, 1) := by decide +kernel
theorem dX11_change_58 : decode cX11_change 58 = .ok (.aload_n 0, 1) := by decide +kernel
theorem dX11_change_59 : decode cX11_change 59 = .ok (.getfield 7, 3) := by decide +kernel
theorem dX11_change_62 : decode cX11_change 62 = .ok (.iload 4, 2) := by decide +kernel
theorem dX11_change_64 : decode cX11_change 64 = .ok (.iaload, 1) := by decide +kernel
theorem dX11_change_65 : decode cX11_change 65 = .ok (.iastore, 1) := by decide +kernel
theorem dX11_change_66 : decode cX11_change 66 = .ok (.aload_n 0, 1) := by decide +kernel
theorem dX11_change_67 : decode cX11_change 67 = .ok (.getfield 7, 3) := by decide +kernel
theorem dX11_change_70 : decode cX11_change 70 = .ok (.bipush 16, 2) := by decide +kernel
theorem dX11_change_72 : decode cX11_change 72 = .ok (.iload 4, 2) := by decide +kernel
theorem dX11_change_74 : decode cX11_change 74 = .ok (.iadd, 1) := by decide +kernel
theorem dX11_change_75 : decode cX11_change 75 = .ok (.aload_n 0, 1) := by decide +kernel
theorem dX11_change_76 : decode cX11_change 76 = .ok (.getfield 7, 3) := by decide +kernel
theorem dX11_change_79 : decode cX11_change 79 = .ok (.iload_n 3, 1) := by decide +kernel
theorem dX11_change_80 : decode cX11_change 80 = .ok (.iaload, 1) := by decide +kernel
theorem dX11_change_81 : decode cX11_change 81 = .ok (.iastore, 1) := by decide +kernel
theorem dX11_change_82 : decode cX11_change 82 = .ok (.aload_n 0, 1) := by decide +kernel
theorem dX11_change_83 : decode cX11_change 83 = .ok (.iconst (-1), 1) := by decide +kernel
theorem dX11_change_84 : decode cX11_change 84 = .ok (.invokevirtual 219, 3) := by decide +kernel
theorem dX11_change_87 : decode cX11_change 87 = .ok (.istore 5, 2) := by decide +kernel
theorem dX11_change_89 : decode cX11_change 89 = .ok (.iload 5, 2) := by decide +kernel
theorem dX11_change_91 : decode cX11_change 91 = .ok (.iload_n 1, 1) := by decide +kernel
theorem dX11_change_92 : decode cX11_change 92 = .ok (.if_icmp .le 14, 3) := by decide +kernel
theorem dX11_change_95 : decode cX11_change 95 = .ok (.bipush 10, 2) := by decide +kernel
theorem dX11_change_97 : decode cX11_change 97 = .ok (.iload_n 3, 1) := by decide +kernel
theorem dX11_change_98 : decode cX11_change 98 = .ok (.imul, 1) := by decide +kernel
theorem dX11_change_99 : decode cX11_change 99 = .ok (.iload 4, 2) := by decide +kernel
theorem dX11_change_101 : decode cX11_change 101 = .ok (.iadd, 1) := by decide +kernel
theorem dX11_change_102 : decode cX11_change 102 = .ok (.istore_n 2, 1) := by decide +kernel
theorem dX11_change_103 : decode cX11_change 103 = .ok (.iload 5, 2) := by decide +kernel
theorem dX11_change_105 : decode cX11_change 105 = .ok (.istore_n 1, 1) := by decide +kernel
theorem dX11_change_106 : decode cX11_change 106 = .ok (.iinc 4 1, 3) := by decide +kernel
theorem dX11_change_109 : decode cX11_change 109 = .ok (.goto (-77), 3) := by decide +kernel
theorem dX11_change_112 : decode cX11_change 112 = .ok (.iinc 3 1, 3) := by decide +kernel
theorem dX11_change_115 : decode cX11_change 115 = .ok (.goto (-98), 3) := by decide +kernel
theorem dX11_change_118 : decode cX11_change 118 = .ok (.iload_n 2, 1) := by decide +kernel
theorem dX11_change_119 : decode cX11_change 119 = .ok (.ireturn, 1) := by decide +kernel
theorem dX11_coffeeAt_0 : decode cX11_coffeeAt 0 = .ok (.iload_n 1, 1) := by decide +kernel
theorem dX11_coffeeAt_1 : decode cX11_coffeeAt 1 = .ok (.i2l, 1) := by decide +kernel
theorem dX11_coffeeAt_2 : decode cX11_coffeeAt 2 = .ok (.lconst 0, 1) := by decide +kernel
theorem dX11_coffeeAt_3 : decode cX11_coffeeAt 3 = .ok (.lconst 1, 1) := by decide +kernel
theorem dX11_coffeeAt_4 : decode cX11_coffeeAt 4 = .ok (.invokestatic 68, 3) := by decide +kernel
theorem dX11_coffeeAt_7 : decode cX11_coffeeAt 7 = .ok (.ifCond .ne 6, 3) := by decide +kernel
theorem dX11_coffeeAt_10 : decode cX11_coffeeAt 10 = .ok (.bipush (-3), 2) := by decide +kernel
theorem dX11_coffeeAt_12 : decode cX11_coffeeAt 12 = .ok (.ireturn, 1) := by decide +kernel
theorem dX11_coffeeAt_13 : decode cX11_coffeeAt 13 = .ok (.iconst (-1), 1) := by decide +kernel
theorem dX11_coffeeAt_14 : decode cX11_coffeeAt 14 = .ok (.istore_n 2, 1) := by decide +kernel
theorem dX11_coffeeAt_15 : decode cX11_coffeeAt 15 = .ok (.iconst (-1), 1) := by decide +kernel
theorem dX11_coffeeAt_16 : decode cX11_coffeeAt 16 = .ok (.istore_n 3, 1) := by decide +kernel
theorem dX11_coffeeAt_17 : decode cX11_coffeeAt 17 = .ok (.iconst 0, 1) := by decide +kernel
theorem dX11_coffeeAt_18 : decode cX11_coffeeAt 18 = .ok (.istore 4, 2) := by decide +kernel
theorem dX11_coffeeAt_20 : decode cX11_coffeeAt 20 = .ok (.iload 4, 2) := by decide +kernel
theorem dX11_coffeeAt_22 : decode cX11_coffeeAt 22 = .ok (.aload_n 0, 1) := by decide +kernel
theorem dX11_coffeeAt_23 : decode cX11_coffeeAt 23 = .ok (.getfield 35, 3) := by decide +kernel
theorem dX11_coffeeAt_26 : decode cX11_coffeeAt 26 = .ok (.iconst 0, 1) := by decide +kernel
theorem dX11_coffeeAt_27 : decode cX11_coffeeAt 27 = .ok (.iaload, 1) := by decide +kernel
theorem dX11_coffeeAt_28 : decode cX11_coffeeAt 28 = .ok (.if_icmp .ge 36, 3) := by decide +kernel
theorem dX11_coffeeAt_31 : decode cX11_coffeeAt 31 = .ok (.aload_n 0, 1) := by decide +kernel
theorem dX11_coffeeAt_32 : decode cX11_coffeeAt 32 = .ok (.iconst 0, 1) := by decide +kernel
theorem dX11_coffeeAt_33 : decode cX11_coffeeAt 33 = .ok (.bipush 16, 2) := by decide +kernel
theorem dX11_coffeeAt_35 : decode cX11_coffeeAt 35 = .ok (.invokevirtual 165, 3) := by decide +kernel
theorem dX11_coffeeAt_38 : decode cX11_coffeeAt 38 = .ok (.aload_n 0, 1) := by decide +kernel
theorem dX11_coffeeAt_39 : decode cX11_coffeeAt 39 = .ok (.iload 4, 2) := by decide +kernel
theorem dX11_coffeeAt_41 : decode cX11_coffeeAt 41 = .ok (.invokevirtual 219, 3) := by decide +kernel
theorem dX11_coffeeAt_44 : decode cX11_coffeeAt 44 = .ok (.istore 5, 2) := by decide +kernel
theorem dX11_coffeeAt_46 : decode cX11_coffeeAt 46 = .ok (.iload 5, 2) := by decide +kernel
theorem dX11_coffeeAt_48 : decode cX11_coffeeAt 48 = .ok (.iload_n 3, 1) := by decide +kernel
theorem dX11_coffeeAt_49 : decode cX11_coffeeAt 49 = .ok (.if_icmp .le 9, 3) := by decide +kernel
theorem dX11_coffeeAt_52 : decode cX11_coffeeAt 52 = .ok (.iload 4, 2) := by decide +kernel
theorem dX11_coffeeAt_54 : decode cX11_coffeeAt 54 = .ok (.istore_n 2, 1) := by decide +kernel
theorem dX11_coffeeAt_55 : decode cX11_coffeeAt 55 = .ok (.iload 5, 2) := by decide +kernel
theorem dX11_coffeeAt_57 : decode cX11_coffeeAt 57 = .ok (.istore_n 3, 1) := by decide +kernel
theorem dX11_coffeeAt_58 : decode cX11_coffeeAt 58 = .ok (.iinc 4 1, 3) := by decide +kernel
theorem dX11_coffeeAt_61 : decode cX11_coffeeAt 61 = .ok (.goto (-41), 3) := by decide +kernel
theorem dX11_coffeeAt_64 : decode cX11_coffeeAt 64 = .ok (.iload_n 1, 1) := by decide +kernel
theorem dX11_coffeeAt_65 : decode cX11_coffeeAt 65 = .ok (.ifCond .ne 7, 3) := by decide +kernel
theorem dX11_coffeeAt_68 : decode cX11_coffeeAt 68 = .ok (.iload_n 2, 1) := by decide +kernel
theorem dX11_coffeeAt_69 : decode cX11_coffeeAt 69 = .ok (.goto 4, 3) := by decide +kernel
theorem dX11_coffeeAt_72 : decode cX11_coffeeAt 72 = .ok (.iload_n 3, 1) := by decide +kernel
theorem dX11_coffeeAt_73 : decode cX11_coffeeAt 73 = .ok (.ireturn, 1) := by decide +kernel
theorem dX11_byLot_0 : decode cX11_byLot 0 = .ok (.aload_n 0, 1) := by decide +kernel
theorem dX11_byLot_1 : decode cX11_byLot 1 = .ok (.iload_n 1, 1) := by decide +kernel
theorem dX11_byLot_2 : decode cX11_byLot 2 = .ok (.invokevirtual 144, 3) := by decide +kernel
theorem dX11_byLot_5 : decode cX11_byLot 5 = .ok (.ifCond .ne 6, 3) := by decide +kernel
theorem dX11_byLot_8 : decode cX11_byLot 8 = .ok (.bipush (-2), 2) := by decide +kernel
theorem dX11_byLot_10 : decode cX11_byLot 10 = .ok (.ireturn, 1) := by decide +kernel
theorem dX11_byLot_11 : decode cX11_byLot 11 = .ok (.iload_n 2, 1) := by decide +kernel
theorem dX11_byLot_12 : decode cX11_byLot 12 = .ok (.i2l, 1) := by decide +kernel
theorem dX11_byLot_13 : decode cX11_byLot 13 = .ok (.lconst 0, 1) := by decide +kernel
theorem dX11_byLot_14 : decode cX11_byLot 14 = .ok (.ldc2_w 197, 3) := by decide +kernel
theorem dX11_byLot_17 : decode cX11_byLot 17 = .ok (.invokestatic 68, 3) := by decide +kernel
theorem dX11_byLot_20 : decode cX11_byLot 20 = .ok (.ifCond .eq 13, 3) := by decide +kernel
theorem dX11_byLot_23 : decode cX11_byLot 23 = .ok (.iload_n 3, 1) := by decide +kernel
theorem dX11_byLot_24 : decode cX11_byLot 24 = .ok (.i2l, 1) := by decide +kernel
theorem dX11_byLot_25 : decode cX11_byLot 25 = .ok (.lconst 0, 1) := by decide +kernel
theorem dX11_byLot_26 : decode cX11_byLot 26 = .ok (.lconst 1, 1) := by decide +kernel
theorem dX11_byLot_27 : decode cX11_byLot 27 = .ok (.invokestatic 68, 3) := by decide +kernel
theorem dX11_byLot_30 : decode cX11_byLot 30 = .ok (.ifCond .ne 6, 3) := by decide +kernel
theorem dX11_byLot_33 : decode cX11_byLot 33 = .ok (.bipush (-3), 2) := by decide +kernel
theorem dX11_byLot_35 : decode cX11_byLot 35 = .ok (.ireturn, 1) := by decide +kernel
theorem dX11_byLot_36 : decode cX11_byLot 36 = .ok (.iconst 0, 1) := by decide +kernel
theorem dX11_byLot_37 : decode cX11_byLot 37 = .ok (.istore 4, 2) := by decide +kernel
theorem dX11_byLot_39 : decode cX11_byLot 39 = .ok (.iconst 0, 1) := by decide +kernel
theorem dX11_byLot_40 : decode cX11_byLot 40 = .ok (.istore 5, 2) := by decide +kernel
theorem dX11_byLot_42 : decode cX11_byLot 42 = .ok (.aload_n 0, 1) := by decide +kernel
theorem dX11_byLot_43 : decode cX11_byLot 43 = .ok (.iconst 1, 1) := by decide +kernel
theorem dX11_byLot_44 : decode cX11_byLot 44 = .ok (.aload_n 0, 1) := by decide +kernel
theorem dX11_byLot_45 : decode cX11_byLot 45 = .ok (.getfield 35, 3) := by decide +kernel
theorem dX11_byLot_48 : decode cX11_byLot 48 = .ok (.iconst 0, 1) := by decide +kernel
theorem dX11_byLot_49 : decode cX11_byLot 49 = .ok (.iaload, 1) := by decide +kernel
theorem dX11_byLot_50 : decode cX11_byLot 50 = .ok (.ishl, 1) := by decide +kernel
theorem dX11_byLot_51 : decode cX11_byLot 51 = .ok (.iconst 1, 1) := by decide +kernel
theorem dX11_byLot_52 : decode cX11_byLot 52 = .ok (.isub, 1) := by decide +kernel
theorem dX11_byLot_53 : decode cX11_byLot 53 = .ok (.invokevirtual 202, 3) := by decide +kernel
theorem dX11_byLot_56 : decode cX11_byLot 56 = .ok (.istore 6, 2) := by decide +kernel
theorem dX11_byLot_58 : decode cX11_byLot 58 = .ok (.iload 6, 2) := by decide +kernel
theorem dX11_byLot_60 : decode cX11_byLot 60 = .ok (.ifCond .eq 97, 3) := by decide +kernel
theorem dX11_byLot_63 : decode cX11_byLot 63 = .ok (.aload_n 0, 1) := by decide +kernel
theorem dX11_byLot_64 : decode cX11_byLot 64 = .ok (.iconst 0, 1) := by decide +kernel
theorem dX11_byLot_65 : decode cX11_byLot 65 = .ok (.bipush 16, 2) := by decide +kernel
theorem dX11_byLot_67 : decode cX11_byLot 67 = .ok (.invokevirtual 165, 3) := by decide +kernel
theorem dX11_byLot_70 : decode cX11_byLot 70 = .ok (.iconst 0, 1) := by decide +kernel
theorem dX11_byLot_71 : decode cX11_byLot 71 = .ok (.istore 7, 2) := by decide +kernel
theorem dX11_byLot_73 : decode cX11_byLot 73 = .ok (.iload 7, 2) := by decide +kernel
theorem dX11_byLot_75 : decode cX11_byLot 75 = .ok (.aload_n 0, 1) := by decide +kernel
theorem dX11_byLot_76 : decode cX11_byLot 76 = .ok (.getfield 188, 3) := by decide +kernel
theorem dX11_byLot_79 : decode cX11_byLot 79 = .ok (.if_icmp .ge 66, 3) := by decide +kernel
theorem dX11_byLot_82 : decode cX11_byLot 82 = .ok (.aload_n 0, 1) := by decide +kernel
theorem dX11_byLot_83 : decode cX11_byLot 83 = .ok (.bipush 16, 2) := by decide +kernel
theorem dX11_byLot_85 : decode cX11_byLot 85 = .ok (.aload_n 0, 1) := by decide +kernel
theorem dX11_byLot_86 : decode cX11_byLot 86 = .ok (.getfield 47, 3) := by decide +kernel
theorem dX11_byLot_89 : decode cX11_byLot 89 = .ok (.iload 7, 2) := by decide +kernel
theorem dX11_byLot_91 : decode cX11_byLot 91 = .ok (.iaload, 1) := by decide +kernel
theorem dX11_byLot_92 : decode cX11_byLot 92 = .ok (.aload_n 0, 1) := by decide +kernel
theorem dX11_byLot_93 : decode cX11_byLot 93 = .ok (.getfield 23, 3) := by decide +kernel
theorem dX11_byLot_96 : decode cX11_byLot 96 = .ok (.aload_n 0, 1) := by decide +kernel
theorem dX11_byLot_97 : decode cX11_byLot 97 = .ok (.getfield 47, 3) := by decide +kernel
theorem dX11_byLot_100 : decode cX11_byLot 100 = .ok (.iload 7, 2) := by decide +kernel
theorem dX11_byLot_102 : decode cX11_byLot 102 = .ok (.iaload, 1) := by decide +kernel
theorem dX11_byLot_103 : decode cX11_byLot 103 = .ok (.iaload, 1) := by decide +kernel
theorem dX11_byLot_104 : decode cX11_byLot 104 = .ok (.invokevirtual 180, 3) := by decide +kernel
theorem dX11_byLot_107 : decode cX11_byLot 107 = .ok (.istore 8, 2) := by decide +kernel
theorem dX11_byLot_109 : decode cX11_byLot 109 = .ok (.iload 4, 2) := by decide +kernel
theorem dX11_byLot_111 : decode cX11_byLot 111 = .ok (.aload_n 0, 1) := by decide +kernel
theorem dX11_byLot_112 : decode cX11_byLot 112 = .ok (.getfield 47, 3) := by decide +kernel
theorem dX11_byLot_115 : decode cX11_byLot 115 = .ok (.iload 7, 2) := by decide +kernel
theorem dX11_byLot_117 : decode cX11_byLot 117 = .ok (.iaload, 1) := by decide +kernel
theorem dX11_byLot_118 : decode cX11_byLot 118 = .ok (.iload_n 1, 1) := by decide +kernel
theorem dX11_byLot_119 : decode cX11_byLot 119 = .ok (.if_icmp .ne 13, 3) := by decide +kernel
theorem dX11_byLot_122 : decode cX11_byLot 122 = .ok (.iload 8, 2) := by decide +kernel
theorem dX11_byLot_124 : decode cX11_byLot 124 = .ok (.iload_n 2, 1) := by decide +kernel
theorem dX11_byLot_125 : decode cX11_byLot 125 = .ok (.if_icmp .lt 7, 3) := by decide +kernel
theorem dX11_byLot_128 : decode cX11_byLot 128 = .ok (.iconst 1, 1) := by decide +kernel
theorem dX11_byLot_129 : decode cX11_byLot 129 = .ok (.goto 4, 3) := by decide +kernel
theorem dX11_byLot_132 : decode cX11_byLot 132 = .ok (.iconst 0, 1) := by decide +kernel
theorem dX11_byLot_133 : decode cX11_byLot 133 = .ok (.invokestatic 152, 3) := by decide +kernel
theorem dX11_byLot_136 : decode cX11_byLot 136 = .ok (.iadd, 1) := by decide +kernel
theorem dX11_byLot_137 : decode cX11_byLot 137 = .ok (.istore 4, 2) := by decide +kernel
theorem dX11_byLot_139 : decode cX11_byLot 139 = .ok (.iinc 7 1, 3) := by decide +kernel
theorem dX11_byLot_142 : decode cX11_byLot 142 = .ok (.goto (-69), 3) := by decide +kernel
theorem dX11_byLot_145 : decode cX11_byLot 145 = .ok (.iinc 5 1, 3) := by decide +kernel
theorem dX11_byLot_148 : decode cX11_byLot 148 = .ok (.aload_n 0, 1) := by decide +kernel
theorem dX11_byLot_149 : decode cX11_byLot 149 = .ok (.invokevirtual 211, 3) := by decide +kernel
theorem dX11_byLot_152 : decode cX11_byLot 152 = .ok (.istore 6, 2) := by decide +kernel
theorem dX11_byLot_154 : decode cX11_byLot 154 = .ok (.goto (-96), 3) := by decide +kernel
theorem dX11_byLot_157 : decode cX11_byLot 157 = .ok (.iload 5, 2) := by decide +kernel
theorem dX11_byLot_159 : decode cX11_byLot 159 = .ok (.iload 4, 2) := by decide +kernel
theorem dX11_byLot_161 : decode cX11_byLot 161 = .ok (.invokestatic 222, 3) := by decide +kernel
theorem dX11_byLot_164 : decode cX11_byLot 164 = .ok (.istore 7, 2) := by decide +kernel
theorem dX11_byLot_166 : decode cX11_byLot 166 = .ok (.iload_n 3, 1) := by decide +kernel
theorem dX11_byLot_167 : decode cX11_byLot 167 = .ok (.ifCond .ne 11, 3) := by decide +kernel
theorem dX11_byLot_170 : decode cX11_byLot 170 = .ok (.iload 4, 2) := by decide +kernel
theorem dX11_byLot_172 : decode cX11_byLot 172 = .ok (.iload 7, 2) := by decide +kernel
theorem dX11_byLot_174 : decode cX11_byLot 174 = .ok (.idiv, 1) := by decide +kernel
theorem dX11_byLot_175 : decode cX11_byLot 175 = .ok (.goto 8, 3) := by decide +kernel
theorem dX11_byLot_178 : decode cX11_byLot 178 = .ok (.iload 5, 2) := by decide +kernel
theorem dX11_byLot_180 : decode cX11_byLot 180 = .ok (.iload 7, 2) := by decide +kernel
theorem dX11_byLot_182 : decode cX11_byLot 182 = .ok (.idiv, 1) := by decide +kernel
theorem dX11_byLot_183 : decode cX11_byLot 183 = .ok (.ireturn, 1) := by decide +kernel
theorem dX11_orders_0 : decode cX11_orders 0 = .ok (.aload_n 0, 1) := by decide +kernel
theorem dX11_orders_1 : decode cX11_orders 1 = .ok (.iload_n 1, 1) := by decide +kernel
theorem dX11_orders_2 : decode cX11_orders 2 = .ok (.invokevirtual 194, 3) := by decide +kernel
theorem dX11_orders_5 : decode cX11_orders 5 = .ok (.ifCond .ne 6, 3) := by decide +kernel
theorem dX11_orders_8 : decode cX11_orders 8 = .ok (.bipush (-2), 2) := by decide +kernel
theorem dX11_orders_10 : decode cX11_orders 10 = .ok (.ireturn, 1) := by decide +kernel
theorem dX11_orders_11 : decode cX11_orders 11 = .ok (.iload_n 2, 1) := by decide +kernel
theorem dX11_orders_12 : decode cX11_orders 12 = .ok (.i2l, 1) := by decide +kernel
theorem dX11_orders_13 : decode cX11_orders 13 = .ok (.ldc2_w 225, 3) := by decide +kernel
theorem dX11_orders_16 : decode cX11_orders 16 = .ok (.ldc2_w 227, 3) := by decide +kernel
theorem dX11_orders_19 : decode cX11_orders 19 = .ok (.invokestatic 68, 3) := by decide +kernel
theorem dX11_orders_22 : decode cX11_orders 22 = .ok (.ifCond .ne 6, 3) := by decide +kernel
theorem dX11_orders_25 : decode cX11_orders 25 = .ok (.bipush (-3), 2) := by decide +kernel
theorem dX11_orders_27 : decode cX11_orders 27 = .ok (.ireturn, 1) := by decide +kernel
theorem dX11_orders_28 : decode cX11_orders 28 = .ok (.iconst 0, 1) := by decide +kernel
theorem dX11_orders_29 : decode cX11_orders 29 = .ok (.istore_n 3, 1) := by decide +kernel
theorem dX11_orders_30 : decode cX11_orders 30 = .ok (.aload_n 0, 1) := by decide +kernel
theorem dX11_orders_31 : decode cX11_orders 31 = .ok (.iconst 1, 1) := by decide +kernel
theorem dX11_orders_32 : decode cX11_orders 32 = .ok (.aload_n 0, 1) := by decide +kernel
theorem dX11_orders_33 : decode cX11_orders 33 = .ok (.getfield 35, 3) := by decide +kernel
theorem dX11_orders_36 : decode cX11_orders 36 = .ok (.iconst 0, 1) := by decide +kernel
theorem dX11_orders_37 : decode cX11_orders 37 = .ok (.iaload, 1) := by decide +kernel
theorem dX11_orders_38 : decode cX11_orders 38 = .ok (.ishl, 1) := by decide +kernel
theorem dX11_orders_39 : decode cX11_orders 39 = .ok (.iconst 1, 1) := by decide +kernel
theorem dX11_orders_40 : decode cX11_orders 40 = .ok (.isub, 1) := by decide +kernel
theorem dX11_orders_41 : decode cX11_orders 41 = .ok (.invokevirtual 202, 3) := by decide +kernel
theorem dX11_orders_44 : decode cX11_orders 44 = .ok (.istore 4, 2) := by decide +kernel
theorem dX11_orders_46 : decode cX11_orders 46 = .ok (.iload 4, 2) := by decide +kernel
theorem dX11_orders_48 : decode cX11_orders 48 = .ok (.ifCond .eq 92, 3) := by decide +kernel
theorem dX11_orders_51 : decode cX11_orders 51 = .ok (.aload_n 0, 1) := by decide +kernel
theorem dX11_orders_52 : decode cX11_orders 52 = .ok (.iconst 0, 1) := by decide +kernel
theorem dX11_orders_53 : decode cX11_orders 53 = .ok (.bipush 16, 2) := by decide +kernel
theorem dX11_orders_55 : decode cX11_orders 55 = .ok (.invokevirtual 165, 3) := by decide +kernel
theorem dX11_orders_58 : decode cX11_orders 58 = .ok (.aload_n 0, 1) := by decide +kernel
theorem dX11_orders_59 : decode cX11_orders 59 = .ok (.bipush 16, 2) := by decide +kernel
theorem dX11_orders_61 : decode cX11_orders 61 = .ok (.invokevirtual 133, 3) := by decide +kernel
theorem dX11_orders_64 : decode cX11_orders 64 = .ok (.iconst 0, 1) := by decide +kernel
theorem dX11_orders_65 : decode cX11_orders 65 = .ok (.istore 5, 2) := by decide +kernel
theorem dX11_orders_67 : decode cX11_orders 67 = .ok (.iload 5, 2) := by decide +kernel
theorem dX11_orders_69 : decode cX11_orders 69 = .ok (.aload_n 0, 1) := by decide +kernel
theorem dX11_orders_70 : decode cX11_orders 70 = .ok (.getfield 188, 3) := by decide +kernel
theorem dX11_orders_73 : decode cX11_orders 73 = .ok (.if_icmp .ge 36, 3) := by decide +kernel
theorem dX11_orders_76 : decode cX11_orders 76 = .ok (.aload_n 0, 1) := by decide +kernel
theorem dX11_orders_77 : decode cX11_orders 77 = .ok (.bipush 16, 2) := by decide +kernel
theorem dX11_orders_79 : decode cX11_orders 79 = .ok (.aload_n 0, 1) := by decide +kernel
theorem dX11_orders_80 : decode cX11_orders 80 = .ok (.getfield 47, 3) := by decide +kernel
theorem dX11_orders_83 : decode cX11_orders 83 = .ok (.iload 5, 2) := by decide +kernel
theorem dX11_orders_85 : decode cX11_orders 85 = .ok (.iaload, 1) := by decide +kernel
theorem dX11_orders_86 : decode cX11_orders 86 = .ok (.aload_n 0, 1) := by decide +kernel
theorem dX11_orders_87 : decode cX11_orders 87 = .ok (.getfield 23, 3) := by decide +kernel
theorem dX11_orders_90 : decode cX11_orders 90 = .ok (.aload_n 0, 1) := by decide +kernel
theorem dX11_orders_91 : decode cX11_orders 91 = .ok (.getfield 47, 3) := by decide +kernel
theorem dX11_orders_94 : decode cX11_orders 94 = .ok (.iload 5, 2) := by decide +kernel
theorem dX11_orders_96 : decode cX11_orders 96 = .ok (.iaload, 1) := by decide +kernel
theorem dX11_orders_97 : decode cX11_orders 97 = .ok (.iaload, 1) := by decide +kernel
theorem dX11_orders_98 : decode cX11_orders 98 = .ok (.invokevirtual 180, 3) := by decide +kernel
theorem dX11_orders_101 : decode cX11_orders 101 = .ok (.istore 6, 2) := by decide +kernel
theorem dX11_orders_103 : decode cX11_orders 103 = .ok (.iinc 5 1, 3) := by decide +kernel
theorem dX11_orders_106 : decode cX11_orders 106 = .ok (.goto (-39), 3) := by decide +kernel
theorem dX11_orders_109 : decode cX11_orders 109 = .ok (.aload_n 0, 1) := by decide +kernel
theorem dX11_orders_110 : decode cX11_orders 110 = .ok (.getfield 7, 3) := by decide +kernel
theorem dX11_orders_113 : decode cX11_orders 113 = .ok (.bipush 29, 2) := by decide +kernel
theorem dX11_orders_115 : decode cX11_orders 115 = .ok (.iaload, 1) := by decide +kernel
theorem dX11_orders_116 : decode cX11_orders 116 = .ok (.iload_n 1, 1) := by decide +kernel
theorem dX11_orders_117 : decode cX11_orders 117 = .ok (.if_icmp .ne 14, 3) := by decide +kernel
theorem dX11_orders_120 : decode cX11_orders 120 = .ok (.iload_n 3, 1) := by decide +kernel
theorem dX11_orders_121 : decode cX11_orders 121 = .ok (.ifCond .ne 7, 3) := by decide +kernel
theorem dX11_orders_124 : decode cX11_orders 124 = .ok (.aload_n 0, 1) := by decide +kernel
theorem dX11_orders_125 : decode cX11_orders 125 = .ok (.invokevirtual 208, 3) := by decide +kernel
theorem dX11_orders_128 : decode cX11_orders 128 = .ok (.iinc 3 1, 3) := by decide +kernel
theorem dX11_orders_131 : decode cX11_orders 131 = .ok (.aload_n 0, 1) := by decide +kernel
theorem dX11_orders_132 : decode cX11_orders 132 = .ok (.invokevirtual 211, 3) := by decide +kernel
theorem dX11_orders_135 : decode cX11_orders 135 = .ok (.istore 4, 2) := by decide +kernel
theorem dX11_orders_137 : decode cX11_orders 137 = .ok (.goto (-91), 3) := by decide +kernel
theorem dX11_orders_140 : decode cX11_orders 140 = .ok (.iload_n 2, 1) := by decide +kernel
theorem dX11_orders_141 : decode cX11_orders 141 = .ok (.iconst (-1), 1) := by decide +kernel
theorem dX11_orders_142 : decode cX11_orders 142 = .ok (.if_icmp .ne 7, 3) := by decide +kernel
theorem dX11_orders_145 : decode cX11_orders 145 = .ok (.iload_n 3, 1) := by decide +kernel
theorem dX11_orders_146 : decode cX11_orders 146 = .ok (.goto 25, 3) := by decide +kernel
theorem dX11_orders_149 : decode cX11_orders 149 = .ok (.iload_n 3, 1) := by decide +kernel
theorem dX11_orders_150 : decode cX11_orders 150 = .ok (.ifCond .eq 11, 3) := by decide +kernel
theorem dX11_orders_153 : decode cX11_orders 153 = .ok (.iload_n 2, 1) := by decide +kernel
theorem dX11_orders_154 : decode cX11_orders 154 = .ok (.aload_n 0, 1) := by decide +kernel
theorem dX11_orders_155 : decode cX11_orders 155 = .ok (.getfield 188, 3) := by decide +kernel
theorem dX11_orders_158 : decode cX11_orders 158 = .ok (.if_icmp .lt 7, 3) := by decide +kernel
theorem dX11_orders_161 : decode cX11_orders 161 = .ok (.iconst (-1), 1) := by decide +kernel
theorem dX11_orders_162 : decode cX11_orders 162 = .ok (.goto 9, 3) := by decide +kernel
theorem dX11_orders_165 : decode cX11_orders 165 = .ok (.aload_n 0, 1) := by decide +kernel
theorem dX11_orders_166 : decode cX11_orders 166 = .ok (.getfield 50, 3) := by decide +kernel
theorem dX11_orders_169 : decode cX11_orders 169 = .ok (.iload_n 2, 1) := by decide +kernel
theorem dX11_orders_170 : decode cX11_orders 170 = .ok (.iaload, 1) := by decide +kernel
theorem dX11_orders_171 : decode cX11_orders 171 = .ok (.ireturn, 1) := by decide +kernel
theorem dX11_tells_0 : decode cX11_tells 0 = .ok (.aload_n 0, 1) := by decide +kernel
theorem dX11_tells_1 : decode cX11_tells 1 = .ok (.iload_n 1, 1) := by decide +kernel
theorem dX11_tells_2 : decode cX11_tells 2 = .ok (.invokevirtual 144, 3) := by decide +kernel
theorem dX11_tells_5 : decode cX11_tells 5 = .ok (.ifCond .ne 6, 3) := by decide +kernel
theorem dX11_tells_8 : decode cX11_tells 8 = .ok (.bipush (-2), 2) := by decide +kernel
theorem dX11_tells_10 : decode cX11_tells 10 = .ok (.ireturn, 1) := by decide +kernel
theorem dX11_tells_11 : decode cX11_tells 11 = .ok (.iload_n 2, 1) := by decide +kernel
theorem dX11_tells_12 : decode cX11_tells 12 = .ok (.i2l, 1) := by decide +kernel
theorem dX11_tells_13 : decode cX11_tells 13 = .ok (.lconst 0, 1) := by decide +kernel
theorem dX11_tells_14 : decode cX11_tells 14 = .ok (.ldc2_w 229, 3) := by decide +kernel
theorem dX11_tells_17 : decode cX11_tells 17 = .ok (.invokestatic 68, 3) := by decide +kernel
theorem dX11_tells_20 : decode cX11_tells 20 = .ok (.ifCond .eq 15, 3) := by decide +kernel
theorem dX11_tells_23 : decode cX11_tells 23 = .ok (.iload_n 3, 1) := by decide +kernel
theorem dX11_tells_24 : decode cX11_tells 24 = .ok (.i2l, 1) := by decide +kernel
theorem dX11_tells_25 : decode cX11_tells 25 = .ok (.lconst 0, 1) := by decide +kernel
theorem dX11_tells_26 : decode cX11_tells 26 = .ok (.ldc2_w 197, 3) := by decide +kernel
theorem dX11_tells_29 : decode cX11_tells 29 = .ok (.invokestatic 68, 3) := by decide +kernel
theorem dX11_tells_32 : decode cX11_tells 32 = .ok (.ifCond .ne 6, 3) := by decide +kernel
theorem dX11_tells_35 : decode cX11_tells 35 = .ok (.bipush (-3), 2) := by decide +kernel
theorem dX11_tells_37 : decode cX11_tells 37 = .ok (.ireturn, 1) := by decide +kernel
theorem dX11_tells_38 : decode cX11_tells 38 = .ok (.aload_n 0, 1) := by decide +kernel
theorem dX11_tells_39 : decode cX11_tells 39 = .ok (.getfield 136, 3) := by decide +kernel
theorem dX11_tells_42 : decode cX11_tells 42 = .ok (.bipush 6, 2) := by decide +kernel
theorem dX11_tells_44 : decode cX11_tells 44 = .ok (.if_icmp .ne 6, 3) := by decide +kernel
theorem dX11_tells_47 : decode cX11_tells 47 = .ok (.bipush (-5), 2) := by decide +kernel
theorem dX11_tells_49 : decode cX11_tells 49 = .ok (.ireturn, 1) := by decide +kernel
theorem dX11_tells_50 : decode cX11_tells 50 = .ok (.aload_n 0, 1) := by decide +kernel
theorem dX11_tells_51 : decode cX11_tells 51 = .ok (.getfield 53, 3) := by decide +kernel
theorem dX11_tells_54 : decode cX11_tells 54 = .ok (.aload_n 0, 1) := by decide +kernel
theorem dX11_tells_55 : decode cX11_tells 55 = .ok (.getfield 136, 3) := by decide +kernel
theorem dX11_tells_58 : decode cX11_tells 58 = .ok (.iload_n 1, 1) := by decide +kernel
theorem dX11_tells_59 : decode cX11_tells 59 = .ok (.iastore, 1) := by decide +kernel
theorem dX11_tells_60 : decode cX11_tells 60 = .ok (.aload_n 0, 1) := by decide +kernel
theorem dX11_tells_61 : decode cX11_tells 61 = .ok (.getfield 56, 3) := by decide +kernel
theorem dX11_tells_64 : decode cX11_tells 64 = .ok (.aload_n 0, 1) := by decide +kernel
theorem dX11_tells_65 : decode cX11_tells 65 = .ok (.getfield 136, 3) := by decide +kernel
theorem dX11_tells_68 : decode cX11_tells 68 = .ok (.iload_n 2, 1) := by decide +kernel
theorem dX11_tells_69 : decode cX11_tells 69 = .ok (.iastore, 1) := by decide +kernel
theorem dX11_tells_70 : decode cX11_tells 70 = .ok (.aload_n 0, 1) := by decide +kernel
theorem dX11_tells_71 : decode cX11_tells 71 = .ok (.getfield 59, 3) := by decide +kernel
theorem dX11_tells_74 : decode cX11_tells 74 = .ok (.aload_n 0, 1) := by decide +kernel
theorem dX11_tells_75 : decode cX11_tells 75 = .ok (.getfield 136, 3) := by decide +kernel
theorem dX11_tells_78 : decode cX11_tells 78 = .ok (.iload_n 3, 1) := by decide +kernel
theorem dX11_tells_79 : decode cX11_tells 79 = .ok (.iastore, 1) := by decide +kernel
theorem dX11_tells_80 : decode cX11_tells 80 = .ok (.aload_n 0, 1) := by decide +kernel
theorem dX11_tells_81 : decode cX11_tells 81 = .ok (.dup, 1) := by decide +kernel
theorem dX11_tells_82 : decode cX11_tells 82 = .ok (.getfield 136, 3) := by decide +kernel
theorem dX11_tells_85 : decode cX11_tells 85 = .ok (.iconst 1, 1) := by decide +kernel
theorem dX11_tells_86 : decode cX11_tells 86 = .ok (.iadd, 1) := by decide +kernel
theorem dX11_tells_87 : decode cX11_tells 87 = .ok (.putfield 136, 3) := by decide +kernel
theorem dX11_tells_90 : decode cX11_tells 90 = .ok (.aload_n 0, 1) := by decide +kernel
theorem dX11_tells_91 : decode cX11_tells 91 = .ok (.getfield 136, 3) := by decide +kernel
theorem dX11_tells_94 : decode cX11_tells 94 = .ok (.ireturn, 1) := by decide +kernel
theorem dX11_forget_0 : decode cX11_forget 0 = .ok (.aload_n 0, 1) := by decide +kernel
theorem dX11_forget_1 : decode cX11_forget 1 = .ok (.getfield 136, 3) := by decide +kernel
theorem dX11_forget_4 : decode cX11_forget 4 = .ok (.istore_n 1, 1) := by decide +kernel
theorem dX11_forget_5 : decode cX11_forget 5 = .ok (.aload_n 0, 1) := by decide +kernel
theorem dX11_forget_6 : decode cX11_forget 6 = .ok (.iconst 0, 1) := by decide +kernel
theorem dX11_forget_7 : decode cX11_forget 7 = .ok (.putfield 136, 3) := by decide +kernel
theorem dX11_forget_10 : decode cX11_forget 10 = .ok (.iload_n 1, 1) := by decide +kernel
theorem dX11_forget_11 : decode cX11_forget 11 = .ok (.ireturn, 1) := by decide +kernel
theorem dX11_smeltBehind_0 : decode cX11_smeltBehind 0 = .ok (.aload_n 0, 1) := by decide +kernel
theorem dX11_smeltBehind_1 : decode cX11_smeltBehind 1 = .ok (.bipush 16, 2) := by decide +kernel
theorem dX11_smeltBehind_3 : decode cX11_smeltBehind 3 = .ok (.invokevirtual 133, 3) := by decide +kernel
theorem dX11_smeltBehind_6 : decode cX11_smeltBehind 6 = .ok (.iconst 0, 1) := by decide +kernel
theorem dX11_smeltBehind_7 : decode cX11_smeltBehind 7 = .ok (.istore_n 3, 1) := by decide +kernel
theorem dX11_smeltBehind_8 : decode cX11_smeltBehind 8 = .ok (.iload_n 3, 1) := by decide +kernel
theorem dX11_smeltBehind_9 : decode cX11_smeltBehind 9 = .ok (.iload_n 2, 1) := by decide +kernel
theorem dX11_smeltBehind_10 : decode cX11_smeltBehind 10 = .ok (.if_icmp .ge 27, 3) := by decide +kernel
theorem dX11_smeltBehind_13 : decode cX11_smeltBehind 13 = .ok (.aload_n 0, 1) := by decide +kernel
theorem dX11_smeltBehind_14 : decode cX11_smeltBehind 14 = .ok (.bipush 16, 2) := by decide +kernel
theorem dX11_smeltBehind_16 : decode cX11_smeltBehind 16 = .ok (.aload_n 0, 1) := by decide +kernel
theorem dX11_smeltBehind_17 : decode cX11_smeltBehind 17 = .ok (.getfield 23, 3) := by decide +kernel
theorem dX11_smeltBehind_20 : decode cX11_smeltBehind 20 = .ok (.iload_n 1, 1) := by decide +kernel
theorem dX11_smeltBehind_21 : decode cX11_smeltBehind 21 = .ok (.iaload, 1) := by decide +kernel
theorem dX11_smeltBehind_22 : decode cX11_smeltBehind 22 = .ok (.aload_n 0, 1) := by decide +kernel
theorem dX11_smeltBehind_23 : decode cX11_smeltBehind 23 = .ok (.getfield 26, 3) := by decide +kernel
theorem dX11_smeltBehind_26 : decode cX11_smeltBehind 26 = .ok (.iload_n 1, 1) := by decide +kernel
theorem dX11_smeltBehind_27 : decode cX11_smeltBehind 27 = .ok (.iaload, 1) := by decide +kernel
theorem dX11_smeltBehind_28 : decode cX11_smeltBehind 28 = .ok (.invokevirtual 168, 3) := by decide +kernel
theorem dX11_smeltBehind_31 : decode cX11_smeltBehind 31 = .ok (.iinc 3 1, 3) := by decide +kernel
theorem dX11_smeltBehind_34 : decode cX11_smeltBehind 34 = .ok (.goto (-26), 3) := by decide +kernel
theorem dX11_smeltBehind_37 : decode cX11_smeltBehind 37 = .ok (.aload_n 0, 1) := by decide +kernel
theorem dX11_smeltBehind_38 : decode cX11_smeltBehind 38 = .ok (.bipush 16, 2) := by decide +kernel
theorem dX11_smeltBehind_40 : decode cX11_smeltBehind 40 = .ok (.iload_n 1, 1) := by decide +kernel
theorem dX11_smeltBehind_41 : decode cX11_smeltBehind 41 = .ok (.invokevirtual 156, 3) := by decide +kernel
theorem dX11_smeltBehind_44 : decode cX11_smeltBehind 44 = .ok (.ireturn, 1) := by decide +kernel
theorem dX11_smallest_0 : decode cX11_smallest 0 = .ok (.iload_n 1, 1) := by decide +kernel
theorem dX11_smallest_1 : decode cX11_smallest 1 = .ok (.i2l, 1) := by decide +kernel
theorem dX11_smallest_2 : decode cX11_smallest 2 = .ok (.lconst 0, 1) := by decide +kernel
theorem dX11_smallest_3 : decode cX11_smallest 3 = .ok (.ldc2_w 142, 3) := by decide +kernel
theorem dX11_smallest_6 : decode cX11_smallest 6 = .ok (.invokestatic 68, 3) := by decide +kernel
theorem dX11_smallest_9 : decode cX11_smallest 9 = .ok (.ifCond .ne 6, 3) := by decide +kernel
theorem dX11_smallest_12 : decode cX11_smallest 12 = .ok (.bipush (-2), 2) := by decide +kernel
theorem dX11_smallest_14 : decode cX11_smallest 14 = .ok (.ireturn, 1) := by decide +kernel
theorem dX11_smallest_15 : decode cX11_smallest 15 = .ok (.aload_n 0, 1) := by decide +kernel
theorem dX11_smallest_16 : decode cX11_smallest 16 = .ok (.getfield 17, 3) := by decide +kernel
theorem dX11_smallest_19 : decode cX11_smallest 19 = .ok (.iload_n 1, 1) := by decide +kernel
theorem dX11_smallest_20 : decode cX11_smallest 20 = .ok (.iaload, 1) := by decide +kernel
theorem dX11_smallest_21 : decode cX11_smallest 21 = .ok (.istore_n 2, 1) := by decide +kernel
theorem dX11_smallest_22 : decode cX11_smallest 22 = .ok (.iconst (-1), 1) := by decide +kernel
theorem dX11_smallest_23 : decode cX11_smallest 23 = .ok (.istore_n 3, 1) := by decide +kernel
theorem dX11_smallest_24 : decode cX11_smallest 24 = .ok (.bipush 9, 2) := by decide +kernel
theorem dX11_smallest_26 : decode cX11_smallest 26 = .ok (.istore 4, 2) := by decide +kernel
theorem dX11_smallest_28 : decode cX11_smallest 28 = .ok (.iload 4, 2) := by decide +kernel
theorem dX11_smallest_30 : decode cX11_smallest 30 = .ok (.ifCond .lt 106, 3) := by decide +kernel
theorem dX11_smallest_33 : decode cX11_smallest 33 = .ok (.aload_n 0, 1) := by decide +kernel
theorem dX11_smallest_34 : decode cX11_smallest 34 = .ok (.getfield 17, 3) := by decide +kernel
theorem dX11_smallest_37 : decode cX11_smallest 37 = .ok (.iload_n 1, 1) := by decide +kernel
theorem dX11_smallest_38 : decode cX11_smallest 38 = .ok (.iload 4, 2) := by decide +kernel
theorem dX11_smallest_40 : decode cX11_smallest 40 = .ok (.iastore, 1) := by decide +kernel
theorem dX11_smallest_41 : decode cX11_smallest 41 = .ok (.iconst 1, 1) := by decide +kernel
theorem dX11_smallest_42 : decode cX11_smallest 42 = .ok (.istore 5, 2) := by decide +kernel
theorem dX11_smallest_44 : decode cX11_smallest 44 = .ok (.iconst 0, 1) := by decide +kernel
theorem dX11_smallest_45 : decode cX11_smallest 45 = .ok (.istore 6, 2) := by decide +kernel
theorem dX11_smallest_47 : decode cX11_smallest 47 = .ok (.iload 6, 2) := by decide +kernel
theorem dX11_smallest_49 : decode cX11_smallest 49 = .ok (.aload_n 0, 1) := by decide +kernel
theorem dX11_smallest_50 : decode cX11_smallest 50 = .ok (.getfield 136, 3) := by decide +kernel
theorem dX11_smallest_53 : decode cX11_smallest 53 = .ok (.if_icmp .ge 65, 3) := by decide +kernel
theorem dX11_smallest_56 : decode cX11_smallest 56 = .ok (.iload 5, 2) := by decide +kernel
theorem dX11_smallest_58 : decode cX11_smallest 58 = .ok (.ifCond .eq 51, 3) := by decide +kernel
theorem dX11_smallest_61 : decode cX11_smallest 61 = .ok (.aload_n 0, 1) := by decide +kernel
theorem dX11_smallest_62 : decode cX11_smallest 62 = .ok (.getfield 26, 3) := by decide +kernel
theorem dX11_smallest_65 : decode cX11_smallest 65 = .ok (.aload_n 0, 1) := by decide +kernel
theorem dX11_smallest_66 : decode cX11_smallest 66 = .ok (.getfield 53, 3) := by decide +kernel
theorem dX11_smallest_69 : decode cX11_smallest 69 = .ok (.iload 6, 2) := by decide +kernel
theorem dX11_smallest_71 : decode cX11_smallest 71 = .ok (.iaload, 1) := by decide +kernel
theorem dX11_smallest_72 : decode cX11_smallest 72 = .ok (.iaload, 1) := by decide +kernel
theorem dX11_smallest_73 : decode cX11_smallest 73 = .ok (.iload_n 1, 1) := by decide +kernel
theorem dX11_smallest_74 : decode cX11_smallest 74 = .ok (.if_icmp .ne 31, 3) := by decide +kernel
theorem dX11_smallest_77 : decode cX11_smallest 77 = .ok (.aload_n 0, 1) := by decide +kernel
theorem dX11_smallest_78 : decode cX11_smallest 78 = .ok (.aload_n 0, 1) := by decide +kernel
theorem dX11_smallest_79 : decode cX11_smallest 79 = .ok (.getfield 53, 3) := by decide +kernel
theorem dX11_smallest_82 : decode cX11_smallest 82 = .ok (.iload 6, 2) := by decide +kernel
theorem dX11_smallest_84 : decode cX11_smallest 84 = .ok (.iaload, 1) := by decide +kernel
theorem dX11_smallest_85 : decode cX11_smallest 85 = .ok (.aload_n 0, 1) := by decide +kernel
theorem dX11_smallest_86 : decode cX11_smallest 86 = .ok (.getfield 56, 3) := by decide +kernel
theorem dX11_smallest_89 : decode cX11_smallest 89 = .ok (.iload 6, 2) := by decide +kernel
theorem dX11_smallest_91 : decode cX11_smallest 91 = .ok (.iaload, 1) := by decide +kernel
theorem dX11_smallest_92 : decode cX11_smallest 92 = .ok (.invokevirtual 231, 3) := by decide +kernel
theorem dX11_smallest_95 : decode cX11_smallest 95 = .ok (.aload_n 0, 1) := by decide +kernel
theorem dX11_smallest_96 : decode cX11_smallest 96 = .ok (.getfield 59, 3) := by decide +kernel
theorem dX11_smallest_99 : decode cX11_smallest 99 = .ok (.iload 6, 2) := by decide +kernel
theorem dX11_smallest_101 : decode cX11_smallest 101 = .ok (.iaload, 1) := by decide +kernel
theorem dX11_smallest_102 : decode cX11_smallest 102 = .ok (.if_icmp .ne 7, 3) := by decide +kernel
theorem dX11_smallest_105 : decode cX11_smallest 105 = .ok (.iconst 1, 1) := by decide +kernel
theorem dX11_smallest_106 : decode cX11_smallest 106 = .ok (.goto 4, 3) := by decide +kernel
theorem dX11_smallest_109 : decode cX11_smallest 109 = .ok (.iconst 0, 1) := by decide +kernel
theorem dX11_smallest_110 : decode cX11_smallest 110 = .ok (.istore 5, 2) := by decide +kernel
theorem dX11_smallest_112 : decode cX11_smallest 112 = .ok (.iinc 6 1, 3) := by decide +kernel
theorem dX11_smallest_115 : decode cX11_smallest 115 = .ok (.goto (-68), 3) := by decide +kernel
theorem dX11_smallest_118 : decode cX11_smallest 118 = .ok (.iload 5, 2) := by decide +kernel
theorem dX11_smallest_120 : decode cX11_smallest 120 = .ok (.ifCond .eq 8, 3) := by decide +kernel
theorem dX11_smallest_123 : decode cX11_smallest 123 = .ok (.iload 4, 2) := by decide +kernel
theorem dX11_smallest_125 : decode cX11_smallest 125 = .ok (.goto 4, 3) := by decide +kernel
theorem dX11_smallest_128 : decode cX11_smallest 128 = .ok (.iload_n 3, 1) := by decide +kernel
theorem dX11_smallest_129 : decode cX11_smallest 129 = .ok (.istore_n 3, 1) := by decide +kernel
theorem dX11_smallest_130 : decode cX11_smallest 130 = .ok (.iinc 4 (-1), 3) := by decide +kernel
theorem dX11_smallest_133 : decode cX11_smallest 133 = .ok (.goto (-105), 3) := by decide +kernel
theorem dX11_smallest_136 : decode cX11_smallest 136 = .ok (.aload_n 0, 1) := by decide +kernel
theorem dX11_smallest_137 : decode cX11_smallest 137 = .ok (.getfield 17, 3) := by decide +kernel
theorem dX11_smallest_140 : decode cX11_smallest 140 = .ok (.iload_n 1, 1) := by decide +kernel
theorem dX11_smallest_141 : decode cX11_smallest 141 = .ok (.iload_n 2, 1) := by decide +kernel
theorem dX11_smallest_142 : decode cX11_smallest 142 = .ok (.iastore, 1) := by decide +kernel
theorem dX11_smallest_143 : decode cX11_smallest 143 = .ok (.iload_n 3, 1) := by decide +kernel
theorem dX11_smallest_144 : decode cX11_smallest 144 = .ok (.ireturn, 1) := by decide +kernel
theorem dX11_count_0 : decode cX11_count 0 = .ok (.iload_n 1, 1) := by decide +kernel
theorem dX11_count_1 : decode cX11_count 1 = .ok (.tableswitch 136 0 10 #[59, 66, 73, 81, 89, 97, 105, 113, 121, 126, 131], 59) := by decide +kernel
theorem dX11_count_60 : decode cX11_count 60 = .ok (.aload_n 0, 1) := by decide +kernel
theorem dX11_count_61 : decode cX11_count 61 = .ok (.getfield 35, 3) := by decide +kernel
theorem dX11_count_64 : decode cX11_count 64 = .ok (.iconst 0, 1) := by decide +kernel
theorem dX11_count_65 : decode cX11_count 65 = .ok (.iaload, 1) := by decide +kernel
theorem dX11_count_66 : decode cX11_count 66 = .ok (.ireturn, 1) := by decide +kernel
theorem dX11_count_67 : decode cX11_count 67 = .ok (.aload_n 0, 1) := by decide +kernel
theorem dX11_count_68 : decode cX11_count 68 = .ok (.getfield 38, 3) := by decide +kernel
theorem dX11_count_71 : decode cX11_count 71 = .ok (.iconst 0, 1) := by decide +kernel
theorem dX11_count_72 : decode cX11_count 72 = .ok (.iaload, 1) := by decide +kernel
theorem dX11_count_73 : decode cX11_count 73 = .ok (.ireturn, 1) := by decide +kernel
theorem dX11_count_74 : decode cX11_count 74 = .ok (.aload_n 0, 1) := by decide +kernel
theorem dX11_count_75 : decode cX11_count 75 = .ok (.getfield 7, 3) := by decide +kernel
theorem dX11_count_78 : decode cX11_count 78 = .ok (.bipush 12, 2) := by decide +kernel
theorem dX11_count_80 : decode cX11_count 80 = .ok (.iaload, 1) := by decide +kernel
theorem dX11_count_81 : decode cX11_count 81 = .ok (.ireturn, 1) := by decide +kernel
theorem dX11_count_82 : decode cX11_count 82 = .ok (.aload_n 0, 1) := by decide +kernel
theorem dX11_count_83 : decode cX11_count 83 = .ok (.getfield 7, 3) := by decide +kernel
theorem dX11_count_86 : decode cX11_count 86 = .ok (.bipush 10, 2) := by decide +kernel
theorem dX11_count_88 : decode cX11_count 88 = .ok (.iaload, 1) := by decide +kernel
theorem dX11_count_89 : decode cX11_count 89 = .ok (.ireturn, 1) := by decide +kernel
theorem dX11_count_90 : decode cX11_count 90 = .ok (.aload_n 0, 1) := by decide +kernel
theorem dX11_count_91 : decode cX11_count 91 = .ok (.getfield 7, 3) := by decide +kernel
theorem dX11_count_94 : decode cX11_count 94 = .ok (.bipush 11, 2) := by decide +kernel
theorem dX11_count_96 : decode cX11_count 96 = .ok (.iaload, 1) := by decide +kernel
theorem dX11_count_97 : decode cX11_count 97 = .ok (.ireturn, 1) := by decide +kernel
theorem dX11_count_98 : decode cX11_count 98 = .ok (.aload_n 0, 1) := by decide +kernel
theorem dX11_count_99 : decode cX11_count 99 = .ok (.getfield 7, 3) := by decide +kernel
theorem dX11_count_102 : decode cX11_count 102 = .ok (.bipush 13, 2) := by decide +kernel
theorem dX11_count_104 : decode cX11_count 104 = .ok (.iaload, 1) := by decide +kernel
theorem dX11_count_105 : decode cX11_count 105 = .ok (.ireturn, 1) := by decide +kernel
theorem dX11_count_106 : decode cX11_count 106 = .ok (.aload_n 0, 1) := by decide +kernel
theorem dX11_count_107 : decode cX11_count 107 = .ok (.getfield 7, 3) := by decide +kernel
theorem dX11_count_110 : decode cX11_count 110 = .ok (.bipush 14, 2) := by decide +kernel
theorem dX11_count_112 : decode cX11_count 112 = .ok (.iaload, 1) := by decide +kernel
theorem dX11_count_113 : decode cX11_count 113 = .ok (.ireturn, 1) := by decide +kernel
theorem dX11_count_114 : decode cX11_count 114 = .ok (.aload_n 0, 1) := by decide +kernel
theorem dX11_count_115 : decode cX11_count 115 = .ok (.getfield 7, 3) := by decide +kernel
theorem dX11_count_118 : decode cX11_count 118 = .ok (.bipush 15, 2) := by decide +kernel
theorem dX11_count_120 : decode cX11_count 120 = .ok (.iaload, 1) := by decide +kernel
theorem dX11_count_121 : decode cX11_count 121 = .ok (.ireturn, 1) := by decide +kernel
theorem dX11_count_122 : decode cX11_count 122 = .ok (.aload_n 0, 1) := by decide +kernel
theorem dX11_count_123 : decode cX11_count 123 = .ok (.getfield 136, 3) := by decide +kernel
theorem dX11_count_126 : decode cX11_count 126 = .ok (.ireturn, 1) := by decide +kernel
theorem dX11_count_127 : decode cX11_count 127 = .ok (.aload_n 0, 1) := by decide +kernel
theorem dX11_count_128 : decode cX11_count 128 = .ok (.getfield 139, 3) := by decide +kernel
theorem dX11_count_131 : decode cX11_count 131 = .ok (.ireturn, 1) := by decide +kernel
theorem dX11_count_132 : decode cX11_count 132 = .ok (.aload_n 0, 1) := by decide +kernel
theorem dX11_count_133 : decode cX11_count 133 = .ok (.getfield 72, 3) := by decide +kernel
theorem dX11_count_136 : decode cX11_count 136 = .ok (.ireturn, 1) := by decide +kernel
theorem dX11_count_137 : decode cX11_count 137 = .ok (.bipush (-3), 2) := by decide +kernel
theorem dX11_count_139 : decode cX11_count 139 = .ok (.ireturn, 1) := by decide +kernel
theorem dJ9_abs_0f7a4_0 : decode cJ9_abs_0f7a4 0 = .ok (.iload_n 0, 1) := by decide +kernel
theorem dJ9_abs_0f7a4_1 : decode cJ9_abs_0f7a4 1 = .ok (.ifCond .ge 8, 3) := by decide +kernel
theorem dJ9_abs_0f7a4_4 : decode cJ9_abs_0f7a4 4 = .ok (.iload_n 0, 1) := by decide +kernel
theorem dJ9_abs_0f7a4_5 : decode cJ9_abs_0f7a4 5 = .ok (.ineg, 1) := by decide +kernel
theorem dJ9_abs_0f7a4_6 : decode cJ9_abs_0f7a4 6 = .ok (.goto 4, 3) := by decide +kernel
theorem dJ9_abs_0f7a4_9 : decode cJ9_abs_0f7a4 9 = .ok (.iload_n 0, 1) := by decide +kernel
theorem dJ9_abs_0f7a4_10 : decode cJ9_abs_0f7a4 10 = .ok (.ireturn, 1) := by decide +kernel
theorem dJ9_max_7cf53_0 : decode cJ9_max_7cf53 0 = .ok (.iload_n 0, 1) := by decide +kernel
theorem dJ9_max_7cf53_1 : decode cJ9_max_7cf53 1 = .ok (.iload_n 1, 1) := by decide +kernel
theorem dJ9_max_7cf53_2 : decode cJ9_max_7cf53 2 = .ok (.if_icmp .lt 7, 3) := by decide +kernel
theorem dJ9_max_7cf53_5 : decode cJ9_max_7cf53 5 = .ok (.iload_n 0, 1) := by decide +kernel
theorem dJ9_max_7cf53_6 : decode cJ9_max_7cf53 6 = .ok (.goto 4, 3) := by decide +kernel
theorem dJ9_max_7cf53_9 : decode cJ9_max_7cf53 9 = .ok (.iload_n 1, 1) := by decide +kernel
theorem dJ9_max_7cf53_10 : decode cJ9_max_7cf53 10 = .ok (.ireturn, 1) := by decide +kernel
theorem dJ9_min_7cf53_0 : decode cJ9_min_7cf53 0 = .ok (.iload_n 0, 1) := by decide +kernel
theorem dJ9_min_7cf53_1 : decode cJ9_min_7cf53 1 = .ok (.iload_n 1, 1) := by decide +kernel
theorem dJ9_min_7cf53_2 : decode cJ9_min_7cf53 2 = .ok (.if_icmp .gt 7, 3) := by decide +kernel
theorem dJ9_min_7cf53_5 : decode cJ9_min_7cf53 5 = .ok (.iload_n 0, 1) := by decide +kernel
theorem dJ9_min_7cf53_6 : decode cJ9_min_7cf53 6 = .ok (.goto 4, 3) := by decide +kernel
theorem dJ9_min_7cf53_9 : decode cJ9_min_7cf53 9 = .ok (.iload_n 1, 1) := by decide +kernel
theorem dJ9_min_7cf53_10 : decode cJ9_min_7cf53 10 = .ok (.ireturn, 1) := by decide +kernel
theorem dJ0_length_8abf5_0 : decode cJ0_length_8abf5 0 = .ok (.aload_n 0, 1) := by decide +kernel
theorem dJ0_length_8abf5_1 : decode cJ0_length_8abf5 1 = .ok (.getfield 9, 3) := by decide +kernel
theorem dJ0_length_8abf5_4 : decode cJ0_length_8abf5 4 = .ok (.arraylength, 1) := by decide +kernel
theorem dJ0_length_8abf5_5 : decode cJ0_length_8abf5 5 = .ok (.aload_n 0, 1) := by decide +kernel
theorem dJ0_length_8abf5_6 : decode cJ0_length_8abf5 6 = .ok (.invokevirtual 335, 3) := by decide +kernel
theorem dJ0_length_8abf5_9 : decode cJ0_length_8abf5 9 = .ok (.ishr, 1) := by decide +kernel
theorem dJ0_length_8abf5_10 : decode cJ0_length_8abf5 10 = .ok (.ireturn, 1) := by decide +kernel
theorem dJ0_charAt_5068e_0 : decode cJ0_charAt_5068e 0 = .ok (.aload_n 0, 1) := by decide +kernel
theorem dJ0_charAt_5068e_1 : decode cJ0_charAt_5068e 1 = .ok (.invokevirtual 492, 3) := by decide +kernel
theorem dJ0_charAt_5068e_4 : decode cJ0_charAt_5068e 4 = .ok (.ifCond .eq 12, 3) := by decide +kernel
theorem dJ0_charAt_5068e_7 : decode cJ0_charAt_5068e 7 = .ok (.aload_n 0, 1) := by decide +kernel
theorem dJ0_charAt_5068e_8 : decode cJ0_charAt_5068e 8 = .ok (.getfield 9, 3) := by decide +kernel
theorem dJ0_charAt_5068e_11 : decode cJ0_charAt_5068e 11 = .ok (.iload_n 1, 1) := by decide +kernel
theorem dJ0_charAt_5068e_12 : decode cJ0_charAt_5068e 12 = .ok (.invokestatic 495, 3) := by decide +kernel
theorem dJ0_charAt_5068e_15 : decode cJ0_charAt_5068e 15 = .ok (.ireturn, 1) := by decide +kernel
theorem dJ0_charAt_5068e_16 : decode cJ0_charAt_5068e 16 = .ok (.aload_n 0, 1) := by decide +kernel
theorem dJ0_charAt_5068e_17 : decode cJ0_charAt_5068e 17 = .ok (.getfield 9, 3) := by decide +kernel
theorem dJ0_charAt_5068e_20 : decode cJ0_charAt_5068e 20 = .ok (.iload_n 1, 1) := by decide +kernel
theorem dJ0_charAt_5068e_21 : decode cJ0_charAt_5068e 21 = .ok (.invokestatic 498, 3) := by decide +kernel
theorem dJ0_charAt_5068e_24 : decode cJ0_charAt_5068e 24 = .ok (.ireturn, 1) := by decide +kernel
theorem dJ0_coder_7d493_0 : decode cJ0_coder_7d493 0 = .ok (.getstatic 38, 3) := by decide +kernel
theorem dJ0_coder_7d493_3 : decode cJ0_coder_7d493 3 = .ok (.ifCond .eq 10, 3) := by decide +kernel
theorem dJ0_coder_7d493_6 : decode cJ0_coder_7d493 6 = .ok (.aload_n 0, 1) := by decide +kernel
theorem dJ0_coder_7d493_7 : decode cJ0_coder_7d493 7 = .ok (.getfield 15, 3) := by decide +kernel
theorem dJ0_coder_7d493_10 : decode cJ0_coder_7d493 10 = .ok (.goto 4, 3) := by decide +kernel
theorem dJ0_coder_7d493_13 : decode cJ0_coder_7d493 13 = .ok (.iconst 1, 1) := by decide +kernel
theorem dJ0_coder_7d493_14 : decode cJ0_coder_7d493 14 = .ok (.ireturn, 1) := by decide +kernel
theorem dJ0_isLatin1_aae02_0 : decode cJ0_isLatin1_aae02 0 = .ok (.getstatic 38, 3) := by decide +kernel
theorem dJ0_isLatin1_aae02_3 : decode cJ0_isLatin1_aae02 3 = .ok (.ifCond .eq 14, 3) := by decide +kernel
theorem dJ0_isLatin1_aae02_6 : decode cJ0_isLatin1_aae02 6 = .ok (.aload_n 0, 1) := by decide +kernel
theorem dJ0_isLatin1_aae02_7 : decode cJ0_isLatin1_aae02 7 = .ok (.getfield 15, 3) := by decide +kernel
theorem dJ0_isLatin1_aae02_10 : decode cJ0_isLatin1_aae02 10 = .ok (.ifCond .ne 7, 3) := by decide +kernel
theorem dJ0_isLatin1_aae02_13 : decode cJ0_isLatin1_aae02 13 = .ok (.iconst 1, 1) := by decide +kernel
theorem dJ0_isLatin1_aae02_14 : decode cJ0_isLatin1_aae02 14 = .ok (.goto 4, 3) := by decide +kernel
theorem dJ0_isLatin1_aae02_17 : decode cJ0_isLatin1_aae02 17 = .ok (.iconst 0, 1) := by decide +kernel
theorem dJ0_isLatin1_aae02_18 : decode cJ0_isLatin1_aae02 18 = .ok (.ireturn, 1) := by decide +kernel
theorem dJ0_checkIndex_df160_0 : decode cJ0_checkIndex_df160 0 = .ok (.iload_n 0, 1) := by decide +kernel
theorem dJ0_checkIndex_df160_1 : decode cJ0_checkIndex_df160 1 = .ok (.iload_n 1, 1) := by decide +kernel
theorem dJ0_checkIndex_df160_2 : decode cJ0_checkIndex_df160 2 = .ok (.getstatic 1053, 3) := by decide +kernel
theorem dJ0_checkIndex_df160_5 : decode cJ0_checkIndex_df160 5 = .ok (.invokestatic 1059, 3) := by decide +kernel
theorem dJ0_checkIndex_df160_8 : decode cJ0_checkIndex_df160 8 = .ok (.pop, 1) := by decide +kernel
theorem dJ0_checkIndex_df160_9 : decode cJ0_checkIndex_df160 9 = .ok (.return_, 1) := by decide +kernel
theorem dJ1_charAt_3b067_0 : decode cJ1_charAt_3b067 0 = .ok (.iload_n 1, 1) := by decide +kernel
theorem dJ1_charAt_3b067_1 : decode cJ1_charAt_3b067 1 = .ok (.aload_n 0, 1) := by decide +kernel
theorem dJ1_charAt_3b067_2 : decode cJ1_charAt_3b067 2 = .ok (.arraylength, 1) := by decide +kernel
theorem dJ1_charAt_3b067_3 : decode cJ1_charAt_3b067 3 = .ok (.invokestatic 9, 3) := by decide +kernel
theorem dJ1_charAt_3b067_6 : decode cJ1_charAt_3b067 6 = .ok (.aload_n 0, 1) := by decide +kernel
theorem dJ1_charAt_3b067_7 : decode cJ1_charAt_3b067 7 = .ok (.iload_n 1, 1) := by decide +kernel
theorem dJ1_charAt_3b067_8 : decode cJ1_charAt_3b067 8 = .ok (.baload, 1) := by decide +kernel
theorem dJ1_charAt_3b067_9 : decode cJ1_charAt_3b067 9 = .ok (.sipush 255, 3) := by decide +kernel
theorem dJ1_charAt_3b067_12 : decode cJ1_charAt_3b067 12 = .ok (.iand, 1) := by decide +kernel
theorem dJ1_charAt_3b067_13 : decode cJ1_charAt_3b067 13 = .ok (.i2c, 1) := by decide +kernel
theorem dJ1_charAt_3b067_14 : decode cJ1_charAt_3b067 14 = .ok (.ireturn, 1) := by decide +kernel
theorem dJ2_getChar_3b067_0 : decode cJ2_getChar_3b067 0 = .ok (.getstatic 44, 3) := by decide +kernel
theorem dJ2_getChar_3b067_3 : decode cJ2_getChar_3b067 3 = .ok (.ifCond .ne 25, 3) := by decide +kernel
theorem dJ2_getChar_3b067_6 : decode cJ2_getChar_3b067 6 = .ok (.iload_n 1, 1) := by decide +kernel
theorem dJ2_getChar_3b067_7 : decode cJ2_getChar_3b067 7 = .ok (.ifCond .lt 11, 3) := by decide +kernel
theorem dJ2_getChar_3b067_10 : decode cJ2_getChar_3b067 10 = .ok (.iload_n 1, 1) := by decide +kernel
theorem dJ2_getChar_3b067_11 : decode cJ2_getChar_3b067 11 = .ok (.aload_n 0, 1) := by decide +kernel
theorem dJ2_getChar_3b067_12 : decode cJ2_getChar_3b067 12 = .ok (.invokestatic 48, 3) := by decide +kernel
theorem dJ2_getChar_3b067_15 : decode cJ2_getChar_3b067 15 = .ok (.if_icmp .lt 13, 3) := by decide +kernel
theorem dJ2_getChar_3b067_18 : decode cJ2_getChar_3b067 18 = .ok (.new 52, 3) := by decide +kernel
theorem dJ2_getChar_3b067_21 : decode cJ2_getChar_3b067 21 = .ok (.dup, 1) := by decide +kernel
theorem dJ2_getChar_3b067_22 : decode cJ2_getChar_3b067 22 = .ok (.ldc 54, 2) := by decide +kernel
theorem dJ2_getChar_3b067_24 : decode cJ2_getChar_3b067 24 = .ok (.invokespecial 56, 3) := by decide +kernel
theorem dJ2_getChar_3b067_27 : decode cJ2_getChar_3b067 27 = .ok (.athrow, 1) := by decide +kernel
theorem dJ2_getChar_3b067_28 : decode cJ2_getChar_3b067 28 = .ok (.iload_n 1, 1) := by decide +kernel
theorem dJ2_getChar_3b067_29 : decode cJ2_getChar_3b067 29 = .ok (.iconst 1, 1) := by decide +kernel
theorem dJ2_getChar_3b067_30 : decode cJ2_getChar_3b067 30 = .ok (.ishl, 1) := by decide +kernel
theorem dJ2_getChar_3b067_31 : decode cJ2_getChar_3b067 31 = .ok (.istore_n 1, 1) := by decide +kernel
theorem dJ2_getChar_3b067_32 : decode cJ2_getChar_3b067 32 = .ok (.aload_n 0, 1) := by decide +kernel
theorem dJ2_getChar_3b067_33 : decode cJ2_getChar_3b067 33 = .ok (.iload_n 1, 1) := by decide +kernel
theorem dJ2_getChar_3b067_34 : decode cJ2_getChar_3b067 34 = .ok (.iinc 1 1, 3) := by decide +kernel
theorem dJ2_getChar_3b067_37 : decode cJ2_getChar_3b067 37 = .ok (.baload, 1) := by decide +kernel
theorem dJ2_getChar_3b067_38 : decode cJ2_getChar_3b067 38 = .ok (.sipush 255, 3) := by decide +kernel
theorem dJ2_getChar_3b067_41 : decode cJ2_getChar_3b067 41 = .ok (.iand, 1) := by decide +kernel
theorem dJ2_getChar_3b067_42 : decode cJ2_getChar_3b067 42 = .ok (.getstatic 59, 3) := by decide +kernel
theorem dJ2_getChar_3b067_45 : decode cJ2_getChar_3b067 45 = .ok (.ishl, 1) := by decide +kernel
theorem dJ2_getChar_3b067_46 : decode cJ2_getChar_3b067 46 = .ok (.aload_n 0, 1) := by decide +kernel
theorem dJ2_getChar_3b067_47 : decode cJ2_getChar_3b067 47 = .ok (.iload_n 1, 1) := by decide +kernel
theorem dJ2_getChar_3b067_48 : decode cJ2_getChar_3b067 48 = .ok (.baload, 1) := by decide +kernel
theorem dJ2_getChar_3b067_49 : decode cJ2_getChar_3b067 49 = .ok (.sipush 255, 3) := by decide +kernel
theorem dJ2_getChar_3b067_52 : decode cJ2_getChar_3b067 52 = .ok (.iand, 1) := by decide +kernel
theorem dJ2_getChar_3b067_53 : decode cJ2_getChar_3b067 53 = .ok (.getstatic 63, 3) := by decide +kernel
theorem dJ2_getChar_3b067_56 : decode cJ2_getChar_3b067 56 = .ok (.ishl, 1) := by decide +kernel
theorem dJ2_getChar_3b067_57 : decode cJ2_getChar_3b067 57 = .ok (.ior, 1) := by decide +kernel
theorem dJ2_getChar_3b067_58 : decode cJ2_getChar_3b067 58 = .ok (.i2c, 1) := by decide +kernel
theorem dJ2_getChar_3b067_59 : decode cJ2_getChar_3b067 59 = .ok (.ireturn, 1) := by decide +kernel
theorem dJ2_length_9d52b_0 : decode cJ2_length_9d52b 0 = .ok (.aload_n 0, 1) := by decide +kernel
theorem dJ2_length_9d52b_1 : decode cJ2_length_9d52b 1 = .ok (.arraylength, 1) := by decide +kernel
theorem dJ2_length_9d52b_2 : decode cJ2_length_9d52b 2 = .ok (.iconst 1, 1) := by decide +kernel
theorem dJ2_length_9d52b_3 : decode cJ2_length_9d52b 3 = .ok (.ishr, 1) := by decide +kernel
theorem dJ2_length_9d52b_4 : decode cJ2_length_9d52b 4 = .ok (.ireturn, 1) := by decide +kernel
theorem dJ2_charAt_3b067_0 : decode cJ2_charAt_3b067 0 = .ok (.iload_n 1, 1) := by decide +kernel
theorem dJ2_charAt_3b067_1 : decode cJ2_charAt_3b067 1 = .ok (.aload_n 0, 1) := by decide +kernel
theorem dJ2_charAt_3b067_2 : decode cJ2_charAt_3b067 2 = .ok (.invokestatic 67, 3) := by decide +kernel
theorem dJ2_charAt_3b067_5 : decode cJ2_charAt_3b067 5 = .ok (.aload_n 0, 1) := by decide +kernel
theorem dJ2_charAt_3b067_6 : decode cJ2_charAt_3b067 6 = .ok (.iload_n 1, 1) := by decide +kernel
theorem dJ2_charAt_3b067_7 : decode cJ2_charAt_3b067 7 = .ok (.invokestatic 71, 3) := by decide +kernel
theorem dJ2_charAt_3b067_10 : decode cJ2_charAt_3b067 10 = .ok (.ireturn, 1) := by decide +kernel
theorem dJ2_checkIndex_2214a_0 : decode cJ2_checkIndex_2214a 0 = .ok (.iload_n 0, 1) := by decide +kernel
theorem dJ2_checkIndex_2214a_1 : decode cJ2_checkIndex_2214a 1 = .ok (.aload_n 1, 1) := by decide +kernel
theorem dJ2_checkIndex_2214a_2 : decode cJ2_checkIndex_2214a 2 = .ok (.invokestatic 48, 3) := by decide +kernel
theorem dJ2_checkIndex_2214a_5 : decode cJ2_checkIndex_2214a 5 = .ok (.invokestatic 414, 3) := by decide +kernel
theorem dJ2_checkIndex_2214a_8 : decode cJ2_checkIndex_2214a 8 = .ok (.return_, 1) := by decide +kernel
theorem dJ3_checkIndex_8e157_0 : decode cJ3_checkIndex_8e157 0 = .ok (.iload_n 0, 1) := by decide +kernel
theorem dJ3_checkIndex_8e157_1 : decode cJ3_checkIndex_8e157 1 = .ok (.ifCond .lt 8, 3) := by decide +kernel
theorem dJ3_checkIndex_8e157_4 : decode cJ3_checkIndex_8e157 4 = .ok (.iload_n 0, 1) := by decide +kernel
theorem dJ3_checkIndex_8e157_5 : decode cJ3_checkIndex_8e157 5 = .ok (.iload_n 1, 1) := by decide +kernel
theorem dJ3_checkIndex_8e157_6 : decode cJ3_checkIndex_8e157 6 = .ok (.if_icmp .lt 10, 3) := by decide +kernel
theorem dJ3_checkIndex_8e157_9 : decode cJ3_checkIndex_8e157 9 = .ok (.aload_n 2, 1) := by decide +kernel
theorem dJ3_checkIndex_8e157_10 : decode cJ3_checkIndex_8e157 10 = .ok (.iload_n 0, 1) := by decide +kernel
theorem dJ3_checkIndex_8e157_11 : decode cJ3_checkIndex_8e157 11 = .ok (.iload_n 1, 1) := by decide +kernel
theorem dJ3_checkIndex_8e157_12 : decode cJ3_checkIndex_8e157 12 = .ok (.invokestatic 95, 3) := by decide +kernel
theorem dJ3_checkIndex_8e157_15 : decode cJ3_checkIndex_8e157 15 = .ok (.athrow, 1) := by decide +kernel
theorem dJ3_checkIndex_8e157_16 : decode cJ3_checkIndex_8e157 16 = .ok (.iload_n 0, 1) := by decide +kernel
theorem dJ3_checkIndex_8e157_17 : decode cJ3_checkIndex_8e157 17 = .ok (.ireturn, 1) := by decide +kernel
theorem dL_law_0 : decode cL_law 0 = .ok (.new 7, 3) := by decide +kernel
theorem dL_law_3 : decode cL_law 3 = .ok (.dup, 1) := by decide +kernel
theorem dL_law_4 : decode cL_law 4 = .ok (.invokespecial 9, 3) := by decide +kernel
theorem dL_law_7 : decode cL_law 7 = .ok (.astore_n 1, 1) := by decide +kernel
theorem dL_law_8 : decode cL_law 8 = .ok (.new 10, 3) := by decide +kernel
theorem dL_law_11 : decode cL_law 11 = .ok (.dup, 1) := by decide +kernel
theorem dL_law_12 : decode cL_law 12 = .ok (.invokespecial 12, 3) := by decide +kernel
theorem dL_law_15 : decode cL_law 15 = .ok (.astore_n 2, 1) := by decide +kernel
theorem dL_law_16 : decode cL_law 16 = .ok (.iconst 0, 1) := by decide +kernel
theorem dL_law_17 : decode cL_law 17 = .ok (.istore_n 3, 1) := by decide +kernel
theorem dL_law_18 : decode cL_law 18 = .ok (.iload_n 3, 1) := by decide +kernel
theorem dL_law_19 : decode cL_law 19 = .ok (.aload_n 0, 1) := by decide +kernel
theorem dL_law_20 : decode cL_law 20 = .ok (.arraylength, 1) := by decide +kernel
theorem dL_law_21 : decode cL_law 21 = .ok (.iconst 4, 1) := by decide +kernel
theorem dL_law_22 : decode cL_law 22 = .ok (.isub, 1) := by decide +kernel
theorem dL_law_23 : decode cL_law 23 = .ok (.if_icmp .gt 699, 3) := by decide +kernel
theorem dL_law_26 : decode cL_law 26 = .ok (.aload_n 0, 1) := by decide +kernel
theorem dL_law_27 : decode cL_law 27 = .ok (.iload_n 3, 1) := by decide +kernel
theorem dL_law_28 : decode cL_law 28 = .ok (.iaload, 1) := by decide +kernel
theorem dL_law_29 : decode cL_law 29 = .ok (.bipush 31, 2) := by decide +kernel
theorem dL_law_31 : decode cL_law 31 = .ok (.iand, 1) := by decide +kernel
theorem dL_law_32 : decode cL_law 32 = .ok (.tableswitch 684 0 23 #[112, 135, 148, 161, 174, 207, 240, 273, 296, 319, 332, 355, 368, 391, 414, 457, 470, 483, 506, 549, 582, 625, 638, 661], 112) := by decide +kernel
theorem dL_law_144 : decode cL_law 144 = .ok (.aload_n 1, 1) := by decide +kernel
theorem dL_law_145 : decode cL_law 145 = .ok (.aload_n 0, 1) := by decide +kernel
theorem dL_law_146 : decode cL_law 146 = .ok (.iload_n 3, 1) := by decide +kernel
theorem dL_law_147 : decode cL_law 147 = .ok (.iconst 1, 1) := by decide +kernel
theorem dL_law_148 : decode cL_law 148 = .ok (.iadd, 1) := by decide +kernel
theorem dL_law_149 : decode cL_law 149 = .ok (.iaload, 1) := by decide +kernel
theorem dL_law_150 : decode cL_law 150 = .ok (.invokevirtual 13, 3) := by decide +kernel
theorem dL_law_153 : decode cL_law 153 = .ok (.aload_n 2, 1) := by decide +kernel
theorem dL_law_154 : decode cL_law 154 = .ok (.aload_n 0, 1) := by decide +kernel
theorem dL_law_155 : decode cL_law 155 = .ok (.iload_n 3, 1) := by decide +kernel
theorem dL_law_156 : decode cL_law 156 = .ok (.iconst 1, 1) := by decide +kernel
theorem dL_law_157 : decode cL_law 157 = .ok (.iadd, 1) := by decide +kernel
theorem dL_law_158 : decode cL_law 158 = .ok (.iaload, 1) := by decide +kernel
theorem dL_law_159 : decode cL_law 159 = .ok (.invokevirtual 17, 3) := by decide +kernel
theorem dL_law_162 : decode cL_law 162 = .ok (.if_icmp .eq 554, 3) := by decide +kernel
theorem dL_law_165 : decode cL_law 165 = .ok (.iconst 0, 1) := by decide +kernel
theorem dL_law_166 : decode cL_law 166 = .ok (.ireturn, 1) := by decide +kernel
theorem dL_law_167 : decode cL_law 167 = .ok (.aload_n 1, 1) := by decide +kernel
theorem dL_law_168 : decode cL_law 168 = .ok (.invokevirtual 18, 3) := by decide +kernel
theorem dL_law_171 : decode cL_law 171 = .ok (.aload_n 2, 1) := by decide +kernel
theorem dL_law_172 : decode cL_law 172 = .ok (.invokevirtual 22, 3) := by decide +kernel
theorem dL_law_175 : decode cL_law 175 = .ok (.if_icmp .eq 541, 3) := by decide +kernel
theorem dL_law_178 : decode cL_law 178 = .ok (.iconst 0, 1) := by decide +kernel
theorem dL_law_179 : decode cL_law 179 = .ok (.ireturn, 1) := by decide +kernel
theorem dL_law_180 : decode cL_law 180 = .ok (.aload_n 1, 1) := by decide +kernel
theorem dL_law_181 : decode cL_law 181 = .ok (.invokevirtual 23, 3) := by decide +kernel
theorem dL_law_184 : decode cL_law 184 = .ok (.aload_n 2, 1) := by decide +kernel
theorem dL_law_185 : decode cL_law 185 = .ok (.invokevirtual 26, 3) := by decide +kernel
theorem dL_law_188 : decode cL_law 188 = .ok (.if_icmp .eq 528, 3) := by decide +kernel
theorem dL_law_191 : decode cL_law 191 = .ok (.iconst 0, 1) := by decide +kernel
theorem dL_law_192 : decode cL_law 192 = .ok (.ireturn, 1) := by decide +kernel
theorem dL_law_193 : decode cL_law 193 = .ok (.aload_n 1, 1) := by decide +kernel
theorem dL_law_194 : decode cL_law 194 = .ok (.invokevirtual 27, 3) := by decide +kernel
theorem dL_law_197 : decode cL_law 197 = .ok (.aload_n 2, 1) := by decide +kernel
theorem dL_law_198 : decode cL_law 198 = .ok (.invokevirtual 30, 3) := by decide +kernel
theorem dL_law_201 : decode cL_law 201 = .ok (.if_icmp .eq 515, 3) := by decide +kernel
theorem dL_law_204 : decode cL_law 204 = .ok (.iconst 0, 1) := by decide +kernel
theorem dL_law_205 : decode cL_law 205 = .ok (.ireturn, 1) := by decide +kernel
theorem dL_law_206 : decode cL_law 206 = .ok (.aload_n 1, 1) := by decide +kernel
theorem dL_law_207 : decode cL_law 207 = .ok (.aload_n 0, 1) := by decide +kernel
theorem dL_law_208 : decode cL_law 208 = .ok (.iload_n 3, 1) := by decide +kernel
theorem dL_law_209 : decode cL_law 209 = .ok (.iconst 1, 1) := by decide +kernel
theorem dL_law_210 : decode cL_law 210 = .ok (.iadd, 1) := by decide +kernel
theorem dL_law_211 : decode cL_law 211 = .ok (.iaload, 1) := by decide +kernel
theorem dL_law_212 : decode cL_law 212 = .ok (.aload_n 0, 1) := by decide +kernel
theorem dL_law_213 : decode cL_law 213 = .ok (.iload_n 3, 1) := by decide +kernel
theorem dL_law_214 : decode cL_law 214 = .ok (.iconst 2, 1) := by decide +kernel
theorem dL_law_215 : decode cL_law 215 = .ok (.iadd, 1) := by decide +kernel
theorem dL_law_216 : decode cL_law 216 = .ok (.iaload, 1) := by decide +kernel
theorem dL_law_217 : decode cL_law 217 = .ok (.invokevirtual 31, 3) := by decide +kernel
theorem dL_law_220 : decode cL_law 220 = .ok (.aload_n 2, 1) := by decide +kernel
theorem dL_law_221 : decode cL_law 221 = .ok (.aload_n 0, 1) := by decide +kernel
theorem dL_law_222 : decode cL_law 222 = .ok (.iload_n 3, 1) := by decide +kernel
theorem dL_law_223 : decode cL_law 223 = .ok (.iconst 1, 1) := by decide +kernel
theorem dL_law_224 : decode cL_law 224 = .ok (.iadd, 1) := by decide +kernel
theorem dL_law_225 : decode cL_law 225 = .ok (.iaload, 1) := by decide +kernel
theorem dL_law_226 : decode cL_law 226 = .ok (.aload_n 0, 1) := by decide +kernel
theorem dL_law_227 : decode cL_law 227 = .ok (.iload_n 3, 1) := by decide +kernel
theorem dL_law_228 : decode cL_law 228 = .ok (.iconst 2, 1) := by decide +kernel
theorem dL_law_229 : decode cL_law 229 = .ok (.iadd, 1) := by decide +kernel
theorem dL_law_230 : decode cL_law 230 = .ok (.iaload, 1) := by decide +kernel
theorem dL_law_231 : decode cL_law 231 = .ok (.invokevirtual 35, 3) := by decide +kernel
theorem dL_law_234 : decode cL_law 234 = .ok (.if_icmp .eq 482, 3) := by decide +kernel
theorem dL_law_237 : decode cL_law 237 = .ok (.iconst 0, 1) := by decide +kernel
theorem dL_law_238 : decode cL_law 238 = .ok (.ireturn, 1) := by decide +kernel
theorem dL_law_239 : decode cL_law 239 = .ok (.aload_n 1, 1) := by decide +kernel
theorem dL_law_240 : decode cL_law 240 = .ok (.aload_n 0, 1) := by decide +kernel
theorem dL_law_241 : decode cL_law 241 = .ok (.iload_n 3, 1) := by decide +kernel
theorem dL_law_242 : decode cL_law 242 = .ok (.iconst 1, 1) := by decide +kernel
theorem dL_law_243 : decode cL_law 243 = .ok (.iadd, 1) := by decide +kernel
theorem dL_law_244 : decode cL_law 244 = .ok (.iaload, 1) := by decide +kernel
theorem dL_law_245 : decode cL_law 245 = .ok (.aload_n 0, 1) := by decide +kernel
theorem dL_law_246 : decode cL_law 246 = .ok (.iload_n 3, 1) := by decide +kernel
theorem dL_law_247 : decode cL_law 247 = .ok (.iconst 2, 1) := by decide +kernel
theorem dL_law_248 : decode cL_law 248 = .ok (.iadd, 1) := by decide +kernel
theorem dL_law_249 : decode cL_law 249 = .ok (.iaload, 1) := by decide +kernel
theorem dL_law_250 : decode cL_law 250 = .ok (.invokevirtual 36, 3) := by decide +kernel
theorem dL_law_253 : decode cL_law 253 = .ok (.aload_n 2, 1) := by decide +kernel
theorem dL_law_254 : decode cL_law 254 = .ok (.aload_n 0, 1) := by decide +kernel
theorem dL_law_255 : decode cL_law 255 = .ok (.iload_n 3, 1) := by decide +kernel
theorem dL_law_256 : decode cL_law 256 = .ok (.iconst 1, 1) := by decide +kernel
theorem dL_law_257 : decode cL_law 257 = .ok (.iadd, 1) := by decide +kernel
theorem dL_law_258 : decode cL_law 258 = .ok (.iaload, 1) := by decide +kernel
theorem dL_law_259 : decode cL_law 259 = .ok (.aload_n 0, 1) := by decide +kernel
theorem dL_law_260 : decode cL_law 260 = .ok (.iload_n 3, 1) := by decide +kernel
theorem dL_law_261 : decode cL_law 261 = .ok (.iconst 2, 1) := by decide +kernel
theorem dL_law_262 : decode cL_law 262 = .ok (.iadd, 1) := by decide +kernel
theorem dL_law_263 : decode cL_law 263 = .ok (.iaload, 1) := by decide +kernel
theorem dL_law_264 : decode cL_law 264 = .ok (.invokevirtual 39, 3) := by decide +kernel
theorem dL_law_267 : decode cL_law 267 = .ok (.if_icmp .eq 449, 3) := by decide +kernel
theorem dL_law_270 : decode cL_law 270 = .ok (.iconst 0, 1) := by decide +kernel
theorem dL_law_271 : decode cL_law 271 = .ok (.ireturn, 1) := by decide +kernel
theorem dL_law_272 : decode cL_law 272 = .ok (.aload_n 1, 1) := by decide +kernel
theorem dL_law_273 : decode cL_law 273 = .ok (.aload_n 0, 1) := by decide +kernel
theorem dL_law_274 : decode cL_law 274 = .ok (.iload_n 3, 1) := by decide +kernel
theorem dL_law_275 : decode cL_law 275 = .ok (.iconst 1, 1) := by decide +kernel
theorem dL_law_276 : decode cL_law 276 = .ok (.iadd, 1) := by decide +kernel
theorem dL_law_277 : decode cL_law 277 = .ok (.iaload, 1) := by decide +kernel
theorem dL_law_278 : decode cL_law 278 = .ok (.aload_n 0, 1) := by decide +kernel
theorem dL_law_279 : decode cL_law 279 = .ok (.iload_n 3, 1) := by decide +kernel
theorem dL_law_280 : decode cL_law 280 = .ok (.iconst 2, 1) := by decide +kernel
theorem dL_law_281 : decode cL_law 281 = .ok (.iadd, 1) := by decide +kernel
theorem dL_law_282 : decode cL_law 282 = .ok (.iaload, 1) := by decide +kernel
theorem dL_law_283 : decode cL_law 283 = .ok (.invokevirtual 40, 3) := by decide +kernel
theorem dL_law_286 : decode cL_law 286 = .ok (.aload_n 2, 1) := by decide +kernel
theorem dL_law_287 : decode cL_law 287 = .ok (.aload_n 0, 1) := by decide +kernel
theorem dL_law_288 : decode cL_law 288 = .ok (.iload_n 3, 1) := by decide +kernel
theorem dL_law_289 : decode cL_law 289 = .ok (.iconst 1, 1) := by decide +kernel
theorem dL_law_290 : decode cL_law 290 = .ok (.iadd, 1) := by decide +kernel
theorem dL_law_291 : decode cL_law 291 = .ok (.iaload, 1) := by decide +kernel
theorem dL_law_292 : decode cL_law 292 = .ok (.aload_n 0, 1) := by decide +kernel
theorem dL_law_293 : decode cL_law 293 = .ok (.iload_n 3, 1) := by decide +kernel
theorem dL_law_294 : decode cL_law 294 = .ok (.iconst 2, 1) := by decide +kernel
theorem dL_law_295 : decode cL_law 295 = .ok (.iadd, 1) := by decide +kernel
theorem dL_law_296 : decode cL_law 296 = .ok (.iaload, 1) := by decide +kernel
theorem dL_law_297 : decode cL_law 297 = .ok (.invokevirtual 43, 3) := by decide +kernel
theorem dL_law_300 : decode cL_law 300 = .ok (.if_icmp .eq 416, 3) := by decide +kernel
theorem dL_law_303 : decode cL_law 303 = .ok (.iconst 0, 1) := by decide +kernel
theorem dL_law_304 : decode cL_law 304 = .ok (.ireturn, 1) := by decide +kernel
theorem dL_law_305 : decode cL_law 305 = .ok (.aload_n 1, 1) := by decide +kernel
theorem dL_law_306 : decode cL_law 306 = .ok (.aload_n 0, 1) := by decide +kernel
theorem dL_law_307 : decode cL_law 307 = .ok (.iload_n 3, 1) := by decide +kernel
theorem dL_law_308 : decode cL_law 308 = .ok (.iconst 1, 1) := by decide +kernel
theorem dL_law_309 : decode cL_law 309 = .ok (.iadd, 1) := by decide +kernel
theorem dL_law_310 : decode cL_law 310 = .ok (.iaload, 1) := by decide +kernel
theorem dL_law_311 : decode cL_law 311 = .ok (.invokevirtual 44, 3) := by decide +kernel
theorem dL_law_314 : decode cL_law 314 = .ok (.aload_n 2, 1) := by decide +kernel
theorem dL_law_315 : decode cL_law 315 = .ok (.aload_n 0, 1) := by decide +kernel
theorem dL_law_316 : decode cL_law 316 = .ok (.iload_n 3, 1) := by decide +kernel
theorem dL_law_317 : decode cL_law 317 = .ok (.iconst 1, 1) := by decide +kernel
theorem dL_law_318 : decode cL_law 318 = .ok (.iadd, 1) := by decide +kernel
theorem dL_law_319 : decode cL_law 319 = .ok (.iaload, 1) := by decide +kernel
theorem dL_law_320 : decode cL_law 320 = .ok (.invokevirtual 47, 3) := by decide +kernel
theorem dL_law_323 : decode cL_law 323 = .ok (.if_icmp .eq 393, 3) := by decide +kernel
theorem dL_law_326 : decode cL_law 326 = .ok (.iconst 0, 1) := by decide +kernel
theorem dL_law_327 : decode cL_law 327 = .ok (.ireturn, 1) := by decide +kernel
theorem dL_law_328 : decode cL_law 328 = .ok (.aload_n 1, 1) := by decide +kernel
theorem dL_law_329 : decode cL_law 329 = .ok (.aload_n 0, 1) := by decide +kernel
theorem dL_law_330 : decode cL_law 330 = .ok (.iload_n 3, 1) := by decide +kernel
theorem dL_law_331 : decode cL_law 331 = .ok (.iconst 1, 1) := by decide +kernel
theorem dL_law_332 : decode cL_law 332 = .ok (.iadd, 1) := by decide +kernel
theorem dL_law_333 : decode cL_law 333 = .ok (.iaload, 1) := by decide +kernel
theorem dL_law_334 : decode cL_law 334 = .ok (.invokevirtual 48, 3) := by decide +kernel
theorem dL_law_337 : decode cL_law 337 = .ok (.aload_n 2, 1) := by decide +kernel
theorem dL_law_338 : decode cL_law 338 = .ok (.aload_n 0, 1) := by decide +kernel
theorem dL_law_339 : decode cL_law 339 = .ok (.iload_n 3, 1) := by decide +kernel
theorem dL_law_340 : decode cL_law 340 = .ok (.iconst 1, 1) := by decide +kernel
theorem dL_law_341 : decode cL_law 341 = .ok (.iadd, 1) := by decide +kernel
theorem dL_law_342 : decode cL_law 342 = .ok (.iaload, 1) := by decide +kernel
theorem dL_law_343 : decode cL_law 343 = .ok (.invokevirtual 51, 3) := by decide +kernel
theorem dL_law_346 : decode cL_law 346 = .ok (.if_icmp .eq 370, 3) := by decide +kernel
theorem dL_law_349 : decode cL_law 349 = .ok (.iconst 0, 1) := by decide +kernel
theorem dL_law_350 : decode cL_law 350 = .ok (.ireturn, 1) := by decide +kernel
theorem dL_law_351 : decode cL_law 351 = .ok (.aload_n 1, 1) := by decide +kernel
theorem dL_law_352 : decode cL_law 352 = .ok (.invokevirtual 52, 3) := by decide +kernel
theorem dL_law_355 : decode cL_law 355 = .ok (.aload_n 2, 1) := by decide +kernel
theorem dL_law_356 : decode cL_law 356 = .ok (.invokevirtual 55, 3) := by decide +kernel
theorem dL_law_359 : decode cL_law 359 = .ok (.if_icmp .eq 357, 3) := by decide +kernel
theorem dL_law_362 : decode cL_law 362 = .ok (.iconst 0, 1) := by decide +kernel
theorem dL_law_363 : decode cL_law 363 = .ok (.ireturn, 1) := by decide +kernel
theorem dL_law_364 : decode cL_law 364 = .ok (.aload_n 1, 1) := by decide +kernel
theorem dL_law_365 : decode cL_law 365 = .ok (.aload_n 0, 1) := by decide +kernel
theorem dL_law_366 : decode cL_law 366 = .ok (.iload_n 3, 1) := by decide +kernel
theorem dL_law_367 : decode cL_law 367 = .ok (.iconst 1, 1) := by decide +kernel
theorem dL_law_368 : decode cL_law 368 = .ok (.iadd, 1) := by decide +kernel
theorem dL_law_369 : decode cL_law 369 = .ok (.iaload, 1) := by decide +kernel
theorem dL_law_370 : decode cL_law 370 = .ok (.invokevirtual 56, 3) := by decide +kernel
theorem dL_law_373 : decode cL_law 373 = .ok (.aload_n 2, 1) := by decide +kernel
theorem dL_law_374 : decode cL_law 374 = .ok (.aload_n 0, 1) := by decide +kernel
theorem dL_law_375 : decode cL_law 375 = .ok (.iload_n 3, 1) := by decide +kernel
theorem dL_law_376 : decode cL_law 376 = .ok (.iconst 1, 1) := by decide +kernel
theorem dL_law_377 : decode cL_law 377 = .ok (.iadd, 1) := by decide +kernel
theorem dL_law_378 : decode cL_law 378 = .ok (.iaload, 1) := by decide +kernel
theorem dL_law_379 : decode cL_law 379 = .ok (.invokevirtual 59, 3) := by decide +kernel
theorem dL_law_382 : decode cL_law 382 = .ok (.if_icmp .eq 334, 3) := by decide +kernel
theorem dL_law_385 : decode cL_law 385 = .ok (.iconst 0, 1) := by decide +kernel
theorem dL_law_386 : decode cL_law 386 = .ok (.ireturn, 1) := by decide +kernel
theorem dL_law_387 : decode cL_law 387 = .ok (.aload_n 1, 1) := by decide +kernel
theorem dL_law_388 : decode cL_law 388 = .ok (.invokevirtual 60, 3) := by decide +kernel
theorem dL_law_391 : decode cL_law 391 = .ok (.aload_n 2, 1) := by decide +kernel
theorem dL_law_392 : decode cL_law 392 = .ok (.invokevirtual 63, 3) := by decide +kernel
theorem dL_law_395 : decode cL_law 395 = .ok (.if_icmp .eq 321, 3) := by decide +kernel
theorem dL_law_398 : decode cL_law 398 = .ok (.iconst 0, 1) := by decide +kernel
theorem dL_law_399 : decode cL_law 399 = .ok (.ireturn, 1) := by decide +kernel
theorem dL_law_400 : decode cL_law 400 = .ok (.aload_n 1, 1) := by decide +kernel
theorem dL_law_401 : decode cL_law 401 = .ok (.aload_n 0, 1) := by decide +kernel
theorem dL_law_402 : decode cL_law 402 = .ok (.iload_n 3, 1) := by decide +kernel
theorem dL_law_403 : decode cL_law 403 = .ok (.iconst 1, 1) := by decide +kernel
theorem dL_law_404 : decode cL_law 404 = .ok (.iadd, 1) := by decide +kernel
theorem dL_law_405 : decode cL_law 405 = .ok (.iaload, 1) := by decide +kernel
theorem dL_law_406 : decode cL_law 406 = .ok (.invokevirtual 64, 3) := by decide +kernel
theorem dL_law_409 : decode cL_law 409 = .ok (.aload_n 2, 1) := by decide +kernel
theorem dL_law_410 : decode cL_law 410 = .ok (.aload_n 0, 1) := by decide +kernel
theorem dL_law_411 : decode cL_law 411 = .ok (.iload_n 3, 1) := by decide +kernel
theorem dL_law_412 : decode cL_law 412 = .ok (.iconst 1, 1) := by decide +kernel
theorem dL_law_413 : decode cL_law 413 = .ok (.iadd, 1) := by decide +kernel
theorem dL_law_414 : decode cL_law 414 = .ok (.iaload, 1) := by decide +kernel
theorem dL_law_415 : decode cL_law 415 = .ok (.invokevirtual 67, 3) := by decide +kernel
theorem dL_law_418 : decode cL_law 418 = .ok (.if_icmp .eq 298, 3) := by decide +kernel
theorem dL_law_421 : decode cL_law 421 = .ok (.iconst 0, 1) := by decide +kernel
theorem dL_law_422 : decode cL_law 422 = .ok (.ireturn, 1) := by decide +kernel
theorem dL_law_423 : decode cL_law 423 = .ok (.aload_n 1, 1) := by decide +kernel
theorem dL_law_424 : decode cL_law 424 = .ok (.aload_n 0, 1) := by decide +kernel
theorem dL_law_425 : decode cL_law 425 = .ok (.iload_n 3, 1) := by decide +kernel
theorem dL_law_426 : decode cL_law 426 = .ok (.iconst 1, 1) := by decide +kernel
theorem dL_law_427 : decode cL_law 427 = .ok (.iadd, 1) := by decide +kernel
theorem dL_law_428 : decode cL_law 428 = .ok (.iaload, 1) := by decide +kernel
theorem dL_law_429 : decode cL_law 429 = .ok (.invokevirtual 68, 3) := by decide +kernel
theorem dL_law_432 : decode cL_law 432 = .ok (.aload_n 2, 1) := by decide +kernel
theorem dL_law_433 : decode cL_law 433 = .ok (.aload_n 0, 1) := by decide +kernel
theorem dL_law_434 : decode cL_law 434 = .ok (.iload_n 3, 1) := by decide +kernel
theorem dL_law_435 : decode cL_law 435 = .ok (.iconst 1, 1) := by decide +kernel
theorem dL_law_436 : decode cL_law 436 = .ok (.iadd, 1) := by decide +kernel
theorem dL_law_437 : decode cL_law 437 = .ok (.iaload, 1) := by decide +kernel
theorem dL_law_438 : decode cL_law 438 = .ok (.invokevirtual 71, 3) := by decide +kernel
theorem dL_law_441 : decode cL_law 441 = .ok (.if_icmp .eq 275, 3) := by decide +kernel
theorem dL_law_444 : decode cL_law 444 = .ok (.iconst 0, 1) := by decide +kernel
theorem dL_law_445 : decode cL_law 445 = .ok (.ireturn, 1) := by decide +kernel
theorem dL_law_446 : decode cL_law 446 = .ok (.aload_n 1, 1) := by decide +kernel
theorem dL_law_447 : decode cL_law 447 = .ok (.aload_n 0, 1) := by decide +kernel
theorem dL_law_448 : decode cL_law 448 = .ok (.iload_n 3, 1) := by decide +kernel
theorem dL_law_449 : decode cL_law 449 = .ok (.iconst 1, 1) := by decide +kernel
theorem dL_law_450 : decode cL_law 450 = .ok (.iadd, 1) := by decide +kernel
theorem dL_law_451 : decode cL_law 451 = .ok (.iaload, 1) := by decide +kernel
theorem dL_law_452 : decode cL_law 452 = .ok (.aload_n 0, 1) := by decide +kernel
theorem dL_law_453 : decode cL_law 453 = .ok (.iload_n 3, 1) := by decide +kernel
theorem dL_law_454 : decode cL_law 454 = .ok (.iconst 2, 1) := by decide +kernel
theorem dL_law_455 : decode cL_law 455 = .ok (.iadd, 1) := by decide +kernel
theorem dL_law_456 : decode cL_law 456 = .ok (.iaload, 1) := by decide +kernel
theorem dL_law_457 : decode cL_law 457 = .ok (.aload_n 0, 1) := by decide +kernel
theorem dL_law_458 : decode cL_law 458 = .ok (.iload_n 3, 1) := by decide +kernel
theorem dL_law_459 : decode cL_law 459 = .ok (.iconst 3, 1) := by decide +kernel
theorem dL_law_460 : decode cL_law 460 = .ok (.iadd, 1) := by decide +kernel
theorem dL_law_461 : decode cL_law 461 = .ok (.iaload, 1) := by decide +kernel
theorem dL_law_462 : decode cL_law 462 = .ok (.invokevirtual 72, 3) := by decide +kernel
theorem dL_law_465 : decode cL_law 465 = .ok (.aload_n 2, 1) := by decide +kernel
theorem dL_law_466 : decode cL_law 466 = .ok (.aload_n 0, 1) := by decide +kernel
theorem dL_law_467 : decode cL_law 467 = .ok (.iload_n 3, 1) := by decide +kernel
theorem dL_law_468 : decode cL_law 468 = .ok (.iconst 1, 1) := by decide +kernel
theorem dL_law_469 : decode cL_law 469 = .ok (.iadd, 1) := by decide +kernel
theorem dL_law_470 : decode cL_law 470 = .ok (.iaload, 1) := by decide +kernel
theorem dL_law_471 : decode cL_law 471 = .ok (.aload_n 0, 1) := by decide +kernel
theorem dL_law_472 : decode cL_law 472 = .ok (.iload_n 3, 1) := by decide +kernel
theorem dL_law_473 : decode cL_law 473 = .ok (.iconst 2, 1) := by decide +kernel
theorem dL_law_474 : decode cL_law 474 = .ok (.iadd, 1) := by decide +kernel
theorem dL_law_475 : decode cL_law 475 = .ok (.iaload, 1) := by decide +kernel
theorem dL_law_476 : decode cL_law 476 = .ok (.aload_n 0, 1) := by decide +kernel
theorem dL_law_477 : decode cL_law 477 = .ok (.iload_n 3, 1) := by decide +kernel
theorem dL_law_478 : decode cL_law 478 = .ok (.iconst 3, 1) := by decide +kernel
theorem dL_law_479 : decode cL_law 479 = .ok (.iadd, 1) := by decide +kernel
theorem dL_law_480 : decode cL_law 480 = .ok (.iaload, 1) := by decide +kernel
theorem dL_law_481 : decode cL_law 481 = .ok (.invokevirtual 76, 3) := by decide +kernel
theorem dL_law_484 : decode cL_law 484 = .ok (.if_icmp .eq 232, 3) := by decide +kernel
theorem dL_law_487 : decode cL_law 487 = .ok (.iconst 0, 1) := by decide +kernel
theorem dL_law_488 : decode cL_law 488 = .ok (.ireturn, 1) := by decide +kernel
theorem dL_law_489 : decode cL_law 489 = .ok (.aload_n 1, 1) := by decide +kernel
theorem dL_law_490 : decode cL_law 490 = .ok (.invokevirtual 77, 3) := by decide +kernel
theorem dL_law_493 : decode cL_law 493 = .ok (.aload_n 2, 1) := by decide +kernel
theorem dL_law_494 : decode cL_law 494 = .ok (.invokevirtual 80, 3) := by decide +kernel
theorem dL_law_497 : decode cL_law 497 = .ok (.if_icmp .eq 219, 3) := by decide +kernel
theorem dL_law_500 : decode cL_law 500 = .ok (.iconst 0, 1) := by decide +kernel
theorem dL_law_501 : decode cL_law 501 = .ok (.ireturn, 1) := by decide +kernel
theorem dL_law_502 : decode cL_law 502 = .ok (.aload_n 1, 1) := by decide +kernel
theorem dL_law_503 : decode cL_law 503 = .ok (.invokevirtual 81, 3) := by decide +kernel
theorem dL_law_506 : decode cL_law 506 = .ok (.aload_n 2, 1) := by decide +kernel
theorem dL_law_507 : decode cL_law 507 = .ok (.invokevirtual 84, 3) := by decide +kernel
theorem dL_law_510 : decode cL_law 510 = .ok (.if_icmp .eq 206, 3) := by decide +kernel
theorem dL_law_513 : decode cL_law 513 = .ok (.iconst 0, 1) := by decide +kernel
theorem dL_law_514 : decode cL_law 514 = .ok (.ireturn, 1) := by decide +kernel
theorem dL_law_515 : decode cL_law 515 = .ok (.aload_n 1, 1) := by decide +kernel
theorem dL_law_516 : decode cL_law 516 = .ok (.aload_n 0, 1) := by decide +kernel
theorem dL_law_517 : decode cL_law 517 = .ok (.iload_n 3, 1) := by decide +kernel
theorem dL_law_518 : decode cL_law 518 = .ok (.iconst 1, 1) := by decide +kernel
theorem dL_law_519 : decode cL_law 519 = .ok (.iadd, 1) := by decide +kernel
theorem dL_law_520 : decode cL_law 520 = .ok (.iaload, 1) := by decide +kernel
theorem dL_law_521 : decode cL_law 521 = .ok (.invokevirtual 85, 3) := by decide +kernel
theorem dL_law_524 : decode cL_law 524 = .ok (.aload_n 2, 1) := by decide +kernel
theorem dL_law_525 : decode cL_law 525 = .ok (.aload_n 0, 1) := by decide +kernel
theorem dL_law_526 : decode cL_law 526 = .ok (.iload_n 3, 1) := by decide +kernel
theorem dL_law_527 : decode cL_law 527 = .ok (.iconst 1, 1) := by decide +kernel
theorem dL_law_528 : decode cL_law 528 = .ok (.iadd, 1) := by decide +kernel
theorem dL_law_529 : decode cL_law 529 = .ok (.iaload, 1) := by decide +kernel
theorem dL_law_530 : decode cL_law 530 = .ok (.invokevirtual 88, 3) := by decide +kernel
theorem dL_law_533 : decode cL_law 533 = .ok (.if_icmp .eq 183, 3) := by decide +kernel
theorem dL_law_536 : decode cL_law 536 = .ok (.iconst 0, 1) := by decide +kernel
theorem dL_law_537 : decode cL_law 537 = .ok (.ireturn, 1) := by decide +kernel
theorem dL_law_538 : decode cL_law 538 = .ok (.aload_n 1, 1) := by decide +kernel
theorem dL_law_539 : decode cL_law 539 = .ok (.aload_n 0, 1) := by decide +kernel
theorem dL_law_540 : decode cL_law 540 = .ok (.iload_n 3, 1) := by decide +kernel
theorem dL_law_541 : decode cL_law 541 = .ok (.iconst 1, 1) := by decide +kernel
theorem dL_law_542 : decode cL_law 542 = .ok (.iadd, 1) := by decide +kernel
theorem dL_law_543 : decode cL_law 543 = .ok (.iaload, 1) := by decide +kernel
theorem dL_law_544 : decode cL_law 544 = .ok (.aload_n 0, 1) := by decide +kernel
theorem dL_law_545 : decode cL_law 545 = .ok (.iload_n 3, 1) := by decide +kernel
theorem dL_law_546 : decode cL_law 546 = .ok (.iconst 2, 1) := by decide +kernel
theorem dL_law_547 : decode cL_law 547 = .ok (.iadd, 1) := by decide +kernel
theorem dL_law_548 : decode cL_law 548 = .ok (.iaload, 1) := by decide +kernel
theorem dL_law_549 : decode cL_law 549 = .ok (.aload_n 0, 1) := by decide +kernel
theorem dL_law_550 : decode cL_law 550 = .ok (.iload_n 3, 1) := by decide +kernel
theorem dL_law_551 : decode cL_law 551 = .ok (.iconst 3, 1) := by decide +kernel
