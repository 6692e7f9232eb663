theorem dX10_fault_1 : decode cX10_fault 1 = .ok (.getfield 10, 3) := by decide +kernel
theorem dX10_fault_4 : decode cX10_fault 4 = .ok (.aload_n 0, 1) := by decide +kernel
theorem dX10_fault_5 : decode cX10_fault 5 = .ok (.getfield 19, 3) := by decide +kernel
theorem dX10_fault_8 : decode cX10_fault 8 = .ok (.getfield 89, 3) := by decide +kernel
theorem dX10_fault_11 : decode cX10_fault 11 = .ok (.invokevirtual 92, 3) := by decide +kernel
theorem dX10_fault_14 : decode cX10_fault 14 = .ok (.ireturn, 1) := by decide +kernel
theorem dX10_lane_0 : decode cX10_lane 0 = .ok (.aload_n 0, 1) := by decide +kernel
theorem dX10_lane_1 : decode cX10_lane 1 = .ok (.getfield 10, 3) := by decide +kernel
theorem dX10_lane_4 : decode cX10_lane 4 = .ok (.aload_n 0, 1) := by decide +kernel
theorem dX10_lane_5 : decode cX10_lane 5 = .ok (.getfield 19, 3) := by decide +kernel
theorem dX10_lane_8 : decode cX10_lane 8 = .ok (.getfield 89, 3) := by decide +kernel
theorem dX10_lane_11 : decode cX10_lane 11 = .ok (.invokevirtual 92, 3) := by decide +kernel
theorem dX10_lane_14 : decode cX10_lane 14 = .ok (.iconst (-1), 1) := by decide +kernel
theorem dX10_lane_15 : decode cX10_lane 15 = .ok (.if_icmp .eq 6, 3) := by decide +kernel
theorem dX10_lane_18 : decode cX10_lane 18 = .ok (.bipush (-4), 2) := by decide +kernel
theorem dX10_lane_20 : decode cX10_lane 20 = .ok (.ireturn, 1) := by decide +kernel
theorem dX10_lane_21 : decode cX10_lane 21 = .ok (.iconst 0, 1) := by decide +kernel
theorem dX10_lane_22 : decode cX10_lane 22 = .ok (.istore_n 1, 1) := by decide +kernel
theorem dX10_lane_23 : decode cX10_lane 23 = .ok (.iload_n 1, 1) := by decide +kernel
theorem dX10_lane_24 : decode cX10_lane 24 = .ok (.aload_n 0, 1) := by decide +kernel
theorem dX10_lane_25 : decode cX10_lane 25 = .ok (.getfield 10, 3) := by decide +kernel
theorem dX10_lane_28 : decode cX10_lane 28 = .ok (.getfield 96, 3) := by decide +kernel
theorem dX10_lane_31 : decode cX10_lane 31 = .ok (.if_icmp .ge 52, 3) := by decide +kernel
theorem dX10_lane_34 : decode cX10_lane 34 = .ok (.aload_n 0, 1) := by decide +kernel
theorem dX10_lane_35 : decode cX10_lane 35 = .ok (.getfield 19, 3) := by decide +kernel
theorem dX10_lane_38 : decode cX10_lane 38 = .ok (.aload_n 0, 1) := by decide +kernel
theorem dX10_lane_39 : decode cX10_lane 39 = .ok (.getfield 10, 3) := by decide +kernel
theorem dX10_lane_42 : decode cX10_lane 42 = .ok (.getfield 99, 3) := by decide +kernel
theorem dX10_lane_45 : decode cX10_lane 45 = .ok (.iload_n 1, 1) := by decide +kernel
theorem dX10_lane_46 : decode cX10_lane 46 = .ok (.iaload, 1) := by decide +kernel
theorem dX10_lane_47 : decode cX10_lane 47 = .ok (.aload_n 0, 1) := by decide +kernel
theorem dX10_lane_48 : decode cX10_lane 48 = .ok (.getfield 10, 3) := by decide +kernel
theorem dX10_lane_51 : decode cX10_lane 51 = .ok (.iload_n 1, 1) := by decide +kernel
theorem dX10_lane_52 : decode cX10_lane 52 = .ok (.iconst 0, 1) := by decide +kernel
theorem dX10_lane_53 : decode cX10_lane 53 = .ok (.invokevirtual 102, 3) := by decide +kernel
theorem dX10_lane_56 : decode cX10_lane 56 = .ok (.aload_n 0, 1) := by decide +kernel
theorem dX10_lane_57 : decode cX10_lane 57 = .ok (.getfield 10, 3) := by decide +kernel
theorem dX10_lane_60 : decode cX10_lane 60 = .ok (.iload_n 1, 1) := by decide +kernel
theorem dX10_lane_61 : decode cX10_lane 61 = .ok (.iconst 1, 1) := by decide +kernel
theorem dX10_lane_62 : decode cX10_lane 62 = .ok (.invokevirtual 102, 3) := by decide +kernel
theorem dX10_lane_65 : decode cX10_lane 65 = .ok (.aload_n 0, 1) := by decide +kernel
theorem dX10_lane_66 : decode cX10_lane 66 = .ok (.getfield 10, 3) := by decide +kernel
theorem dX10_lane_69 : decode cX10_lane 69 = .ok (.iload_n 1, 1) := by decide +kernel
theorem dX10_lane_70 : decode cX10_lane 70 = .ok (.iconst 2, 1) := by decide +kernel
theorem dX10_lane_71 : decode cX10_lane 71 = .ok (.invokevirtual 102, 3) := by decide +kernel
theorem dX10_lane_74 : decode cX10_lane 74 = .ok (.invokevirtual 106, 3) := by decide +kernel
theorem dX10_lane_77 : decode cX10_lane 77 = .ok (.iinc 1 1, 3) := by decide +kernel
theorem dX10_lane_80 : decode cX10_lane 80 = .ok (.goto (-57), 3) := by decide +kernel
theorem dX10_lane_83 : decode cX10_lane 83 = .ok (.aload_n 0, 1) := by decide +kernel
theorem dX10_lane_84 : decode cX10_lane 84 = .ok (.getfield 10, 3) := by decide +kernel
theorem dX10_lane_87 : decode cX10_lane 87 = .ok (.iconst 0, 1) := by decide +kernel
theorem dX10_lane_88 : decode cX10_lane 88 = .ok (.putfield 86, 3) := by decide +kernel
theorem dX10_lane_91 : decode cX10_lane 91 = .ok (.aload_n 0, 1) := by decide +kernel
theorem dX10_lane_92 : decode cX10_lane 92 = .ok (.getfield 26, 3) := by decide +kernel
theorem dX10_lane_95 : decode cX10_lane 95 = .ok (.aload_n 0, 1) := by decide +kernel
theorem dX10_lane_96 : decode cX10_lane 96 = .ok (.getfield 19, 3) := by decide +kernel
theorem dX10_lane_99 : decode cX10_lane 99 = .ok (.invokevirtual 110, 3) := by decide +kernel
theorem dX10_lane_102 : decode cX10_lane 102 = .ok (.aload_n 0, 1) := by decide +kernel
theorem dX10_lane_103 : decode cX10_lane 103 = .ok (.getfield 26, 3) := by decide +kernel
theorem dX10_lane_106 : decode cX10_lane 106 = .ok (.iconst 0, 1) := by decide +kernel
theorem dX10_lane_107 : decode cX10_lane 107 = .ok (.putfield 114, 3) := by decide +kernel
theorem dX10_lane_110 : decode cX10_lane 110 = .ok (.aload_n 0, 1) := by decide +kernel
theorem dX10_lane_111 : decode cX10_lane 111 = .ok (.getfield 33, 3) := by decide +kernel
theorem dX10_lane_114 : decode cX10_lane 114 = .ok (.iconst 0, 1) := by decide +kernel
theorem dX10_lane_115 : decode cX10_lane 115 = .ok (.putfield 118, 3) := by decide +kernel
theorem dX10_lane_118 : decode cX10_lane 118 = .ok (.aload_n 0, 1) := by decide +kernel
theorem dX10_lane_119 : decode cX10_lane 119 = .ok (.iconst 0, 1) := by decide +kernel
theorem dX10_lane_120 : decode cX10_lane 120 = .ok (.putfield 121, 3) := by decide +kernel
theorem dX10_lane_123 : decode cX10_lane 123 = .ok (.iconst 0, 1) := by decide +kernel
theorem dX10_lane_124 : decode cX10_lane 124 = .ok (.istore_n 1, 1) := by decide +kernel
theorem dX10_lane_125 : decode cX10_lane 125 = .ok (.iload_n 1, 1) := by decide +kernel
theorem dX10_lane_126 : decode cX10_lane 126 = .ok (.iconst 2, 1) := by decide +kernel
theorem dX10_lane_127 : decode cX10_lane 127 = .ok (.if_icmp .ge 16, 3) := by decide +kernel
theorem dX10_lane_130 : decode cX10_lane 130 = .ok (.aload_n 0, 1) := by decide +kernel
theorem dX10_lane_131 : decode cX10_lane 131 = .ok (.getfield 44, 3) := by decide +kernel
theorem dX10_lane_134 : decode cX10_lane 134 = .ok (.iload_n 1, 1) := by decide +kernel
theorem dX10_lane_135 : decode cX10_lane 135 = .ok (.iconst 0, 1) := by decide +kernel
theorem dX10_lane_136 : decode cX10_lane 136 = .ok (.bastore, 1) := by decide +kernel
theorem dX10_lane_137 : decode cX10_lane 137 = .ok (.iinc 1 1, 3) := by decide +kernel
theorem dX10_lane_140 : decode cX10_lane 140 = .ok (.goto (-15), 3) := by decide +kernel
theorem dX10_lane_143 : decode cX10_lane 143 = .ok (.aload_n 0, 1) := by decide +kernel
theorem dX10_lane_144 : decode cX10_lane 144 = .ok (.getfield 10, 3) := by decide +kernel
theorem dX10_lane_147 : decode cX10_lane 147 = .ok (.getfield 96, 3) := by decide +kernel
theorem dX10_lane_150 : decode cX10_lane 150 = .ok (.ireturn, 1) := by decide +kernel
theorem dX10_sort_0 : decode cX10_sort 0 = .ok (.iload_n 1, 1) := by decide +kernel
theorem dX10_sort_1 : decode cX10_sort 1 = .ok (.iconst 0, 1) := by decide +kernel
theorem dX10_sort_2 : decode cX10_sort 2 = .ok (.iconst 3, 1) := by decide +kernel
theorem dX10_sort_3 : decode cX10_sort 3 = .ok (.invokestatic 78, 3) := by decide +kernel
theorem dX10_sort_6 : decode cX10_sort 6 = .ok (.ifCond .ne 6, 3) := by decide +kernel
theorem dX10_sort_9 : decode cX10_sort 9 = .ok (.bipush (-2), 2) := by decide +kernel
theorem dX10_sort_11 : decode cX10_sort 11 = .ok (.ireturn, 1) := by decide +kernel
theorem dX10_sort_12 : decode cX10_sort 12 = .ok (.iload_n 2, 1) := by decide +kernel
theorem dX10_sort_13 : decode cX10_sort 13 = .ok (.tableswitch 57 0 2 #[27, 37, 47], 27) := by decide +kernel
theorem dX10_sort_40 : decode cX10_sort 40 = .ok (.aload_n 0, 1) := by decide +kernel
theorem dX10_sort_41 : decode cX10_sort 41 = .ok (.getfield 19, 3) := by decide +kernel
theorem dX10_sort_44 : decode cX10_sort 44 = .ok (.getfield 124, 3) := by decide +kernel
theorem dX10_sort_47 : decode cX10_sort 47 = .ok (.iload_n 1, 1) := by decide +kernel
theorem dX10_sort_48 : decode cX10_sort 48 = .ok (.iaload, 1) := by decide +kernel
theorem dX10_sort_49 : decode cX10_sort 49 = .ok (.ireturn, 1) := by decide +kernel
theorem dX10_sort_50 : decode cX10_sort 50 = .ok (.aload_n 0, 1) := by decide +kernel
theorem dX10_sort_51 : decode cX10_sort 51 = .ok (.getfield 19, 3) := by decide +kernel
theorem dX10_sort_54 : decode cX10_sort 54 = .ok (.getfield 127, 3) := by decide +kernel
theorem dX10_sort_57 : decode cX10_sort 57 = .ok (.iload_n 1, 1) := by decide +kernel
theorem dX10_sort_58 : decode cX10_sort 58 = .ok (.iaload, 1) := by decide +kernel
theorem dX10_sort_59 : decode cX10_sort 59 = .ok (.ireturn, 1) := by decide +kernel
theorem dX10_sort_60 : decode cX10_sort 60 = .ok (.aload_n 0, 1) := by decide +kernel
theorem dX10_sort_61 : decode cX10_sort 61 = .ok (.getfield 26, 3) := by decide +kernel
theorem dX10_sort_64 : decode cX10_sort 64 = .ok (.getfield 130, 3) := by decide +kernel
theorem dX10_sort_67 : decode cX10_sort 67 = .ok (.iload_n 1, 1) := by decide +kernel
theorem dX10_sort_68 : decode cX10_sort 68 = .ok (.iaload, 1) := by decide +kernel
theorem dX10_sort_69 : decode cX10_sort 69 = .ok (.ireturn, 1) := by decide +kernel
theorem dX10_sort_70 : decode cX10_sort 70 = .ok (.bipush (-3), 2) := by decide +kernel
theorem dX10_sort_72 : decode cX10_sort 72 = .ok (.ireturn, 1) := by decide +kernel
theorem dX10_shop_0 : decode cX10_shop 0 = .ok (.aload_n 0, 1) := by decide +kernel
theorem dX10_shop_1 : decode cX10_shop 1 = .ok (.getfield 19, 3) := by decide +kernel
theorem dX10_shop_4 : decode cX10_shop 4 = .ok (.iload_n 1, 1) := by decide +kernel
theorem dX10_shop_5 : decode cX10_shop 5 = .ok (.invokevirtual 133, 3) := by decide +kernel
theorem dX10_shop_8 : decode cX10_shop 8 = .ok (.astore_n 3, 1) := by decide +kernel
theorem dX10_shop_9 : decode cX10_shop 9 = .ok (.aload_n 3, 1) := by decide +kernel
theorem dX10_shop_10 : decode cX10_shop 10 = .ok (.ifnonnull 6, 3) := by decide +kernel
theorem dX10_shop_13 : decode cX10_shop 13 = .ok (.bipush (-2), 2) := by decide +kernel
theorem dX10_shop_15 : decode cX10_shop 15 = .ok (.ireturn, 1) := by decide +kernel
theorem dX10_shop_16 : decode cX10_shop 16 = .ok (.iload_n 2, 1) := by decide +kernel
theorem dX10_shop_17 : decode cX10_shop 17 = .ok (.tableswitch 120 0 6 #[43, 48, 53, 58, 63, 76, 88], 43) := by decide +kernel
theorem dX10_shop_60 : decode cX10_shop 60 = .ok (.aload_n 3, 1) := by decide +kernel
theorem dX10_shop_61 : decode cX10_shop 61 = .ok (.invokevirtual 137, 3) := by decide +kernel
theorem dX10_shop_64 : decode cX10_shop 64 = .ok (.ireturn, 1) := by decide +kernel
theorem dX10_shop_65 : decode cX10_shop 65 = .ok (.aload_n 3, 1) := by decide +kernel
theorem dX10_shop_66 : decode cX10_shop 66 = .ok (.getfield 143, 3) := by decide +kernel
theorem dX10_shop_69 : decode cX10_shop 69 = .ok (.ireturn, 1) := by decide +kernel
theorem dX10_shop_70 : decode cX10_shop 70 = .ok (.aload_n 3, 1) := by decide +kernel
theorem dX10_shop_71 : decode cX10_shop 71 = .ok (.getfield 146, 3) := by decide +kernel
theorem dX10_shop_74 : decode cX10_shop 74 = .ok (.ireturn, 1) := by decide +kernel
theorem dX10_shop_75 : decode cX10_shop 75 = .ok (.aload_n 3, 1) := by decide +kernel
theorem dX10_shop_76 : decode cX10_shop 76 = .ok (.getfield 149, 3) := by decide +kernel
theorem dX10_shop_79 : decode cX10_shop 79 = .ok (.ireturn, 1) := by decide +kernel
theorem dX10_shop_80 : decode cX10_shop 80 = .ok (.aload_n 0, 1) := by decide +kernel
theorem dX10_shop_81 : decode cX10_shop 81 = .ok (.getfield 26, 3) := by decide +kernel
theorem dX10_shop_84 : decode cX10_shop 84 = .ok (.aload_n 0, 1) := by decide +kernel
theorem dX10_shop_85 : decode cX10_shop 85 = .ok (.getfield 19, 3) := by decide +kernel
theorem dX10_shop_88 : decode cX10_shop 88 = .ok (.iload_n 1, 1) := by decide +kernel
theorem dX10_shop_89 : decode cX10_shop 89 = .ok (.invokevirtual 152, 3) := by decide +kernel
theorem dX10_shop_92 : decode cX10_shop 92 = .ok (.ireturn, 1) := by decide +kernel
theorem dX10_shop_93 : decode cX10_shop 93 = .ok (.aload_n 0, 1) := by decide +kernel
theorem dX10_shop_94 : decode cX10_shop 94 = .ok (.getfield 26, 3) := by decide +kernel
theorem dX10_shop_97 : decode cX10_shop 97 = .ok (.getfield 156, 3) := by decide +kernel
theorem dX10_shop_100 : decode cX10_shop 100 = .ok (.iload_n 1, 1) := by decide +kernel
theorem dX10_shop_101 : decode cX10_shop 101 = .ok (.ishr, 1) := by decide +kernel
theorem dX10_shop_102 : decode cX10_shop 102 = .ok (.iconst 1, 1) := by decide +kernel
theorem dX10_shop_103 : decode cX10_shop 103 = .ok (.iand, 1) := by decide +kernel
theorem dX10_shop_104 : decode cX10_shop 104 = .ok (.ireturn, 1) := by decide +kernel
theorem dX10_shop_105 : decode cX10_shop 105 = .ok (.aload_n 3, 1) := by decide +kernel
theorem dX10_shop_106 : decode cX10_shop 106 = .ok (.aload_n 0, 1) := by decide +kernel
theorem dX10_shop_107 : decode cX10_shop 107 = .ok (.getfield 26, 3) := by decide +kernel
theorem dX10_shop_110 : decode cX10_shop 110 = .ok (.getfield 130, 3) := by decide +kernel
theorem dX10_shop_113 : decode cX10_shop 113 = .ok (.aload_n 3, 1) := by decide +kernel
theorem dX10_shop_114 : decode cX10_shop 114 = .ok (.getfield 143, 3) := by decide +kernel
theorem dX10_shop_117 : decode cX10_shop 117 = .ok (.iaload, 1) := by decide +kernel
theorem dX10_shop_118 : decode cX10_shop 118 = .ok (.aload_n 0, 1) := by decide +kernel
theorem dX10_shop_119 : decode cX10_shop 119 = .ok (.getfield 26, 3) := by decide +kernel
theorem dX10_shop_122 : decode cX10_shop 122 = .ok (.getfield 159, 3) := by decide +kernel
theorem dX10_shop_125 : decode cX10_shop 125 = .ok (.ifCond .le 7, 3) := by decide +kernel
theorem dX10_shop_128 : decode cX10_shop 128 = .ok (.iconst 1, 1) := by decide +kernel
theorem dX10_shop_129 : decode cX10_shop 129 = .ok (.goto 4, 3) := by decide +kernel
theorem dX10_shop_132 : decode cX10_shop 132 = .ok (.iconst 0, 1) := by decide +kernel
theorem dX10_shop_133 : decode cX10_shop 133 = .ok (.invokevirtual 162, 3) := by decide +kernel
theorem dX10_shop_136 : decode cX10_shop 136 = .ok (.ireturn, 1) := by decide +kernel
theorem dX10_shop_137 : decode cX10_shop 137 = .ok (.bipush (-3), 2) := by decide +kernel
theorem dX10_shop_139 : decode cX10_shop 139 = .ok (.ireturn, 1) := by decide +kernel
theorem dX10_as_0 : decode cX10_as 0 = .ok (.aload_n 0, 1) := by decide +kernel
theorem dX10_as_1 : decode cX10_as 1 = .ok (.getfield 19, 3) := by decide +kernel
theorem dX10_as_4 : decode cX10_as 4 = .ok (.iload_n 1, 1) := by decide +kernel
theorem dX10_as_5 : decode cX10_as 5 = .ok (.invokevirtual 133, 3) := by decide +kernel
theorem dX10_as_8 : decode cX10_as 8 = .ok (.astore_n 3, 1) := by decide +kernel
theorem dX10_as_9 : decode cX10_as 9 = .ok (.aload_n 3, 1) := by decide +kernel
theorem dX10_as_10 : decode cX10_as 10 = .ok (.ifnonnull 6, 3) := by decide +kernel
theorem dX10_as_13 : decode cX10_as 13 = .ok (.bipush (-2), 2) := by decide +kernel
theorem dX10_as_15 : decode cX10_as 15 = .ok (.ireturn, 1) := by decide +kernel
theorem dX10_as_16 : decode cX10_as 16 = .ok (.iload_n 2, 1) := by decide +kernel
theorem dX10_as_17 : decode cX10_as 17 = .ok (.iconst 0, 1) := by decide +kernel
theorem dX10_as_18 : decode cX10_as 18 = .ok (.iconst 4, 1) := by decide +kernel
theorem dX10_as_19 : decode cX10_as 19 = .ok (.invokestatic 78, 3) := by decide +kernel
theorem dX10_as_22 : decode cX10_as 22 = .ok (.ifCond .ne 6, 3) := by decide +kernel
theorem dX10_as_25 : decode cX10_as 25 = .ok (.bipush (-3), 2) := by decide +kernel
theorem dX10_as_27 : decode cX10_as 27 = .ok (.ireturn, 1) := by decide +kernel
theorem dX10_as_28 : decode cX10_as 28 = .ok (.aload_n 3, 1) := by decide +kernel
theorem dX10_as_29 : decode cX10_as 29 = .ok (.iload_n 2, 1) := by decide +kernel
theorem dX10_as_30 : decode cX10_as 30 = .ok (.invokestatic 166, 3) := by decide +kernel
theorem dX10_as_33 : decode cX10_as 33 = .ok (.ifCond .ne 6, 3) := by decide +kernel
theorem dX10_as_36 : decode cX10_as 36 = .ok (.bipush (-4), 2) := by decide +kernel
theorem dX10_as_38 : decode cX10_as 38 = .ok (.ireturn, 1) := by decide +kernel
theorem dX10_as_39 : decode cX10_as 39 = .ok (.aload_n 0, 1) := by decide +kernel
theorem dX10_as_40 : decode cX10_as 40 = .ok (.getfield 26, 3) := by decide +kernel
theorem dX10_as_43 : decode cX10_as 43 = .ok (.getfield 130, 3) := by decide +kernel
theorem dX10_as_46 : decode cX10_as 46 = .ok (.aload_n 3, 1) := by decide +kernel
theorem dX10_as_47 : decode cX10_as 47 = .ok (.getfield 143, 3) := by decide +kernel
theorem dX10_as_50 : decode cX10_as 50 = .ok (.iaload, 1) := by decide +kernel
theorem dX10_as_51 : decode cX10_as 51 = .ok (.istore 4, 2) := by decide +kernel
theorem dX10_as_53 : decode cX10_as 53 = .ok (.iload 4, 2) := by decide +kernel
theorem dX10_as_55 : decode cX10_as 55 = .ok (.aload_n 3, 1) := by decide +kernel
theorem dX10_as_56 : decode cX10_as 56 = .ok (.aload_n 3, 1) := by decide +kernel
theorem dX10_as_57 : decode cX10_as 57 = .ok (.getfield 143, 3) := by decide +kernel
theorem dX10_as_60 : decode cX10_as 60 = .ok (.aload_n 0, 1) := by decide +kernel
theorem dX10_as_61 : decode cX10_as 61 = .ok (.getfield 19, 3) := by decide +kernel
theorem dX10_as_64 : decode cX10_as 64 = .ok (.getfield 124, 3) := by decide +kernel
theorem dX10_as_67 : decode cX10_as 67 = .ok (.aload_n 3, 1) := by decide +kernel
theorem dX10_as_68 : decode cX10_as 68 = .ok (.getfield 143, 3) := by decide +kernel
theorem dX10_as_71 : decode cX10_as 71 = .ok (.iaload, 1) := by decide +kernel
theorem dX10_as_72 : decode cX10_as 72 = .ok (.invokevirtual 170, 3) := by decide +kernel
theorem dX10_as_75 : decode cX10_as 75 = .ok (.iadd, 1) := by decide +kernel
theorem dX10_as_76 : decode cX10_as 76 = .ok (.invokestatic 173, 3) := by decide +kernel
theorem dX10_as_79 : decode cX10_as 79 = .ok (.iload 4, 2) := by decide +kernel
theorem dX10_as_81 : decode cX10_as 81 = .ok (.isub, 1) := by decide +kernel
theorem dX10_as_82 : decode cX10_as 82 = .ok (.bipush 99, 2) := by decide +kernel
theorem dX10_as_84 : decode cX10_as 84 = .ok (.iadd, 1) := by decide +kernel
theorem dX10_as_85 : decode cX10_as 85 = .ok (.ireturn, 1) := by decide +kernel
theorem dX10_visit_0 : decode cX10_visit 0 = .ok (.aload_n 0, 1) := by decide +kernel
theorem dX10_visit_1 : decode cX10_visit 1 = .ok (.getfield 19, 3) := by decide +kernel
theorem dX10_visit_4 : decode cX10_visit 4 = .ok (.iload_n 1, 1) := by decide +kernel
theorem dX10_visit_5 : decode cX10_visit 5 = .ok (.invokevirtual 133, 3) := by decide +kernel
theorem dX10_visit_8 : decode cX10_visit 8 = .ok (.ifnonnull 6, 3) := by decide +kernel
theorem dX10_visit_11 : decode cX10_visit 11 = .ok (.bipush (-2), 2) := by decide +kernel
theorem dX10_visit_13 : decode cX10_visit 13 = .ok (.ireturn, 1) := by decide +kernel
theorem dX10_visit_14 : decode cX10_visit 14 = .ok (.aload_n 0, 1) := by decide +kernel
theorem dX10_visit_15 : decode cX10_visit 15 = .ok (.getfield 26, 3) := by decide +kernel
theorem dX10_visit_18 : decode cX10_visit 18 = .ok (.getfield 176, 3) := by decide +kernel
theorem dX10_visit_21 : decode cX10_visit 21 = .ok (.sipush 9999, 3) := by decide +kernel
theorem dX10_visit_24 : decode cX10_visit 24 = .ok (.if_icmp .le 6, 3) := by decide +kernel
theorem dX10_visit_27 : decode cX10_visit 27 = .ok (.bipush (-5), 2) := by decide +kernel
theorem dX10_visit_29 : decode cX10_visit 29 = .ok (.ireturn, 1) := by decide +kernel
theorem dX10_visit_30 : decode cX10_visit 30 = .ok (.aload_n 0, 1) := by decide +kernel
theorem dX10_visit_31 : decode cX10_visit 31 = .ok (.invokevirtual 179, 3) := by decide +kernel
theorem dX10_visit_34 : decode cX10_visit 34 = .ok (.aload_n 0, 1) := by decide +kernel
theorem dX10_visit_35 : decode cX10_visit 35 = .ok (.getfield 26, 3) := by decide +kernel
theorem dX10_visit_38 : decode cX10_visit 38 = .ok (.aload_n 0, 1) := by decide +kernel
theorem dX10_visit_39 : decode cX10_visit 39 = .ok (.getfield 19, 3) := by decide +kernel
theorem dX10_visit_42 : decode cX10_visit 42 = .ok (.iload_n 1, 1) := by decide +kernel
theorem dX10_visit_43 : decode cX10_visit 43 = .ok (.invokevirtual 182, 3) := by decide +kernel
theorem dX10_visit_46 : decode cX10_visit 46 = .ok (.ireturn, 1) := by decide +kernel
theorem dX10_idle_0 : decode cX10_idle 0 = .ok (.iload_n 1, 1) := by decide +kernel
theorem dX10_idle_1 : decode cX10_idle 1 = .ok (.iconst 1, 1) := by decide +kernel
theorem dX10_idle_2 : decode cX10_idle 2 = .ok (.bipush 20, 2) := by decide +kernel
theorem dX10_idle_4 : decode cX10_idle 4 = .ok (.invokestatic 78, 3) := by decide +kernel
theorem dX10_idle_7 : decode cX10_idle 7 = .ok (.ifCond .ne 6, 3) := by decide +kernel
theorem dX10_idle_10 : decode cX10_idle 10 = .ok (.bipush (-3), 2) := by decide +kernel
theorem dX10_idle_12 : decode cX10_idle 12 = .ok (.ireturn, 1) := by decide +kernel
theorem dX10_idle_13 : decode cX10_idle 13 = .ok (.aload_n 0, 1) := by decide +kernel
theorem dX10_idle_14 : decode cX10_idle 14 = .ok (.getfield 26, 3) := by decide +kernel
theorem dX10_idle_17 : decode cX10_idle 17 = .ok (.getfield 176, 3) := by decide +kernel
theorem dX10_idle_20 : decode cX10_idle 20 = .ok (.sipush 9999, 3) := by decide +kernel
theorem dX10_idle_23 : decode cX10_idle 23 = .ok (.if_icmp .le 6, 3) := by decide +kernel
theorem dX10_idle_26 : decode cX10_idle 26 = .ok (.bipush (-5), 2) := by decide +kernel
theorem dX10_idle_28 : decode cX10_idle 28 = .ok (.ireturn, 1) := by decide +kernel
theorem dX10_idle_29 : decode cX10_idle 29 = .ok (.aload_n 0, 1) := by decide +kernel
theorem dX10_idle_30 : decode cX10_idle 30 = .ok (.invokevirtual 179, 3) := by decide +kernel
theorem dX10_idle_33 : decode cX10_idle 33 = .ok (.aload_n 0, 1) := by decide +kernel
theorem dX10_idle_34 : decode cX10_idle 34 = .ok (.getfield 26, 3) := by decide +kernel
theorem dX10_idle_37 : decode cX10_idle 37 = .ok (.aload_n 0, 1) := by decide +kernel
theorem dX10_idle_38 : decode cX10_idle 38 = .ok (.getfield 19, 3) := by decide +kernel
theorem dX10_idle_41 : decode cX10_idle 41 = .ok (.iload_n 1, 1) := by decide +kernel
theorem dX10_idle_42 : decode cX10_idle 42 = .ok (.invokevirtual 185, 3) := by decide +kernel
theorem dX10_idle_45 : decode cX10_idle 45 = .ok (.aload_n 0, 1) := by decide +kernel
theorem dX10_idle_46 : decode cX10_idle 46 = .ok (.getfield 26, 3) := by decide +kernel
theorem dX10_idle_49 : decode cX10_idle 49 = .ok (.getfield 176, 3) := by decide +kernel
theorem dX10_idle_52 : decode cX10_idle 52 = .ok (.ireturn, 1) := by decide +kernel
theorem dX10_wind_0 : decode cX10_wind 0 = .ok (.aload_n 0, 1) := by decide +kernel
theorem dX10_wind_1 : decode cX10_wind 1 = .ok (.getfield 19, 3) := by decide +kernel
theorem dX10_wind_4 : decode cX10_wind 4 = .ok (.getfield 89, 3) := by decide +kernel
theorem dX10_wind_7 : decode cX10_wind 7 = .ok (.ifCond .ne 6, 3) := by decide +kernel
theorem dX10_wind_10 : decode cX10_wind 10 = .ok (.bipush (-4), 2) := by decide +kernel
theorem dX10_wind_12 : decode cX10_wind 12 = .ok (.ireturn, 1) := by decide +kernel
theorem dX10_wind_13 : decode cX10_wind 13 = .ok (.aload_n 0, 1) := by decide +kernel
theorem dX10_wind_14 : decode cX10_wind 14 = .ok (.invokevirtual 179, 3) := by decide +kernel
theorem dX10_wind_17 : decode cX10_wind 17 = .ok (.aload_n 0, 1) := by decide +kernel
theorem dX10_wind_18 : decode cX10_wind 18 = .ok (.getfield 26, 3) := by decide +kernel
theorem dX10_wind_21 : decode cX10_wind 21 = .ok (.aload_n 0, 1) := by decide +kernel
theorem dX10_wind_22 : decode cX10_wind 22 = .ok (.getfield 26, 3) := by decide +kernel
theorem dX10_wind_25 : decode cX10_wind 25 = .ok (.getfield 114, 3) := by decide +kernel
theorem dX10_wind_28 : decode cX10_wind 28 = .ok (.ifCond .ne 7, 3) := by decide +kernel
theorem dX10_wind_31 : decode cX10_wind 31 = .ok (.iconst 1, 1) := by decide +kernel
theorem dX10_wind_32 : decode cX10_wind 32 = .ok (.goto 4, 3) := by decide +kernel
theorem dX10_wind_35 : decode cX10_wind 35 = .ok (.iconst 0, 1) := by decide +kernel
theorem dX10_wind_36 : decode cX10_wind 36 = .ok (.putfield 114, 3) := by decide +kernel
theorem dX10_wind_39 : decode cX10_wind 39 = .ok (.aload_n 0, 1) := by decide +kernel
theorem dX10_wind_40 : decode cX10_wind 40 = .ok (.getfield 26, 3) := by decide +kernel
theorem dX10_wind_43 : decode cX10_wind 43 = .ok (.aload_n 0, 1) := by decide +kernel
theorem dX10_wind_44 : decode cX10_wind 44 = .ok (.getfield 19, 3) := by decide +kernel
theorem dX10_wind_47 : decode cX10_wind 47 = .ok (.getfield 89, 3) := by decide +kernel
theorem dX10_wind_50 : decode cX10_wind 50 = .ok (.iconst 1, 1) := by decide +kernel
theorem dX10_wind_51 : decode cX10_wind 51 = .ok (.isub, 1) := by decide +kernel
theorem dX10_wind_52 : decode cX10_wind 52 = .ok (.aload_n 0, 1) := by decide +kernel
theorem dX10_wind_53 : decode cX10_wind 53 = .ok (.getfield 26, 3) := by decide +kernel
theorem dX10_wind_56 : decode cX10_wind 56 = .ok (.getfield 189, 3) := by decide +kernel
theorem dX10_wind_59 : decode cX10_wind 59 = .ok (.isub, 1) := by decide +kernel
theorem dX10_wind_60 : decode cX10_wind 60 = .ok (.putfield 189, 3) := by decide +kernel
theorem dX10_wind_63 : decode cX10_wind 63 = .ok (.aload_n 0, 1) := by decide +kernel
theorem dX10_wind_64 : decode cX10_wind 64 = .ok (.getfield 26, 3) := by decide +kernel
theorem dX10_wind_67 : decode cX10_wind 67 = .ok (.getfield 189, 3) := by decide +kernel
theorem dX10_wind_70 : decode cX10_wind 70 = .ok (.ireturn, 1) := by decide +kernel
theorem dX10_cold_0 : decode cX10_cold 0 = .ok (.iload_n 1, 1) := by decide +kernel
theorem dX10_cold_1 : decode cX10_cold 1 = .ok (.iconst 0, 1) := by decide +kernel
theorem dX10_cold_2 : decode cX10_cold 2 = .ok (.bipush 50, 2) := by decide +kernel
theorem dX10_cold_4 : decode cX10_cold 4 = .ok (.invokestatic 78, 3) := by decide +kernel
theorem dX10_cold_7 : decode cX10_cold 7 = .ok (.ifCond .ne 6, 3) := by decide +kernel
theorem dX10_cold_10 : decode cX10_cold 10 = .ok (.bipush (-3), 2) := by decide +kernel
theorem dX10_cold_12 : decode cX10_cold 12 = .ok (.ireturn, 1) := by decide +kernel
theorem dX10_cold_13 : decode cX10_cold 13 = .ok (.aload_n 0, 1) := by decide +kernel
theorem dX10_cold_14 : decode cX10_cold 14 = .ok (.invokevirtual 179, 3) := by decide +kernel
theorem dX10_cold_17 : decode cX10_cold 17 = .ok (.aload_n 0, 1) := by decide +kernel
theorem dX10_cold_18 : decode cX10_cold 18 = .ok (.getfield 26, 3) := by decide +kernel
theorem dX10_cold_21 : decode cX10_cold 21 = .ok (.getfield 159, 3) := by decide +kernel
theorem dX10_cold_24 : decode cX10_cold 24 = .ok (.istore_n 2, 1) := by decide +kernel
theorem dX10_cold_25 : decode cX10_cold 25 = .ok (.aload_n 0, 1) := by decide +kernel
theorem dX10_cold_26 : decode cX10_cold 26 = .ok (.getfield 26, 3) := by decide +kernel
theorem dX10_cold_29 : decode cX10_cold 29 = .ok (.iload_n 1, 1) := by decide +kernel
theorem dX10_cold_30 : decode cX10_cold 30 = .ok (.putfield 159, 3) := by decide +kernel
theorem dX10_cold_33 : decode cX10_cold 33 = .ok (.iload_n 2, 1) := by decide +kernel
theorem dX10_cold_34 : decode cX10_cold 34 = .ok (.ireturn, 1) := by decide +kernel
theorem dX10_undo_0 : decode cX10_undo 0 = .ok (.aload_n 0, 1) := by decide +kernel
theorem dX10_undo_1 : decode cX10_undo 1 = .ok (.getfield 121, 3) := by decide +kernel
theorem dX10_undo_4 : decode cX10_undo 4 = .ok (.ifCond .ne 6, 3) := by decide +kernel
theorem dX10_undo_7 : decode cX10_undo 7 = .ok (.bipush (-4), 2) := by decide +kernel
theorem dX10_undo_9 : decode cX10_undo 9 = .ok (.ireturn, 1) := by decide +kernel
theorem dX10_undo_10 : decode cX10_undo 10 = .ok (.aload_n 0, 1) := by decide +kernel
theorem dX10_undo_11 : decode cX10_undo 11 = .ok (.aload_n 0, 1) := by decide +kernel
theorem dX10_undo_12 : decode cX10_undo 12 = .ok (.getfield 192, 3) := by decide +kernel
theorem dX10_undo_15 : decode cX10_undo 15 = .ok (.ifCond .ne 8, 3) := by decide +kernel
theorem dX10_undo_18 : decode cX10_undo 18 = .ok (.bipush 7, 2) := by decide +kernel
theorem dX10_undo_20 : decode cX10_undo 20 = .ok (.goto 9, 3) := by decide +kernel
theorem dX10_undo_23 : decode cX10_undo 23 = .ok (.aload_n 0, 1) := by decide +kernel
theorem dX10_undo_24 : decode cX10_undo 24 = .ok (.getfield 192, 3) := by decide +kernel
theorem dX10_undo_27 : decode cX10_undo 27 = .ok (.iconst 1, 1) := by decide +kernel
theorem dX10_undo_28 : decode cX10_undo 28 = .ok (.isub, 1) := by decide +kernel
theorem dX10_undo_29 : decode cX10_undo 29 = .ok (.putfield 192, 3) := by decide +kernel
theorem dX10_undo_32 : decode cX10_undo 32 = .ok (.aload_n 0, 1) := by decide +kernel
theorem dX10_undo_33 : decode cX10_undo 33 = .ok (.getfield 26, 3) := by decide +kernel
theorem dX10_undo_36 : decode cX10_undo 36 = .ok (.aload_n 0, 1) := by decide +kernel
theorem dX10_undo_37 : decode cX10_undo 37 = .ok (.getfield 37, 3) := by decide +kernel
theorem dX10_undo_40 : decode cX10_undo 40 = .ok (.aload_n 0, 1) := by decide +kernel
theorem dX10_undo_41 : decode cX10_undo 41 = .ok (.getfield 192, 3) := by decide +kernel
theorem dX10_undo_44 : decode cX10_undo 44 = .ok (.aaload, 1) := by decide +kernel
theorem dX10_undo_45 : decode cX10_undo 45 = .ok (.invokevirtual 195, 3) := by decide +kernel
theorem dX10_undo_48 : decode cX10_undo 48 = .ok (.aload_n 0, 1) := by decide +kernel
theorem dX10_undo_49 : decode cX10_undo 49 = .ok (.dup, 1) := by decide +kernel
theorem dX10_undo_50 : decode cX10_undo 50 = .ok (.getfield 121, 3) := by decide +kernel
theorem dX10_undo_53 : decode cX10_undo 53 = .ok (.iconst 1, 1) := by decide +kernel
theorem dX10_undo_54 : decode cX10_undo 54 = .ok (.isub, 1) := by decide +kernel
theorem dX10_undo_55 : decode cX10_undo 55 = .ok (.putfield 121, 3) := by decide +kernel
theorem dX10_undo_58 : decode cX10_undo 58 = .ok (.aload_n 0, 1) := by decide +kernel
theorem dX10_undo_59 : decode cX10_undo 59 = .ok (.getfield 121, 3) := by decide +kernel
theorem dX10_undo_62 : decode cX10_undo 62 = .ok (.ireturn, 1) := by decide +kernel
theorem dX10_keep_0 : decode cX10_keep 0 = .ok (.iload_n 1, 1) := by decide +kernel
theorem dX10_keep_1 : decode cX10_keep 1 = .ok (.iconst 0, 1) := by decide +kernel
theorem dX10_keep_2 : decode cX10_keep 2 = .ok (.iconst 1, 1) := by decide +kernel
theorem dX10_keep_3 : decode cX10_keep 3 = .ok (.invokestatic 78, 3) := by decide +kernel
theorem dX10_keep_6 : decode cX10_keep 6 = .ok (.ifCond .ne 6, 3) := by decide +kernel
theorem dX10_keep_9 : decode cX10_keep 9 = .ok (.bipush (-2), 2) := by decide +kernel
theorem dX10_keep_11 : decode cX10_keep 11 = .ok (.ireturn, 1) := by decide +kernel
theorem dX10_keep_12 : decode cX10_keep 12 = .ok (.aload_n 0, 1) := by decide +kernel
theorem dX10_keep_13 : decode cX10_keep 13 = .ok (.getfield 41, 3) := by decide +kernel
theorem dX10_keep_16 : decode cX10_keep 16 = .ok (.iload_n 1, 1) := by decide +kernel
theorem dX10_keep_17 : decode cX10_keep 17 = .ok (.aaload, 1) := by decide +kernel
theorem dX10_keep_18 : decode cX10_keep 18 = .ok (.aload_n 0, 1) := by decide +kernel
theorem dX10_keep_19 : decode cX10_keep 19 = .ok (.getfield 26, 3) := by decide +kernel
theorem dX10_keep_22 : decode cX10_keep 22 = .ok (.invokevirtual 195, 3) := by decide +kernel
theorem dX10_keep_25 : decode cX10_keep 25 = .ok (.aload_n 0, 1) := by decide +kernel
theorem dX10_keep_26 : decode cX10_keep 26 = .ok (.getfield 44, 3) := by decide +kernel
theorem dX10_keep_29 : decode cX10_keep 29 = .ok (.iload_n 1, 1) := by decide +kernel
theorem dX10_keep_30 : decode cX10_keep 30 = .ok (.iconst 1, 1) := by decide +kernel
theorem dX10_keep_31 : decode cX10_keep 31 = .ok (.bastore, 1) := by decide +kernel
theorem dX10_keep_32 : decode cX10_keep 32 = .ok (.aload_n 0, 1) := by decide +kernel
theorem dX10_keep_33 : decode cX10_keep 33 = .ok (.getfield 26, 3) := by decide +kernel
theorem dX10_keep_36 : decode cX10_keep 36 = .ok (.getfield 176, 3) := by decide +kernel
theorem dX10_keep_39 : decode cX10_keep 39 = .ok (.ireturn, 1) := by decide +kernel
theorem dX10_back_0 : decode cX10_back 0 = .ok (.iload_n 1, 1) := by decide +kernel
theorem dX10_back_1 : decode cX10_back 1 = .ok (.iconst 0, 1) := by decide +kernel
theorem dX10_back_2 : decode cX10_back 2 = .ok (.iconst 1, 1) := by decide +kernel
theorem dX10_back_3 : decode cX10_back 3 = .ok (.invokestatic 78, 3) := by decide +kernel
theorem dX10_back_6 : decode cX10_back 6 = .ok (.ifCond .ne 6, 3) := by decide +kernel
theorem dX10_back_9 : decode cX10_back 9 = .ok (.bipush (-2), 2) := by decide +kernel
theorem dX10_back_11 : decode cX10_back 11 = .ok (.ireturn, 1) := by decide +kernel
theorem dX10_back_12 : decode cX10_back 12 = .ok (.aload_n 0, 1) := by decide +kernel
theorem dX10_back_13 : decode cX10_back 13 = .ok (.getfield 44, 3) := by decide +kernel
theorem dX10_back_16 : decode cX10_back 16 = .ok (.iload_n 1, 1) := by decide +kernel
theorem dX10_back_17 : decode cX10_back 17 = .ok (.baload, 1) := by decide +kernel
theorem dX10_back_18 : decode cX10_back 18 = .ok (.ifCond .ne 6, 3) := by decide +kernel
theorem dX10_back_21 : decode cX10_back 21 = .ok (.bipush (-4), 2) := by decide +kernel
theorem dX10_back_23 : decode cX10_back 23 = .ok (.ireturn, 1) := by decide +kernel
theorem dX10_back_24 : decode cX10_back 24 = .ok (.aload_n 0, 1) := by decide +kernel
theorem dX10_back_25 : decode cX10_back 25 = .ok (.getfield 26, 3) := by decide +kernel
theorem dX10_back_28 : decode cX10_back 28 = .ok (.aload_n 0, 1) := by decide +kernel
theorem dX10_back_29 : decode cX10_back 29 = .ok (.getfield 41, 3) := by decide +kernel
theorem dX10_back_32 : decode cX10_back 32 = .ok (.iload_n 1, 1) := by decide +kernel
theorem dX10_back_33 : decode cX10_back 33 = .ok (.aaload, 1) := by decide +kernel
theorem dX10_back_34 : decode cX10_back 34 = .ok (.invokevirtual 195, 3) := by decide +kernel
theorem dX10_back_37 : decode cX10_back 37 = .ok (.aload_n 0, 1) := by decide +kernel
theorem dX10_back_38 : decode cX10_back 38 = .ok (.iconst 0, 1) := by decide +kernel
theorem dX10_back_39 : decode cX10_back 39 = .ok (.putfield 121, 3) := by decide +kernel
theorem dX10_back_42 : decode cX10_back 42 = .ok (.aload_n 0, 1) := by decide +kernel
theorem dX10_back_43 : decode cX10_back 43 = .ok (.getfield 26, 3) := by decide +kernel
theorem dX10_back_46 : decode cX10_back 46 = .ok (.getfield 176, 3) := by decide +kernel
theorem dX10_back_49 : decode cX10_back 49 = .ok (.ireturn, 1) := by decide +kernel
theorem dX10_best_0 : decode cX10_best 0 = .ok (.aload_n 0, 1) := by decide +kernel
theorem dX10_best_1 : decode cX10_best 1 = .ok (.iload_n 1, 1) := by decide +kernel
theorem dX10_best_2 : decode cX10_best 2 = .ok (.invokevirtual 199, 3) := by decide +kernel
theorem dX10_best_5 : decode cX10_best 5 = .ok (.ifCond .ne 6, 3) := by decide +kernel
theorem dX10_best_8 : decode cX10_best 8 = .ok (.bipush (-2), 2) := by decide +kernel
theorem dX10_best_10 : decode cX10_best 10 = .ok (.ireturn, 1) := by decide +kernel
theorem dX10_best_11 : decode cX10_best 11 = .ok (.iload_n 2, 1) := by decide +kernel
theorem dX10_best_12 : decode cX10_best 12 = .ok (.iconst 0, 1) := by decide +kernel
theorem dX10_best_13 : decode cX10_best 13 = .ok (.bipush 30, 2) := by decide +kernel
theorem dX10_best_15 : decode cX10_best 15 = .ok (.invokestatic 78, 3) := by decide +kernel
theorem dX10_best_18 : decode cX10_best 18 = .ok (.ifCond .eq 13, 3) := by decide +kernel
theorem dX10_best_21 : decode cX10_best 21 = .ok (.iload_n 3, 1) := by decide +kernel
theorem dX10_best_22 : decode cX10_best 22 = .ok (.iconst 0, 1) := by decide +kernel
theorem dX10_best_23 : decode cX10_best 23 = .ok (.bipush 7, 2) := by decide +kernel
theorem dX10_best_25 : decode cX10_best 25 = .ok (.invokestatic 78, 3) := by decide +kernel
theorem dX10_best_28 : decode cX10_best 28 = .ok (.ifCond .ne 6, 3) := by decide +kernel
theorem dX10_best_31 : decode cX10_best 31 = .ok (.bipush (-3), 2) := by decide +kernel
theorem dX10_best_33 : decode cX10_best 33 = .ok (.ireturn, 1) := by decide +kernel
theorem dX10_best_34 : decode cX10_best 34 = .ok (.aload_n 0, 1) := by decide +kernel
theorem dX10_best_35 : decode cX10_best 35 = .ok (.iload_n 1, 1) := by decide +kernel
theorem dX10_best_36 : decode cX10_best 36 = .ok (.iload_n 2, 1) := by decide +kernel
theorem dX10_best_37 : decode cX10_best 37 = .ok (.invokevirtual 203, 3) := by decide +kernel
theorem dX10_best_40 : decode cX10_best 40 = .ok (.ifCond .ne 5, 3) := by decide +kernel
theorem dX10_best_43 : decode cX10_best 43 = .ok (.iconst (-1), 1) := by decide +kernel
theorem dX10_best_44 : decode cX10_best 44 = .ok (.ireturn, 1) := by decide +kernel
theorem dX10_best_45 : decode cX10_best 45 = .ok (.iload_n 3, 1) := by decide +kernel
theorem dX10_best_46 : decode cX10_best 46 = .ok (.lookupswitch 36 #[(0, 26), (1, 31)], 26) := by decide +kernel
theorem dX10_best_72 : decode cX10_best 72 = .ok (.aload_n 0, 1) := by decide +kernel
theorem dX10_best_73 : decode cX10_best 73 = .ok (.getfield 207, 3) := by decide +kernel
theorem dX10_best_76 : decode cX10_best 76 = .ok (.ireturn, 1) := by decide +kernel
theorem dX10_best_77 : decode cX10_best 77 = .ok (.aload_n 0, 1) := by decide +kernel
theorem dX10_best_78 : decode cX10_best 78 = .ok (.getfield 210, 3) := by decide +kernel
theorem dX10_best_81 : decode cX10_best 81 = .ok (.ireturn, 1) := by decide +kernel
theorem dX10_best_82 : decode cX10_best 82 = .ok (.iload_n 3, 1) := by decide +kernel
theorem dX10_best_83 : decode cX10_best 83 = .ok (.iconst 2, 1) := by decide +kernel
theorem dX10_best_84 : decode cX10_best 84 = .ok (.isub, 1) := by decide +kernel
theorem dX10_best_85 : decode cX10_best 85 = .ok (.aload_n 0, 1) := by decide +kernel
theorem dX10_best_86 : decode cX10_best 86 = .ok (.getfield 54, 3) := by decide +kernel
theorem dX10_best_89 : decode cX10_best 89 = .ok (.getfield 213, 3) := by decide +kernel
theorem dX10_best_92 : decode cX10_best 92 = .ok (.if_icmp .ge 14, 3) := by decide +kernel
theorem dX10_best_95 : decode cX10_best 95 = .ok (.aload_n 0, 1) := by decide +kernel
theorem dX10_best_96 : decode cX10_best 96 = .ok (.getfield 71, 3) := by decide +kernel
theorem dX10_best_99 : decode cX10_best 99 = .ok (.iload_n 3, 1) := by decide +kernel
theorem dX10_best_100 : decode cX10_best 100 = .ok (.iconst 2, 1) := by decide +kernel
theorem dX10_best_101 : decode cX10_best 101 = .ok (.isub, 1) := by decide +kernel
theorem dX10_best_102 : decode cX10_best 102 = .ok (.iaload, 1) := by decide +kernel
theorem dX10_best_103 : decode cX10_best 103 = .ok (.goto 4, 3) := by decide +kernel
theorem dX10_best_106 : decode cX10_best 106 = .ok (.iconst (-1), 1) := by decide +kernel
theorem dX10_best_107 : decode cX10_best 107 = .ok (.ireturn, 1) := by decide +kernel
theorem dX10_through_0 : decode cX10_through 0 = .ok (.aload_n 0, 1) := by decide +kernel
theorem dX10_through_1 : decode cX10_through 1 = .ok (.invokevirtual 214, 3) := by decide +kernel
theorem dX10_through_4 : decode cX10_through 4 = .ok (.aload_n 0, 1) := by decide +kernel
theorem dX10_through_5 : decode cX10_through 5 = .ok (.iconst (-1), 1) := by decide +kernel
theorem dX10_through_6 : decode cX10_through 6 = .ok (.invokevirtual 217, 3) := by decide +kernel
theorem dX10_through_9 : decode cX10_through 9 = .ok (.ireturn, 1) := by decide +kernel
theorem dX10_change_0 : decode cX10_change 0 = .ok (.aload_n 0, 1) := by decide +kernel
theorem dX10_change_1 : decode cX10_change 1 = .ok (.invokevirtual 214, 3) := by decide +kernel
theorem dX10_change_4 : decode cX10_change 4 = .ok (.aload_n 0, 1) := by decide +kernel
theorem dX10_change_5 : decode cX10_change 5 = .ok (.iconst (-1), 1) := by decide +kernel
theorem dX10_change_6 : decode cX10_change 6 = .ok (.invokevirtual 217, 3) := by decide +kernel
theorem dX10_change_9 : decode cX10_change 9 = .ok (.istore_n 1, 1) := by decide +kernel
theorem dX10_change_10 : decode cX10_change 10 = .ok (.iconst (-1), 1) := by decide +kernel
theorem dX10_change_11 : decode cX10_change 11 = .ok (.istore_n 2, 1) := by decide +kernel
theorem dX10_change_12 : decode cX10_change 12 = .ok (.iconst 0, 1) := by decide +kernel
theorem dX10_change_13 : decode cX10_change 13 = .ok (.istore_n 3, 1) := by decide +kernel
theorem dX10_change_14 : decode cX10_change 14 = .ok (.iload_n 3, 1) := by decide +kernel
theorem dX10_change_15 : decode cX10_change 15 = .ok (.aload_n 0, 1) := by decide +kernel
theorem dX10_change_16 : decode cX10_change 16 = .ok (.getfield 19, 3) := by decide +kernel
theorem dX10_change_19 : decode cX10_change 19 = .ok (.getfield 89, 3) := by decide +kernel
theorem dX10_change_22 : decode cX10_change 22 = .ok (.if_icmp .ge 58, 3) := by decide +kernel
theorem dX10_change_25 : decode cX10_change 25 = .ok (.iload_n 3, 1) := by decide +kernel
theorem dX10_change_26 : decode cX10_change 26 = .ok (.iconst 1, 1) := by decide +kernel
theorem dX10_change_27 : decode cX10_change 27 = .ok (.iadd, 1) := by decide +kernel
theorem dX10_change_28 : decode cX10_change 28 = .ok (.istore 4, 2) := by decide +kernel
theorem dX10_change_30 : decode cX10_change 30 = .ok (.iload 4, 2) := by decide +kernel
theorem dX10_change_32 : decode cX10_change 32 = .ok (.aload_n 0, 1) := by decide +kernel
theorem dX10_change_33 : decode cX10_change 33 = .ok (.getfield 19, 3) := by decide +kernel
theorem dX10_change_36 : decode cX10_change 36 = .ok (.getfield 89, 3) := by decide +kernel
theorem dX10_change_39 : decode cX10_change 39 = .ok (.if_icmp .ge 35, 3) := by decide +kernel
theorem dX10_change_42 : decode cX10_change 42 = .ok (.aload_n 0, 1) := by decide +kernel
theorem dX10_change_43 : decode cX10_change 43 = .ok (.iload_n 3, 1) := by decide +kernel
theorem dX10_change_44 : decode cX10_change 44 = .ok (.iload 4, 2) := by decide +kernel
theorem dX10_change_46 : decode cX10_change 46 = .ok (.invokevirtual 220, 3) := by decide +kernel
theorem dX10_change_49 : decode cX10_change 49 = .ok (.istore 5, 2) := by decide +kernel
theorem dX10_change_51 : decode cX10_change 51 = .ok (.iload 5, 2) := by decide +kernel
theorem dX10_change_53 : decode cX10_change 53 = .ok (.iload_n 1, 1) := by decide +kernel
theorem dX10_change_54 : decode cX10_change 54 = .ok (.if_icmp .le 14, 3) := by decide +kernel
theorem dX10_change_57 : decode cX10_change 57 = .ok (.iload 5, 2) := by decide +kernel
theorem dX10_change_59 : decode cX10_change 59 = .ok (.istore_n 1, 1) := by decide +kernel
theorem dX10_change_60 : decode cX10_change 60 = .ok (.bipush 10, 2) := by decide +kernel
theorem dX10_change_62 : decode cX10_change 62 = .ok (.iload_n 3, 1) := by decide +kernel
theorem dX10_change_63 : decode cX10_change 63 = .ok (.imul, 1) := by decide +kernel
theorem dX10_change_64 : decode cX10_change 64 = .ok (.iload 4, 2) := by decide +kernel
theorem dX10_change_66 : decode cX10_change 66 = .ok (.iadd, 1) := by decide +kernel
theorem dX10_change_67 : decode cX10_change 67 = .ok (.istore_n 2, 1) := by decide +kernel
theorem dX10_change_68 : decode cX10_change 68 = .ok (.iinc 4 1, 3) := by decide +kernel
theorem dX10_change_71 : decode cX10_change 71 = .ok (.goto (-41), 3) := by decide +kernel
theorem dX10_change_74 : decode cX10_change 74 = .ok (.iinc 3 1, 3) := by decide +kernel
theorem dX10_change_77 : decode cX10_change 77 = .ok (.goto (-63), 3) := by decide +kernel
theorem dX10_change_80 : decode cX10_change 80 = .ok (.iload_n 2, 1) := by decide +kernel
theorem dX10_change_81 : decode cX10_change 81 = .ok (.ireturn, 1) := by decide +kernel
theorem dX10_coffeeAt_0 : decode cX10_coffeeAt 0 = .ok (.iload_n 1, 1) := by decide +kernel
theorem dX10_coffeeAt_1 : decode cX10_coffeeAt 1 = .ok (.iconst 0, 1) := by decide +kernel
theorem dX10_coffeeAt_2 : decode cX10_coffeeAt 2 = .ok (.iconst 1, 1) := by decide +kernel
theorem dX10_coffeeAt_3 : decode cX10_coffeeAt 3 = .ok (.invokestatic 78, 3) := by decide +kernel
theorem dX10_coffeeAt_6 : decode cX10_coffeeAt 6 = .ok (.ifCond .ne 6, 3) := by decide +kernel
theorem dX10_coffeeAt_9 : decode cX10_coffeeAt 9 = .ok (.bipush (-3), 2) := by decide +kernel
theorem dX10_coffeeAt_11 : decode cX10_coffeeAt 11 = .ok (.ireturn, 1) := by decide +kernel
theorem dX10_coffeeAt_12 : decode cX10_coffeeAt 12 = .ok (.aload_n 0, 1) := by decide +kernel
theorem dX10_coffeeAt_13 : decode cX10_coffeeAt 13 = .ok (.invokevirtual 214, 3) := by decide +kernel
theorem dX10_coffeeAt_16 : decode cX10_coffeeAt 16 = .ok (.iconst (-1), 1) := by decide +kernel
theorem dX10_coffeeAt_17 : decode cX10_coffeeAt 17 = .ok (.istore_n 2, 1) := by decide +kernel
theorem dX10_coffeeAt_18 : decode cX10_coffeeAt 18 = .ok (.iconst (-1), 1) := by decide +kernel
theorem dX10_coffeeAt_19 : decode cX10_coffeeAt 19 = .ok (.istore_n 3, 1) := by decide +kernel
theorem dX10_coffeeAt_20 : decode cX10_coffeeAt 20 = .ok (.iconst 0, 1) := by decide +kernel
theorem dX10_coffeeAt_21 : decode cX10_coffeeAt 21 = .ok (.istore 4, 2) := by decide +kernel
theorem dX10_coffeeAt_23 : decode cX10_coffeeAt 23 = .ok (.iload 4, 2) := by decide +kernel
theorem dX10_coffeeAt_25 : decode cX10_coffeeAt 25 = .ok (.aload_n 0, 1) := by decide +kernel
theorem dX10_coffeeAt_26 : decode cX10_coffeeAt 26 = .ok (.getfield 19, 3) := by decide +kernel
theorem dX10_coffeeAt_29 : decode cX10_coffeeAt 29 = .ok (.getfield 89, 3) := by decide +kernel
theorem dX10_coffeeAt_32 : decode cX10_coffeeAt 32 = .ok (.if_icmp .ge 29, 3) := by decide +kernel
theorem dX10_coffeeAt_35 : decode cX10_coffeeAt 35 = .ok (.aload_n 0, 1) := by decide +kernel
theorem dX10_coffeeAt_36 : decode cX10_coffeeAt 36 = .ok (.iload 4, 2) := by decide +kernel
theorem dX10_coffeeAt_38 : decode cX10_coffeeAt 38 = .ok (.invokevirtual 217, 3) := by decide +kernel
theorem dX10_coffeeAt_41 : decode cX10_coffeeAt 41 = .ok (.istore 5, 2) := by decide +kernel
theorem dX10_coffeeAt_43 : decode cX10_coffeeAt 43 = .ok (.iload 5, 2) := by decide +kernel
theorem dX10_coffeeAt_45 : decode cX10_coffeeAt 45 = .ok (.iload_n 3, 1) := by decide +kernel
theorem dX10_coffeeAt_46 : decode cX10_coffeeAt 46 = .ok (.if_icmp .le 9, 3) := by decide +kernel
theorem dX10_coffeeAt_49 : decode cX10_coffeeAt 49 = .ok (.iload 5, 2) := by decide +kernel
theorem dX10_coffeeAt_51 : decode cX10_coffeeAt 51 = .ok (.istore_n 3, 1) := by decide +kernel
theorem dX10_coffeeAt_52 : decode cX10_coffeeAt 52 = .ok (.iload 4, 2) := by decide +kernel
theorem dX10_coffeeAt_54 : decode cX10_coffeeAt 54 = .ok (.istore_n 2, 1) := by decide +kernel
theorem dX10_coffeeAt_55 : decode cX10_coffeeAt 55 = .ok (.iinc 4 1, 3) := by decide +kernel
theorem dX10_coffeeAt_58 : decode cX10_coffeeAt 58 = .ok (.goto (-35), 3) := by decide +kernel
theorem dX10_coffeeAt_61 : decode cX10_coffeeAt 61 = .ok (.iload_n 1, 1) := by decide +kernel
theorem dX10_coffeeAt_62 : decode cX10_coffeeAt 62 = .ok (.ifCond .ne 7, 3) := by decide +kernel
theorem dX10_coffeeAt_65 : decode cX10_coffeeAt 65 = .ok (.iload_n 2, 1) := by decide +kernel
theorem dX10_coffeeAt_66 : decode cX10_coffeeAt 66 = .ok (.goto 4, 3) := by decide +kernel
theorem dX10_coffeeAt_69 : decode cX10_coffeeAt 69 = .ok (.iload_n 3, 1) := by decide +kernel
theorem dX10_coffeeAt_70 : decode cX10_coffeeAt 70 = .ok (.ireturn, 1) := by decide +kernel
theorem dX10_byLot_0 : decode cX10_byLot 0 = .ok (.aload_n 0, 1) := by decide +kernel
theorem dX10_byLot_1 : decode cX10_byLot 1 = .ok (.getfield 19, 3) := by decide +kernel
theorem dX10_byLot_4 : decode cX10_byLot 4 = .ok (.iload_n 1, 1) := by decide +kernel
theorem dX10_byLot_5 : decode cX10_byLot 5 = .ok (.invokevirtual 133, 3) := by decide +kernel
theorem dX10_byLot_8 : decode cX10_byLot 8 = .ok (.ifnonnull 6, 3) := by decide +kernel
theorem dX10_byLot_11 : decode cX10_byLot 11 = .ok (.bipush (-2), 2) := by decide +kernel
theorem dX10_byLot_13 : decode cX10_byLot 13 = .ok (.ireturn, 1) := by decide +kernel
theorem dX10_byLot_14 : decode cX10_byLot 14 = .ok (.iload_n 2, 1) := by decide +kernel
theorem dX10_byLot_15 : decode cX10_byLot 15 = .ok (.iconst 0, 1) := by decide +kernel
theorem dX10_byLot_16 : decode cX10_byLot 16 = .ok (.bipush 30, 2) := by decide +kernel
theorem dX10_byLot_18 : decode cX10_byLot 18 = .ok (.invokestatic 78, 3) := by decide +kernel
theorem dX10_byLot_21 : decode cX10_byLot 21 = .ok (.ifCond .eq 12, 3) := by decide +kernel
theorem dX10_byLot_24 : decode cX10_byLot 24 = .ok (.iload_n 3, 1) := by decide +kernel
theorem dX10_byLot_25 : decode cX10_byLot 25 = .ok (.iconst 0, 1) := by decide +kernel
theorem dX10_byLot_26 : decode cX10_byLot 26 = .ok (.iconst 1, 1) := by decide +kernel
theorem dX10_byLot_27 : decode cX10_byLot 27 = .ok (.invokestatic 78, 3) := by decide +kernel
theorem dX10_byLot_30 : decode cX10_byLot 30 = .ok (.ifCond .ne 6, 3) := by decide +kernel
theorem dX10_byLot_33 : decode cX10_byLot 33 = .ok (.bipush (-3), 2) := by decide +kernel
theorem dX10_byLot_35 : decode cX10_byLot 35 = .ok (.ireturn, 1) := by decide +kernel
theorem dX10_byLot_36 : decode cX10_byLot 36 = .ok (.iconst 0, 1) := by decide +kernel
theorem dX10_byLot_37 : decode cX10_byLot 37 = .ok (.istore 4, 2) := by decide +kernel
theorem dX10_byLot_39 : decode cX10_byLot 39 = .ok (.iconst 0, 1) := by decide +kernel
theorem dX10_byLot_40 : decode cX10_byLot 40 = .ok (.istore 5, 2) := by decide +kernel
theorem dX10_byLot_42 : decode cX10_byLot 42 = .ok (.aload_n 0, 1) := by decide +kernel
theorem dX10_byLot_43 : decode cX10_byLot 43 = .ok (.getfield 54, 3) := by decide +kernel
theorem dX10_byLot_46 : decode cX10_byLot 46 = .ok (.aload_n 0, 1) := by decide +kernel
theorem dX10_byLot_47 : decode cX10_byLot 47 = .ok (.getfield 19, 3) := by decide +kernel
theorem dX10_byLot_50 : decode cX10_byLot 50 = .ok (.aload_n 0, 1) := by decide +kernel
theorem dX10_byLot_51 : decode cX10_byLot 51 = .ok (.getfield 26, 3) := by decide +kernel
theorem dX10_byLot_54 : decode cX10_byLot 54 = .ok (.aload_n 0, 1) := by decide +kernel
theorem dX10_byLot_55 : decode cX10_byLot 55 = .ok (.invokevirtual 223, 3) := by decide +kernel
theorem dX10_byLot_58 : decode cX10_byLot 58 = .ok (.invokevirtual 226, 3) := by decide +kernel
theorem dX10_byLot_61 : decode cX10_byLot 61 = .ok (.istore 6, 2) := by decide +kernel
theorem dX10_byLot_63 : decode cX10_byLot 63 = .ok (.iload 6, 2) := by decide +kernel
theorem dX10_byLot_65 : decode cX10_byLot 65 = .ok (.ifCond .eq 45, 3) := by decide +kernel
theorem dX10_byLot_68 : decode cX10_byLot 68 = .ok (.iload 5, 2) := by decide +kernel
theorem dX10_byLot_70 : decode cX10_byLot 70 = .ok (.sipush 720, 3) := by decide +kernel
theorem dX10_byLot_73 : decode cX10_byLot 73 = .ok (.if_icmp .ge 37, 3) := by decide +kernel
theorem dX10_byLot_76 : decode cX10_byLot 76 = .ok (.aload_n 0, 1) := by decide +kernel
theorem dX10_byLot_77 : decode cX10_byLot 77 = .ok (.getfield 54, 3) := by decide +kernel
theorem dX10_byLot_80 : decode cX10_byLot 80 = .ok (.iload_n 1, 1) := by decide +kernel
theorem dX10_byLot_81 : decode cX10_byLot 81 = .ok (.invokevirtual 230, 3) := by decide +kernel
theorem dX10_byLot_84 : decode cX10_byLot 84 = .ok (.iload_n 2, 1) := by decide +kernel
theorem dX10_byLot_85 : decode cX10_byLot 85 = .ok (.if_icmp .lt 6, 3) := by decide +kernel
theorem dX10_byLot_88 : decode cX10_byLot 88 = .ok (.iinc 4 1, 3) := by decide +kernel
theorem dX10_byLot_91 : decode cX10_byLot 91 = .ok (.iinc 5 1, 3) := by decide +kernel
theorem dX10_byLot_94 : decode cX10_byLot 94 = .ok (.aload_n 0, 1) := by decide +kernel
theorem dX10_byLot_95 : decode cX10_byLot 95 = .ok (.getfield 54, 3) := by decide +kernel
theorem dX10_byLot_98 : decode cX10_byLot 98 = .ok (.aload_n 0, 1) := by decide +kernel
theorem dX10_byLot_99 : decode cX10_byLot 99 = .ok (.getfield 19, 3) := by decide +kernel
theorem dX10_byLot_102 : decode cX10_byLot 102 = .ok (.invokevirtual 233, 3) := by decide +kernel
theorem dX10_byLot_105 : decode cX10_byLot 105 = .ok (.istore 6, 2) := by decide +kernel
theorem dX10_byLot_107 : decode cX10_byLot 107 = .ok (.goto (-44), 3) := by decide +kernel
theorem dX10_byLot_110 : decode cX10_byLot 110 = .ok (.iload 5, 2) := by decide +kernel
theorem dX10_byLot_112 : decode cX10_byLot 112 = .ok (.iload 4, 2) := by decide +kernel
theorem dX10_byLot_114 : decode cX10_byLot 114 = .ok (.invokestatic 237, 3) := by decide +kernel
theorem dX10_byLot_117 : decode cX10_byLot 117 = .ok (.istore 7, 2) := by decide +kernel
theorem dX10_byLot_119 : decode cX10_byLot 119 = .ok (.iload 7, 2) := by decide +kernel
theorem dX10_byLot_121 : decode cX10_byLot 121 = .ok (.ifCond .ne 7, 3) := by decide +kernel
theorem dX10_byLot_124 : decode cX10_byLot 124 = .ok (.iconst 0, 1) := by decide +kernel
theorem dX10_byLot_125 : decode cX10_byLot 125 = .ok (.goto 17, 3) := by decide +kernel
theorem dX10_byLot_128 : decode cX10_byLot 128 = .ok (.iload_n 3, 1) := by decide +kernel
theorem dX10_byLot_129 : decode cX10_byLot 129 = .ok (.ifCond .ne 8, 3) := by decide +kernel
theorem dX10_byLot_132 : decode cX10_byLot 132 = .ok (.iload 4, 2) := by decide +kernel
theorem dX10_byLot_134 : decode cX10_byLot 134 = .ok (.goto 5, 3) := by decide +kernel
theorem dX10_byLot_137 : decode cX10_byLot 137 = .ok (.iload 5, 2) := by decide +kernel
theorem dX10_byLot_139 : decode cX10_byLot 139 = .ok (.iload 7, 2) := by decide +kernel
theorem dX10_byLot_141 : decode cX10_byLot 141 = .ok (.idiv, 1) := by decide +kernel
theorem dX10_byLot_142 : decode cX10_byLot 142 = .ok (.ireturn, 1) := by decide +kernel
theorem dX10_orders_0 : decode cX10_orders 0 = .ok (.aload_n 0, 1) := by decide +kernel
theorem dX10_orders_1 : decode cX10_orders 1 = .ok (.iload_n 1, 1) := by decide +kernel
theorem dX10_orders_2 : decode cX10_orders 2 = .ok (.invokevirtual 199, 3) := by decide +kernel
theorem dX10_orders_5 : decode cX10_orders 5 = .ok (.ifCond .ne 6, 3) := by decide +kernel
theorem dX10_orders_8 : decode cX10_orders 8 = .ok (.bipush (-2), 2) := by decide +kernel
theorem dX10_orders_10 : decode cX10_orders 10 = .ok (.ireturn, 1) := by decide +kernel
theorem dX10_orders_11 : decode cX10_orders 11 = .ok (.iload_n 2, 1) := by decide +kernel
theorem dX10_orders_12 : decode cX10_orders 12 = .ok (.iconst (-1), 1) := by decide +kernel
theorem dX10_orders_13 : decode cX10_orders 13 = .ok (.iconst 5, 1) := by decide +kernel
theorem dX10_orders_14 : decode cX10_orders 14 = .ok (.invokestatic 78, 3) := by decide +kernel
theorem dX10_orders_17 : decode cX10_orders 17 = .ok (.ifCond .ne 6, 3) := by decide +kernel
theorem dX10_orders_20 : decode cX10_orders 20 = .ok (.bipush (-3), 2) := by decide +kernel
theorem dX10_orders_22 : decode cX10_orders 22 = .ok (.ireturn, 1) := by decide +kernel
theorem dX10_orders_23 : decode cX10_orders 23 = .ok (.aload_n 0, 1) := by decide +kernel
theorem dX10_orders_24 : decode cX10_orders 24 = .ok (.getfield 48, 3) := by decide +kernel
theorem dX10_orders_27 : decode cX10_orders 27 = .ok (.aload_n 0, 1) := by decide +kernel
theorem dX10_orders_28 : decode cX10_orders 28 = .ok (.getfield 26, 3) := by decide +kernel
theorem dX10_orders_31 : decode cX10_orders 31 = .ok (.invokevirtual 195, 3) := by decide +kernel
theorem dX10_orders_34 : decode cX10_orders 34 = .ok (.aload_n 0, 1) := by decide +kernel
theorem dX10_orders_35 : decode cX10_orders 35 = .ok (.getfield 48, 3) := by decide +kernel
theorem dX10_orders_38 : decode cX10_orders 38 = .ok (.aload_n 0, 1) := by decide +kernel
theorem dX10_orders_39 : decode cX10_orders 39 = .ok (.getfield 19, 3) := by decide +kernel
theorem dX10_orders_42 : decode cX10_orders 42 = .ok (.invokevirtual 110, 3) := by decide +kernel
theorem dX10_orders_45 : decode cX10_orders 45 = .ok (.iconst 0, 1) := by decide +kernel
theorem dX10_orders_46 : decode cX10_orders 46 = .ok (.istore_n 3, 1) := by decide +kernel
theorem dX10_orders_47 : decode cX10_orders 47 = .ok (.iconst (-1), 1) := by decide +kernel
theorem dX10_orders_48 : decode cX10_orders 48 = .ok (.istore 4, 2) := by decide +kernel
theorem dX10_orders_50 : decode cX10_orders 50 = .ok (.aload_n 0, 1) := by decide +kernel
theorem dX10_orders_51 : decode cX10_orders 51 = .ok (.getfield 54, 3) := by decide +kernel
theorem dX10_orders_54 : decode cX10_orders 54 = .ok (.aload_n 0, 1) := by decide +kernel
theorem dX10_orders_55 : decode cX10_orders 55 = .ok (.getfield 19, 3) := by decide +kernel
theorem dX10_orders_58 : decode cX10_orders 58 = .ok (.aload_n 0, 1) := by decide +kernel
theorem dX10_orders_59 : decode cX10_orders 59 = .ok (.getfield 48, 3) := by decide +kernel
theorem dX10_orders_62 : decode cX10_orders 62 = .ok (.aload_n 0, 1) := by decide +kernel
theorem dX10_orders_63 : decode cX10_orders 63 = .ok (.invokevirtual 223, 3) := by decide +kernel
theorem dX10_orders_66 : decode cX10_orders 66 = .ok (.invokevirtual 226, 3) := by decide +kernel
theorem dX10_orders_69 : decode cX10_orders 69 = .ok (.istore 5, 2) := by decide +kernel
theorem dX10_orders_71 : decode cX10_orders 71 = .ok (.iconst 0, 1) := by decide +kernel
theorem dX10_orders_72 : decode cX10_orders 72 = .ok (.istore 6, 2) := by decide +kernel
theorem dX10_orders_74 : decode cX10_orders 74 = .ok (.iload 5, 2) := by decide +kernel
theorem dX10_orders_76 : decode cX10_orders 76 = .ok (.ifCond .eq 61, 3) := by decide +kernel
theorem dX10_orders_79 : decode cX10_orders 79 = .ok (.iload 6, 2) := by decide +kernel
theorem dX10_orders_81 : decode cX10_orders 81 = .ok (.sipush 720, 3) := by decide +kernel
theorem dX10_orders_84 : decode cX10_orders 84 = .ok (.if_icmp .ge 53, 3) := by decide +kernel
theorem dX10_orders_87 : decode cX10_orders 87 = .ok (.aload_n 0, 1) := by decide +kernel
theorem dX10_orders_88 : decode cX10_orders 88 = .ok (.getfield 54, 3) := by decide +kernel
theorem dX10_orders_91 : decode cX10_orders 91 = .ok (.invokevirtual 240, 3) := by decide +kernel
theorem dX10_orders_94 : decode cX10_orders 94 = .ok (.getfield 156, 3) := by decide +kernel
theorem dX10_orders_97 : decode cX10_orders 97 = .ok (.iload_n 1, 1) := by decide +kernel
theorem dX10_orders_98 : decode cX10_orders 98 = .ok (.if_icmp .ne 20, 3) := by decide +kernel
theorem dX10_orders_101 : decode cX10_orders 101 = .ok (.iload_n 3, 1) := by decide +kernel
theorem dX10_orders_102 : decode cX10_orders 102 = .ok (.ifCond .ne 13, 3) := by decide +kernel
theorem dX10_orders_105 : decode cX10_orders 105 = .ok (.aload_n 0, 1) := by decide +kernel
theorem dX10_orders_106 : decode cX10_orders 106 = .ok (.getfield 54, 3) := by decide +kernel
theorem dX10_orders_109 : decode cX10_orders 109 = .ok (.iload_n 2, 1) := by decide +kernel
theorem dX10_orders_110 : decode cX10_orders 110 = .ok (.invokevirtual 244, 3) := by decide +kernel
theorem dX10_orders_113 : decode cX10_orders 113 = .ok (.istore 4, 2) := by decide +kernel
theorem dX10_orders_115 : decode cX10_orders 115 = .ok (.iinc 3 1, 3) := by decide +kernel
theorem dX10_orders_118 : decode cX10_orders 118 = .ok (.aload_n 0, 1) := by decide +kernel
theorem dX10_orders_119 : decode cX10_orders 119 = .ok (.getfield 54, 3) := by decide +kernel
theorem dX10_orders_122 : decode cX10_orders 122 = .ok (.aload_n 0, 1) := by decide +kernel
theorem dX10_orders_123 : decode cX10_orders 123 = .ok (.getfield 19, 3) := by decide +kernel
theorem dX10_orders_126 : decode cX10_orders 126 = .ok (.invokevirtual 233, 3) := by decide +kernel
theorem dX10_orders_129 : decode cX10_orders 129 = .ok (.istore 5, 2) := by decide +kernel
theorem dX10_orders_131 : decode cX10_orders 131 = .ok (.iinc 6 1, 3) := by decide +kernel
theorem dX10_orders_134 : decode cX10_orders 134 = .ok (.goto (-60), 3) := by decide +kernel
theorem dX10_orders_137 : decode cX10_orders 137 = .ok (.iload_n 2, 1) := by decide +kernel
theorem dX10_orders_138 : decode cX10_orders 138 = .ok (.iconst (-1), 1) := by decide +kernel
theorem dX10_orders_139 : decode cX10_orders 139 = .ok (.if_icmp .ne 7, 3) := by decide +kernel
theorem dX10_orders_142 : decode cX10_orders 142 = .ok (.iload_n 3, 1) := by decide +kernel
theorem dX10_orders_143 : decode cX10_orders 143 = .ok (.goto 5, 3) := by decide +kernel
theorem dX10_orders_146 : decode cX10_orders 146 = .ok (.iload 4, 2) := by decide +kernel
theorem dX10_orders_148 : decode cX10_orders 148 = .ok (.ireturn, 1) := by decide +kernel
theorem dX10_tells_0 : decode cX10_tells 0 = .ok (.aload_n 0, 1) := by decide +kernel
theorem dX10_tells_1 : decode cX10_tells 1 = .ok (.getfield 19, 3) := by decide +kernel
theorem dX10_tells_4 : decode cX10_tells 4 = .ok (.iload_n 1, 1) := by decide +kernel
theorem dX10_tells_5 : decode cX10_tells 5 = .ok (.invokevirtual 133, 3) := by decide +kernel
theorem dX10_tells_8 : decode cX10_tells 8 = .ok (.ifnonnull 6, 3) := by decide +kernel
theorem dX10_tells_11 : decode cX10_tells 11 = .ok (.bipush (-2), 2) := by decide +kernel
theorem dX10_tells_13 : decode cX10_tells 13 = .ok (.ireturn, 1) := by decide +kernel
theorem dX10_tells_14 : decode cX10_tells 14 = .ok (.iload_n 2, 1) := by decide +kernel
theorem dX10_tells_15 : decode cX10_tells 15 = .ok (.iconst 0, 1) := by decide +kernel
theorem dX10_tells_16 : decode cX10_tells 16 = .ok (.bipush 9, 2) := by decide +kernel
theorem dX10_tells_18 : decode cX10_tells 18 = .ok (.invokestatic 78, 3) := by decide +kernel
theorem dX10_tells_21 : decode cX10_tells 21 = .ok (.ifCond .eq 13, 3) := by decide +kernel
theorem dX10_tells_24 : decode cX10_tells 24 = .ok (.iload_n 3, 1) := by decide +kernel
theorem dX10_tells_25 : decode cX10_tells 25 = .ok (.iconst 0, 1) := by decide +kernel
theorem dX10_tells_26 : decode cX10_tells 26 = .ok (.bipush 30, 2) := by decide +kernel
theorem dX10_tells_28 : decode cX10_tells 28 = .ok (.invokestatic 78, 3) := by decide +kernel
theorem dX10_tells_31 : decode cX10_tells 31 = .ok (.ifCond .ne 6, 3) := by decide +kernel
theorem dX10_tells_34 : decode cX10_tells 34 = .ok (.bipush (-3), 2) := by decide +kernel
theorem dX10_tells_36 : decode cX10_tells 36 = .ok (.ireturn, 1) := by decide +kernel
theorem dX10_tells_37 : decode cX10_tells 37 = .ok (.aload_n 0, 1) := by decide +kernel
theorem dX10_tells_38 : decode cX10_tells 38 = .ok (.getfield 33, 3) := by decide +kernel
theorem dX10_tells_41 : decode cX10_tells 41 = .ok (.iload_n 1, 1) := by decide +kernel
theorem dX10_tells_42 : decode cX10_tells 42 = .ok (.iload_n 2, 1) := by decide +kernel
theorem dX10_tells_43 : decode cX10_tells 43 = .ok (.iload_n 3, 1) := by decide +kernel
theorem dX10_tells_44 : decode cX10_tells 44 = .ok (.invokevirtual 247, 3) := by decide +kernel
theorem dX10_tells_47 : decode cX10_tells 47 = .ok (.ifCond .eq 13, 3) := by decide +kernel
theorem dX10_tells_50 : decode cX10_tells 50 = .ok (.aload_n 0, 1) := by decide +kernel
theorem dX10_tells_51 : decode cX10_tells 51 = .ok (.getfield 33, 3) := by decide +kernel
theorem dX10_tells_54 : decode cX10_tells 54 = .ok (.getfield 118, 3) := by decide +kernel
theorem dX10_tells_57 : decode cX10_tells 57 = .ok (.goto 5, 3) := by decide +kernel
theorem dX10_tells_60 : decode cX10_tells 60 = .ok (.bipush (-5), 2) := by decide +kernel
theorem dX10_tells_62 : decode cX10_tells 62 = .ok (.ireturn, 1) := by decide +kernel
theorem dX10_forget_0 : decode cX10_forget 0 = .ok (.aload_n 0, 1) := by decide +kernel
theorem dX10_forget_1 : decode cX10_forget 1 = .ok (.getfield 33, 3) := by decide +kernel
theorem dX10_forget_4 : decode cX10_forget 4 = .ok (.getfield 118, 3) := by decide +kernel
theorem dX10_forget_7 : decode cX10_forget 7 = .ok (.istore_n 1, 1) := by decide +kernel
theorem dX10_forget_8 : decode cX10_forget 8 = .ok (.aload_n 0, 1) := by decide +kernel
theorem dX10_forget_9 : decode cX10_forget 9 = .ok (.getfield 33, 3) := by decide +kernel
theorem dX10_forget_12 : decode cX10_forget 12 = .ok (.iconst 0, 1) := by decide +kernel
theorem dX10_forget_13 : decode cX10_forget 13 = .ok (.putfield 118, 3) := by decide +kernel
theorem dX10_forget_16 : decode cX10_forget 16 = .ok (.iload_n 1, 1) := by decide +kernel
theorem dX10_forget_17 : decode cX10_forget 17 = .ok (.ireturn, 1) := by decide +kernel
theorem dX10_smallest_0 : decode cX10_smallest 0 = .ok (.iload_n 1, 1) := by decide +kernel
theorem dX10_smallest_1 : decode cX10_smallest 1 = .ok (.iconst 0, 1) := by decide +kernel
theorem dX10_smallest_2 : decode cX10_smallest 2 = .ok (.iconst 3, 1) := by decide +kernel
theorem dX10_smallest_3 : decode cX10_smallest 3 = .ok (.invokestatic 78, 3) := by decide +kernel
theorem dX10_smallest_6 : decode cX10_smallest 6 = .ok (.ifCond .ne 6, 3) := by decide +kernel
theorem dX10_smallest_9 : decode cX10_smallest 9 = .ok (.bipush (-2), 2) := by decide +kernel
theorem dX10_smallest_11 : decode cX10_smallest 11 = .ok (.ireturn, 1) := by decide +kernel
theorem dX10_smallest_12 : decode cX10_smallest 12 = .ok (.iconst 0, 1) := by decide +kernel
theorem dX10_smallest_13 : decode cX10_smallest 13 = .ok (.istore_n 2, 1) := by decide +kernel
theorem dX10_smallest_14 : decode cX10_smallest 14 = .ok (.iload_n 2, 1) := by decide +kernel
theorem dX10_smallest_15 : decode cX10_smallest 15 = .ok (.bipush 9, 2) := by decide +kernel
theorem dX10_smallest_17 : decode cX10_smallest 17 = .ok (.if_icmp .gt 27, 3) := by decide +kernel
theorem dX10_smallest_20 : decode cX10_smallest 20 = .ok (.aload_n 0, 1) := by decide +kernel
theorem dX10_smallest_21 : decode cX10_smallest 21 = .ok (.getfield 33, 3) := by decide +kernel
theorem dX10_smallest_24 : decode cX10_smallest 24 = .ok (.aload_n 0, 1) := by decide +kernel
theorem dX10_smallest_25 : decode cX10_smallest 25 = .ok (.getfield 19, 3) := by decide +kernel
theorem dX10_smallest_28 : decode cX10_smallest 28 = .ok (.iload_n 1, 1) := by decide +kernel
theorem dX10_smallest_29 : decode cX10_smallest 29 = .ok (.iload_n 2, 1) := by decide +kernel
theorem dX10_smallest_30 : decode cX10_smallest 30 = .ok (.invokevirtual 249, 3) := by decide +kernel
theorem dX10_smallest_33 : decode cX10_smallest 33 = .ok (.ifCond .eq 5, 3) := by decide +kernel
theorem dX10_smallest_36 : decode cX10_smallest 36 = .ok (.iload_n 2, 1) := by decide +kernel
theorem dX10_smallest_37 : decode cX10_smallest 37 = .ok (.ireturn, 1) := by decide +kernel
theorem dX10_smallest_38 : decode cX10_smallest 38 = .ok (.iinc 2 1, 3) := by decide +kernel
theorem dX10_smallest_41 : decode cX10_smallest 41 = .ok (.goto (-27), 3) := by decide +kernel
theorem dX10_smallest_44 : decode cX10_smallest 44 = .ok (.iconst (-1), 1) := by decide +kernel
theorem dX10_smallest_45 : decode cX10_smallest 45 = .ok (.ireturn, 1) := by decide +kernel
theorem dX10_count_0 : decode cX10_count 0 = .ok (.iload_n 1, 1) := by decide +kernel
theorem dX10_count_1 : decode cX10_count 1 = .ok (.tableswitch 144 0 10 #[59, 67, 75, 83, 91, 99, 107, 115, 123, 131, 136], 59) := by decide +kernel
theorem dX10_count_60 : decode cX10_count 60 = .ok (.aload_n 0, 1) := by decide +kernel
theorem dX10_count_61 : decode cX10_count 61 = .ok (.getfield 19, 3) := by decide +kernel
theorem dX10_count_64 : decode cX10_count 64 = .ok (.getfield 89, 3) := by decide +kernel
theorem dX10_count_67 : decode cX10_count 67 = .ok (.ireturn, 1) := by decide +kernel
theorem dX10_count_68 : decode cX10_count 68 = .ok (.aload_n 0, 1) := by decide +kernel
theorem dX10_count_69 : decode cX10_count 69 = .ok (.getfield 19, 3) := by decide +kernel
theorem dX10_count_72 : decode cX10_count 72 = .ok (.getfield 253, 3) := by decide +kernel
theorem dX10_count_75 : decode cX10_count 75 = .ok (.ireturn, 1) := by decide +kernel
theorem dX10_count_76 : decode cX10_count 76 = .ok (.aload_n 0, 1) := by decide +kernel
theorem dX10_count_77 : decode cX10_count 77 = .ok (.getfield 26, 3) := by decide +kernel
theorem dX10_count_80 : decode cX10_count 80 = .ok (.getfield 74, 3) := by decide +kernel
theorem dX10_count_83 : decode cX10_count 83 = .ok (.ireturn, 1) := by decide +kernel
theorem dX10_count_84 : decode cX10_count 84 = .ok (.aload_n 0, 1) := by decide +kernel
theorem dX10_count_85 : decode cX10_count 85 = .ok (.getfield 26, 3) := by decide +kernel
theorem dX10_count_88 : decode cX10_count 88 = .ok (.getfield 189, 3) := by decide +kernel
theorem dX10_count_91 : decode cX10_count 91 = .ok (.ireturn, 1) := by decide +kernel
theorem dX10_count_92 : decode cX10_count 92 = .ok (.aload_n 0, 1) := by decide +kernel
theorem dX10_count_93 : decode cX10_count 93 = .ok (.getfield 26, 3) := by decide +kernel
theorem dX10_count_96 : decode cX10_count 96 = .ok (.getfield 176, 3) := by decide +kernel
theorem dX10_count_99 : decode cX10_count 99 = .ok (.ireturn, 1) := by decide +kernel
theorem dX10_count_100 : decode cX10_count 100 = .ok (.aload_n 0, 1) := by decide +kernel
theorem dX10_count_101 : decode cX10_count 101 = .ok (.getfield 26, 3) := by decide +kernel
theorem dX10_count_104 : decode cX10_count 104 = .ok (.getfield 156, 3) := by decide +kernel
theorem dX10_count_107 : decode cX10_count 107 = .ok (.ireturn, 1) := by decide +kernel
theorem dX10_count_108 : decode cX10_count 108 = .ok (.aload_n 0, 1) := by decide +kernel
theorem dX10_count_109 : decode cX10_count 109 = .ok (.getfield 26, 3) := by decide +kernel
theorem dX10_count_112 : decode cX10_count 112 = .ok (.getfield 159, 3) := by decide +kernel
theorem dX10_count_115 : decode cX10_count 115 = .ok (.ireturn, 1) := by decide +kernel
theorem dX10_count_116 : decode cX10_count 116 = .ok (.aload_n 0, 1) := by decide +kernel
theorem dX10_count_117 : decode cX10_count 117 = .ok (.getfield 26, 3) := by decide +kernel
theorem dX10_count_120 : decode cX10_count 120 = .ok (.getfield 256, 3) := by decide +kernel
theorem dX10_count_123 : decode cX10_count 123 = .ok (.ireturn, 1) := by decide +kernel
theorem dX10_count_124 : decode cX10_count 124 = .ok (.aload_n 0, 1) := by decide +kernel
theorem dX10_count_125 : decode cX10_count 125 = .ok (.getfield 33, 3) := by decide +kernel
theorem dX10_count_128 : decode cX10_count 128 = .ok (.getfield 118, 3) := by decide +kernel
theorem dX10_count_131 : decode cX10_count 131 = .ok (.ireturn, 1) := by decide +kernel
theorem dX10_count_132 : decode cX10_count 132 = .ok (.aload_n 0, 1) := by decide +kernel
theorem dX10_count_133 : decode cX10_count 133 = .ok (.getfield 121, 3) := by decide +kernel
theorem dX10_count_136 : decode cX10_count 136 = .ok (.ireturn, 1) := by decide +kernel
theorem dX10_count_137 : decode cX10_count 137 = .ok (.aload_n 0, 1) := by decide +kernel
theorem dX10_count_138 : decode cX10_count 138 = .ok (.getfield 10, 3) := by decide +kernel
theorem dX10_count_141 : decode cX10_count 141 = .ok (.getfield 86, 3) := by decide +kernel
theorem dX10_count_144 : decode cX10_count 144 = .ok (.ireturn, 1) := by decide +kernel
theorem dX10_count_145 : decode cX10_count 145 = .ok (.bipush (-3), 2) := by decide +kernel
theorem dX10_count_147 : decode cX10_count 147 = .ok (.ireturn, 1) := by decide +kernel
theorem dX10_isWithin_0 : decode cX10_isWithin 0 = .ok (.iload_n 1, 1) := by decide +kernel
theorem dX10_isWithin_1 : decode cX10_isWithin 1 = .ok (.iload_n 0, 1) := by decide +kernel
theorem dX10_isWithin_2 : decode cX10_isWithin 2 = .ok (.if_icmp .gt 12, 3) := by decide +kernel
theorem dX10_isWithin_5 : decode cX10_isWithin 5 = .ok (.iload_n 0, 1) := by decide +kernel
theorem dX10_isWithin_6 : decode cX10_isWithin 6 = .ok (.iload_n 2, 1) := by decide +kernel
theorem dX10_isWithin_7 : decode cX10_isWithin 7 = .ok (.if_icmp .gt 7, 3) := by decide +kernel
theorem dX10_isWithin_10 : decode cX10_isWithin 10 = .ok (.iconst 1, 1) := by decide +kernel
theorem dX10_isWithin_11 : decode cX10_isWithin 11 = .ok (.goto 4, 3) := by decide +kernel
theorem dX10_isWithin_14 : decode cX10_isWithin 14 = .ok (.iconst 0, 1) := by decide +kernel
theorem dX10_isWithin_15 : decode cX10_isWithin 15 = .ok (.ireturn, 1) := by decide +kernel
theorem dX10_held_0 : decode cX10_held 0 = .ok (.iconst 0, 1) := by decide +kernel
theorem dX10_held_1 : decode cX10_held 1 = .ok (.bipush 99, 2) := by decide +kernel
theorem dX10_held_3 : decode cX10_held 3 = .ok (.iload_n 0, 1) := by decide +kernel
theorem dX10_held_4 : decode cX10_held 4 = .ok (.invokestatic 259, 3) := by decide +kernel
theorem dX10_held_7 : decode cX10_held 7 = .ok (.invokestatic 264, 3) := by decide +kernel
theorem dX10_held_10 : decode cX10_held 10 = .ok (.ireturn, 1) := by decide +kernel
theorem dX10_isOfKind_0 : decode cX10_isOfKind 0 = .ok (.iload_n 1, 1) := by decide +kernel
theorem dX10_isOfKind_1 : decode cX10_isOfKind 1 = .ok (.tableswitch 57 0 4 #[35, 37, 42, 47, 52], 35) := by decide +kernel
theorem dX10_isOfKind_36 : decode cX10_isOfKind 36 = .ok (.iconst 1, 1) := by decide +kernel
theorem dX10_isOfKind_37 : decode cX10_isOfKind 37 = .ok (.ireturn, 1) := by decide +kernel
theorem dX10_isOfKind_38 : decode cX10_isOfKind 38 = .ok (.aload_n 0, 1) := by decide +kernel
theorem dX10_isOfKind_39 : decode cX10_isOfKind 39 = .ok (.instanceof 267, 3) := by decide +kernel
theorem dX10_isOfKind_42 : decode cX10_isOfKind 42 = .ok (.ireturn, 1) := by decide +kernel
theorem dX10_isOfKind_43 : decode cX10_isOfKind 43 = .ok (.aload_n 0, 1) := by decide +kernel
theorem dX10_isOfKind_44 : decode cX10_isOfKind 44 = .ok (.instanceof 269, 3) := by decide +kernel
theorem dX10_isOfKind_47 : decode cX10_isOfKind 47 = .ok (.ireturn, 1) := by decide +kernel
theorem dX10_isOfKind_48 : decode cX10_isOfKind 48 = .ok (.aload_n 0, 1) := by decide +kernel
theorem dX10_isOfKind_49 : decode cX10_isOfKind 49 = .ok (.instanceof 62, 3) := by decide +kernel
theorem dX10_isOfKind_52 : decode cX10_isOfKind 52 = .ok (.ireturn, 1) := by decide +kernel
theorem dX10_isOfKind_53 : decode cX10_isOfKind 53 = .ok (.aload_n 0, 1) := by decide +kernel
theorem dX10_isOfKind_54 : decode cX10_isOfKind 54 = .ok (.instanceof 271, 3) := by decide +kernel
theorem dX10_isOfKind_57 : decode cX10_isOfKind 57 = .ok (.ireturn, 1) := by decide +kernel
theorem dX10_isOfKind_58 : decode cX10_isOfKind 58 = .ok (.iconst 0, 1) := by decide +kernel
theorem dX10_isOfKind_59 : decode cX10_isOfKind 59 = .ok (.ireturn, 1) := by decide +kernel
theorem dX10_commonDivisor_0 : decode cX10_commonDivisor 0 = .ok (.iload_n 0, 1) := by decide +kernel
theorem dX10_commonDivisor_1 : decode cX10_commonDivisor 1 = .ok (.istore_n 2, 1) := by decide +kernel
theorem dX10_commonDivisor_2 : decode cX10_commonDivisor 2 = .ok (.iload_n 1, 1) := by decide +kernel
theorem dX10_commonDivisor_3 : decode cX10_commonDivisor 3 = .ok (.istore_n 3, 1) := by decide +kernel
theorem dX10_commonDivisor_4 : decode cX10_commonDivisor 4 = .ok (.iconst 0, 1) := by decide +kernel
theorem dX10_commonDivisor_5 : decode cX10_commonDivisor 5 = .ok (.istore 4, 2) := by decide +kernel
theorem dX10_commonDivisor_7 : decode cX10_commonDivisor 7 = .ok (.iload 4, 2) := by decide +kernel
theorem dX10_commonDivisor_9 : decode cX10_commonDivisor 9 = .ok (.sipush 720, 3) := by decide +kernel
theorem dX10_commonDivisor_12 : decode cX10_commonDivisor 12 = .ok (.if_icmp .ge 23, 3) := by decide +kernel
theorem dX10_commonDivisor_15 : decode cX10_commonDivisor 15 = .ok (.iload_n 3, 1) := by decide +kernel
theorem dX10_commonDivisor_16 : decode cX10_commonDivisor 16 = .ok (.ifCond .eq 19, 3) := by decide +kernel
theorem dX10_commonDivisor_19 : decode cX10_commonDivisor 19 = .ok (.iload_n 2, 1) := by decide +kernel
theorem dX10_commonDivisor_20 : decode cX10_commonDivisor 20 = .ok (.iload_n 3, 1) := by decide +kernel
theorem dX10_commonDivisor_21 : decode cX10_commonDivisor 21 = .ok (.irem, 1) := by decide +kernel
theorem dX10_commonDivisor_22 : decode cX10_commonDivisor 22 = .ok (.istore 5, 2) := by decide +kernel
theorem dX10_commonDivisor_24 : decode cX10_commonDivisor 24 = .ok (.iload_n 3, 1) := by decide +kernel
theorem dX10_commonDivisor_25 : decode cX10_commonDivisor 25 = .ok (.istore_n 2, 1) := by decide +kernel
theorem dX10_commonDivisor_26 : decode cX10_commonDivisor 26 = .ok (.iload 5, 2) := by decide +kernel
theorem dX10_commonDivisor_28 : decode cX10_commonDivisor 28 = .ok (.istore_n 3, 1) := by decide +kernel
theorem dX10_commonDivisor_29 : decode cX10_commonDivisor 29 = .ok (.iinc 4 1, 3) := by decide +kernel
theorem dX10_commonDivisor_32 : decode cX10_commonDivisor 32 = .ok (.goto (-25), 3) := by decide +kernel
theorem dX10_commonDivisor_35 : decode cX10_commonDivisor 35 = .ok (.iload_n 2, 1) := by decide +kernel
theorem dX10_commonDivisor_36 : decode cX10_commonDivisor 36 = .ok (.ireturn, 1) := by decide +kernel
theorem dX10_allShops_0 : decode cX10_allShops 0 = .ok (.iconst 1, 1) := by decide +kernel
theorem dX10_allShops_1 : decode cX10_allShops 1 = .ok (.aload_n 0, 1) := by decide +kernel
theorem dX10_allShops_2 : decode cX10_allShops 2 = .ok (.getfield 19, 3) := by decide +kernel
theorem dX10_allShops_5 : decode cX10_allShops 5 = .ok (.getfield 89, 3) := by decide +kernel
theorem dX10_allShops_8 : decode cX10_allShops 8 = .ok (.ishl, 1) := by decide +kernel
theorem dX10_allShops_9 : decode cX10_allShops 9 = .ok (.iconst 1, 1) := by decide +kernel
theorem dX10_allShops_10 : decode cX10_allShops 10 = .ok (.isub, 1) := by decide +kernel
theorem dX10_allShops_11 : decode cX10_allShops 11 = .ok (.ireturn, 1) := by decide +kernel
theorem dX10_isSet_0 : decode cX10_isSet 0 = .ok (.iload_n 1, 1) := by decide +kernel
theorem dX10_isSet_1 : decode cX10_isSet 1 = .ok (.iconst 0, 1) := by decide +kernel
theorem dX10_isSet_2 : decode cX10_isSet 2 = .ok (.aload_n 0, 1) := by decide +kernel
theorem dX10_isSet_3 : decode cX10_isSet 3 = .ok (.invokevirtual 223, 3) := by decide +kernel
theorem dX10_isSet_6 : decode cX10_isSet 6 = .ok (.invokestatic 78, 3) := by decide +kernel
theorem dX10_isSet_9 : decode cX10_isSet 9 = .ok (.ireturn, 1) := by decide +kernel
theorem dX10_remember_0 : decode cX10_remember 0 = .ok (.aload_n 0, 1) := by decide +kernel
theorem dX10_remember_1 : decode cX10_remember 1 = .ok (.getfield 37, 3) := by decide +kernel
theorem dX10_remember_4 : decode cX10_remember 4 = .ok (.aload_n 0, 1) := by decide +kernel
theorem dX10_remember_5 : decode cX10_remember 5 = .ok (.getfield 192, 3) := by decide +kernel
theorem dX10_remember_8 : decode cX10_remember 8 = .ok (.aaload, 1) := by decide +kernel
theorem dX10_remember_9 : decode cX10_remember 9 = .ok (.aload_n 0, 1) := by decide +kernel
theorem dX10_remember_10 : decode cX10_remember 10 = .ok (.getfield 26, 3) := by decide +kernel
theorem dX10_remember_13 : decode cX10_remember 13 = .ok (.invokevirtual 195, 3) := by decide +kernel
theorem dX10_remember_16 : decode cX10_remember 16 = .ok (.aload_n 0, 1) := by decide +kernel
theorem dX10_remember_17 : decode cX10_remember 17 = .ok (.aload_n 0, 1) := by decide +kernel
theorem dX10_remember_18 : decode cX10_remember 18 = .ok (.getfield 192, 3) := by decide +kernel
theorem dX10_remember_21 : decode cX10_remember 21 = .ok (.iconst 1, 1) := by decide +kernel
theorem dX10_remember_22 : decode cX10_remember 22 = .ok (.iadd, 1) := by decide +kernel
theorem dX10_remember_23 : decode cX10_remember 23 = .ok (.bipush 8, 2) := by decide +kernel
theorem dX10_remember_25 : decode cX10_remember 25 = .ok (.irem, 1) := by decide +kernel
theorem dX10_remember_26 : decode cX10_remember 26 = .ok (.putfield 192, 3) := by decide +kernel
theorem dX10_remember_29 : decode cX10_remember 29 = .ok (.aload_n 0, 1) := by decide +kernel
theorem dX10_remember_30 : decode cX10_remember 30 = .ok (.bipush 8, 2) := by decide +kernel
theorem dX10_remember_32 : decode cX10_remember 32 = .ok (.aload_n 0, 1) := by decide +kernel
theorem dX10_remember_33 : decode cX10_remember 33 = .ok (.getfield 121, 3) := by decide +kernel
theorem dX10_remember_36 : decode cX10_remember 36 = .ok (.iconst 1, 1) := by decide +kernel
theorem dX10_remember_37 : decode cX10_remember 37 = .ok (.iadd, 1) := by decide +kernel
theorem dX10_remember_38 : decode cX10_remember 38 = .ok (.invokestatic 259, 3) := by decide +kernel
theorem dX10_remember_41 : decode cX10_remember 41 = .ok (.putfield 121, 3) := by decide +kernel
theorem dX10_remember_44 : decode cX10_remember 44 = .ok (.return_, 1) := by decide +kernel
theorem dX10_findBest_0 : decode cX10_findBest 0 = .ok (.iconst 0, 1) := by decide +kernel
theorem dX10_findBest_1 : decode cX10_findBest 1 = .ok (.istore_n 3, 1) := by decide +kernel
theorem dX10_findBest_2 : decode cX10_findBest 2 = .ok (.aload_n 0, 1) := by decide +kernel
theorem dX10_findBest_3 : decode cX10_findBest 3 = .ok (.getfield 54, 3) := by decide +kernel
theorem dX10_findBest_6 : decode cX10_findBest 6 = .ok (.aload_n 0, 1) := by decide +kernel
theorem dX10_findBest_7 : decode cX10_findBest 7 = .ok (.getfield 19, 3) := by decide +kernel
theorem dX10_findBest_10 : decode cX10_findBest 10 = .ok (.aload_n 0, 1) := by decide +kernel
theorem dX10_findBest_11 : decode cX10_findBest 11 = .ok (.getfield 26, 3) := by decide +kernel
theorem dX10_findBest_14 : decode cX10_findBest 14 = .ok (.iload_n 1, 1) := by decide +kernel
theorem dX10_findBest_15 : decode cX10_findBest 15 = .ok (.invokevirtual 226, 3) := by decide +kernel
theorem dX10_findBest_18 : decode cX10_findBest 18 = .ok (.istore 4, 2) := by decide +kernel
theorem dX10_findBest_20 : decode cX10_findBest 20 = .ok (.iconst 0, 1) := by decide +kernel
theorem dX10_findBest_21 : decode cX10_findBest 21 = .ok (.istore 5, 2) := by decide +kernel
theorem dX10_findBest_23 : decode cX10_findBest 23 = .ok (.iload 4, 2) := by decide +kernel
theorem dX10_findBest_25 : decode cX10_findBest 25 = .ok (.ifCond .eq 156, 3) := by decide +kernel
theorem dX10_findBest_28 : decode cX10_findBest 28 = .ok (.iload 5, 2) := by decide +kernel
theorem dX10_findBest_30 : decode cX10_findBest 30 = .ok (.sipush 720, 3) := by decide +kernel
theorem dX10_findBest_33 : decode cX10_findBest 33 = .ok (.if_icmp .ge 148, 3) := by decide +kernel
theorem dX10_findBest_36 : decode cX10_findBest 36 = .ok (.aload_n 0, 1) := by decide +kernel
theorem dX10_findBest_37 : decode cX10_findBest 37 = .ok (.getfield 54, 3) := by decide +kernel
theorem dX10_findBest_40 : decode cX10_findBest 40 = .ok (.invokevirtual 240, 3) := by decide +kernel
theorem dX10_findBest_43 : decode cX10_findBest 43 = .ok (.getfield 176, 3) := by decide +kernel
theorem dX10_findBest_46 : decode cX10_findBest 46 = .ok (.aload_n 0, 1) := by decide +kernel
theorem dX10_findBest_47 : decode cX10_findBest 47 = .ok (.getfield 26, 3) := by decide +kernel
theorem dX10_findBest_50 : decode cX10_findBest 50 = .ok (.getfield 176, 3) := by decide +kernel
theorem dX10_findBest_53 : decode cX10_findBest 53 = .ok (.isub, 1) := by decide +kernel
theorem dX10_findBest_54 : decode cX10_findBest 54 = .ok (.istore 6, 2) := by decide +kernel
theorem dX10_findBest_56 : decode cX10_findBest 56 = .ok (.aload_n 0, 1) := by decide +kernel
theorem dX10_findBest_57 : decode cX10_findBest 57 = .ok (.getfield 54, 3) := by decide +kernel
theorem dX10_findBest_60 : decode cX10_findBest 60 = .ok (.invokevirtual 240, 3) := by decide +kernel
theorem dX10_findBest_63 : decode cX10_findBest 63 = .ok (.getfield 256, 3) := by decide +kernel
theorem dX10_findBest_66 : decode cX10_findBest 66 = .ok (.aload_n 0, 1) := by decide +kernel
theorem dX10_findBest_67 : decode cX10_findBest 67 = .ok (.getfield 26, 3) := by decide +kernel
theorem dX10_findBest_70 : decode cX10_findBest 70 = .ok (.getfield 256, 3) := by decide +kernel
theorem dX10_findBest_73 : decode cX10_findBest 73 = .ok (.isub, 1) := by decide +kernel
theorem dX10_findBest_74 : decode cX10_findBest 74 = .ok (.istore 7, 2) := by decide +kernel
theorem dX10_findBest_76 : decode cX10_findBest 76 = .ok (.iload_n 3, 1) := by decide +kernel
theorem dX10_findBest_77 : decode cX10_findBest 77 = .ok (.ifCond .eq 30, 3) := by decide +kernel
theorem dX10_findBest_80 : decode cX10_findBest 80 = .ok (.iload 6, 2) := by decide +kernel
theorem dX10_findBest_82 : decode cX10_findBest 82 = .ok (.aload_n 0, 1) := by decide +kernel
theorem dX10_findBest_83 : decode cX10_findBest 83 = .ok (.getfield 207, 3) := by decide +kernel
theorem dX10_findBest_86 : decode cX10_findBest 86 = .ok (.if_icmp .lt 21, 3) := by decide +kernel
theorem dX10_findBest_89 : decode cX10_findBest 89 = .ok (.iload 6, 2) := by decide +kernel
theorem dX10_findBest_91 : decode cX10_findBest 91 = .ok (.aload_n 0, 1) := by decide +kernel
theorem dX10_findBest_92 : decode cX10_findBest 92 = .ok (.getfield 207, 3) := by decide +kernel
theorem dX10_findBest_95 : decode cX10_findBest 95 = .ok (.if_icmp .ne 16, 3) := by decide +kernel
theorem dX10_findBest_98 : decode cX10_findBest 98 = .ok (.iload 7, 2) := by decide +kernel
theorem dX10_findBest_100 : decode cX10_findBest 100 = .ok (.aload_n 0, 1) := by decide +kernel
theorem dX10_findBest_101 : decode cX10_findBest 101 = .ok (.getfield 210, 3) := by decide +kernel
theorem dX10_findBest_104 : decode cX10_findBest 104 = .ok (.if_icmp .le 7, 3) := by decide +kernel
theorem dX10_findBest_107 : decode cX10_findBest 107 = .ok (.iconst 1, 1) := by decide +kernel
theorem dX10_findBest_108 : decode cX10_findBest 108 = .ok (.goto 4, 3) := by decide +kernel
theorem dX10_findBest_111 : decode cX10_findBest 111 = .ok (.iconst 0, 1) := by decide +kernel
theorem dX10_findBest_112 : decode cX10_findBest 112 = .ok (.istore 8, 2) := by decide +kernel
theorem dX10_findBest_114 : decode cX10_findBest 114 = .ok (.iload 8, 2) := by decide +kernel
theorem dX10_findBest_116 : decode cX10_findBest 116 = .ok (.ifCond .eq 46, 3) := by decide +kernel
theorem dX10_findBest_119 : decode cX10_findBest 119 = .ok (.aload_n 0, 1) := by decide +kernel
theorem dX10_findBest_120 : decode cX10_findBest 120 = .ok (.getfield 54, 3) := by decide +kernel
theorem dX10_findBest_123 : decode cX10_findBest 123 = .ok (.iload_n 2, 1) := by decide +kernel
theorem dX10_findBest_124 : decode cX10_findBest 124 = .ok (.invokevirtual 273, 3) := by decide +kernel
theorem dX10_findBest_127 : decode cX10_findBest 127 = .ok (.ifCond .eq 35, 3) := by decide +kernel
theorem dX10_findBest_130 : decode cX10_findBest 130 = .ok (.iconst 1, 1) := by decide +kernel
theorem dX10_findBest_131 : decode cX10_findBest 131 = .ok (.istore_n 3, 1) := by decide +kernel
theorem dX10_findBest_132 : decode cX10_findBest 132 = .ok (.aload_n 0, 1) := by decide +kernel
theorem dX10_findBest_133 : decode cX10_findBest 133 = .ok (.iload 6, 2) := by decide +kernel
theorem dX10_findBest_135 : decode cX10_findBest 135 = .ok (.putfield 207, 3) := by decide +kernel
theorem dX10_findBest_138 : decode cX10_findBest 138 = .ok (.aload_n 0, 1) := by decide +kernel
theorem dX10_findBest_139 : decode cX10_findBest 139 = .ok (.iload 7, 2) := by decide +kernel
theorem dX10_findBest_141 : decode cX10_findBest 141 = .ok (.putfield 210, 3) := by decide +kernel
theorem dX10_findBest_144 : decode cX10_findBest 144 = .ok (.aload_n 0, 1) := by decide +kernel
theorem dX10_findBest_145 : decode cX10_findBest 145 = .ok (.getfield 54, 3) := by decide +kernel
theorem dX10_findBest_148 : decode cX10_findBest 148 = .ok (.getfield 276, 3) := by decide +kernel
theorem dX10_findBest_151 : decode cX10_findBest 151 = .ok (.iconst 0, 1) := by decide +kernel
theorem dX10_findBest_152 : decode cX10_findBest 152 = .ok (.aload_n 0, 1) := by decide +kernel
theorem dX10_findBest_153 : decode cX10_findBest 153 = .ok (.getfield 71, 3) := by decide +kernel
theorem dX10_findBest_156 : decode cX10_findBest 156 = .ok (.iconst 0, 1) := by decide +kernel
theorem dX10_findBest_157 : decode cX10_findBest 157 = .ok (.bipush 6, 2) := by decide +kernel
theorem dX10_findBest_159 : decode cX10_findBest 159 = .ok (.invokestatic 279, 3) := by decide +kernel
theorem dX10_findBest_162 : decode cX10_findBest 162 = .ok (.aload_n 0, 1) := by decide +kernel
theorem dX10_findBest_163 : decode cX10_findBest 163 = .ok (.getfield 54, 3) := by decide +kernel
theorem dX10_findBest_166 : decode cX10_findBest 166 = .ok (.aload_n 0, 1) := by decide +kernel
theorem dX10_findBest_167 : decode cX10_findBest 167 = .ok (.getfield 19, 3) := by decide +kernel
theorem dX10_findBest_170 : decode cX10_findBest 170 = .ok (.invokevirtual 233, 3) := by decide +kernel
theorem dX10_findBest_173 : decode cX10_findBest 173 = .ok (.istore 4, 2) := by decide +kernel
theorem dX10_findBest_175 : decode cX10_findBest 175 = .ok (.iinc 5 1, 3) := by decide +kernel
theorem dX10_findBest_178 : decode cX10_findBest 178 = .ok (.goto (-155), 3) := by decide +kernel
theorem dX10_findBest_181 : decode cX10_findBest 181 = .ok (.iload_n 3, 1) := by decide +kernel
theorem dX10_findBest_182 : decode cX10_findBest 182 = .ok (.ireturn, 1) := by decide +kernel
theorem dX10_lineUp_0 : decode cX10_lineUp 0 = .ok (.iconst 0, 1) := by decide +kernel
theorem dX10_lineUp_1 : decode cX10_lineUp 1 = .ok (.istore_n 1, 1) := by decide +kernel
theorem dX10_lineUp_2 : decode cX10_lineUp 2 = .ok (.iload_n 1, 1) := by decide +kernel
theorem dX10_lineUp_3 : decode cX10_lineUp 3 = .ok (.aload_n 0, 1) := by decide +kernel
theorem dX10_lineUp_4 : decode cX10_lineUp 4 = .ok (.getfield 19, 3) := by decide +kernel
theorem dX10_lineUp_7 : decode cX10_lineUp 7 = .ok (.getfield 89, 3) := by decide +kernel
theorem dX10_lineUp_10 : decode cX10_lineUp 10 = .ok (.if_icmp .ge 27, 3) := by decide +kernel
theorem dX10_lineUp_13 : decode cX10_lineUp 13 = .ok (.aload_n 0, 1) := by decide +kernel
theorem dX10_lineUp_14 : decode cX10_lineUp 14 = .ok (.getfield 58, 3) := by decide +kernel
theorem dX10_lineUp_17 : decode cX10_lineUp 17 = .ok (.aload_n 0, 1) := by decide +kernel
theorem dX10_lineUp_18 : decode cX10_lineUp 18 = .ok (.getfield 26, 3) := by decide +kernel
theorem dX10_lineUp_21 : decode cX10_lineUp 21 = .ok (.aload_n 0, 1) := by decide +kernel
theorem dX10_lineUp_22 : decode cX10_lineUp 22 = .ok (.getfield 19, 3) := by decide +kernel
theorem dX10_lineUp_25 : decode cX10_lineUp 25 = .ok (.iload_n 1, 1) := by decide +kernel
theorem dX10_lineUp_26 : decode cX10_lineUp 26 = .ok (.invokevirtual 152, 3) := by decide +kernel
theorem dX10_lineUp_29 : decode cX10_lineUp 29 = .ok (.iload_n 1, 1) := by decide +kernel
theorem dX10_lineUp_30 : decode cX10_lineUp 30 = .ok (.iastore, 1) := by decide +kernel
theorem dX10_lineUp_31 : decode cX10_lineUp 31 = .ok (.iinc 1 1, 3) := by decide +kernel
theorem dX10_lineUp_34 : decode cX10_lineUp 34 = .ok (.goto (-32), 3) := by decide +kernel
theorem dX10_lineUp_37 : decode cX10_lineUp 37 = .ok (.return_, 1) := by decide +kernel
theorem dX10_smeltExchanged_0 : decode cX10_smeltExchanged 0 = .ok (.aload_n 0, 1) := by decide +kernel
theorem dX10_smeltExchanged_1 : decode cX10_smeltExchanged 1 = .ok (.getfield 26, 3) := by decide +kernel
theorem dX10_smeltExchanged_4 : decode cX10_smeltExchanged 4 = .ok (.aload_n 0, 1) := by decide +kernel
theorem dX10_smeltExchanged_5 : decode cX10_smeltExchanged 5 = .ok (.getfield 19, 3) := by decide +kernel
theorem dX10_smeltExchanged_8 : decode cX10_smeltExchanged 8 = .ok (.iload_n 1, 1) := by decide +kernel
theorem dX10_smeltExchanged_9 : decode cX10_smeltExchanged 9 = .ok (.invokevirtual 152, 3) := by decide +kernel
theorem dX10_smeltExchanged_12 : decode cX10_smeltExchanged 12 = .ok (.istore_n 3, 1) := by decide +kernel
theorem dX10_smeltExchanged_13 : decode cX10_smeltExchanged 13 = .ok (.aload_n 0, 1) := by decide +kernel
theorem dX10_smeltExchanged_14 : decode cX10_smeltExchanged 14 = .ok (.getfield 26, 3) := by decide +kernel
theorem dX10_smeltExchanged_17 : decode cX10_smeltExchanged 17 = .ok (.aload_n 0, 1) := by decide +kernel
theorem dX10_smeltExchanged_18 : decode cX10_smeltExchanged 18 = .ok (.getfield 19, 3) := by decide +kernel
theorem dX10_smeltExchanged_21 : decode cX10_smeltExchanged 21 = .ok (.iload_n 2, 1) := by decide +kernel
theorem dX10_smeltExchanged_22 : decode cX10_smeltExchanged 22 = .ok (.invokevirtual 152, 3) := by decide +kernel
theorem dX10_smeltExchanged_25 : decode cX10_smeltExchanged 25 = .ok (.istore 4, 2) := by decide +kernel
theorem dX10_smeltExchanged_27 : decode cX10_smeltExchanged 27 = .ok (.aload_n 0, 1) := by decide +kernel
theorem dX10_smeltExchanged_28 : decode cX10_smeltExchanged 28 = .ok (.getfield 58, 3) := by decide +kernel
theorem dX10_smeltExchanged_31 : decode cX10_smeltExchanged 31 = .ok (.iload_n 3, 1) := by decide +kernel
theorem dX10_smeltExchanged_32 : decode cX10_smeltExchanged 32 = .ok (.iload_n 2, 1) := by decide +kernel
theorem dX10_smeltExchanged_33 : decode cX10_smeltExchanged 33 = .ok (.iastore, 1) := by decide +kernel
theorem dX10_smeltExchanged_34 : decode cX10_smeltExchanged 34 = .ok (.aload_n 0, 1) := by decide +kernel
theorem dX10_smeltExchanged_35 : decode cX10_smeltExchanged 35 = .ok (.getfield 58, 3) := by decide +kernel
theorem dX10_smeltExchanged_38 : decode cX10_smeltExchanged 38 = .ok (.iload 4, 2) := by decide +kernel
theorem dX10_smeltExchanged_40 : decode cX10_smeltExchanged 40 = .ok (.iload_n 1, 1) := by decide +kernel
theorem dX10_smeltExchanged_41 : decode cX10_smeltExchanged 41 = .ok (.iastore, 1) := by decide +kernel
theorem dX10_smeltExchanged_42 : decode cX10_smeltExchanged 42 = .ok (.aload_n 0, 1) := by decide +kernel
theorem dX10_smeltExchanged_43 : decode cX10_smeltExchanged 43 = .ok (.iconst (-1), 1) := by decide +kernel
theorem dX10_smeltExchanged_44 : decode cX10_smeltExchanged 44 = .ok (.invokevirtual 217, 3) := by decide +kernel
theorem dX10_smeltExchanged_47 : decode cX10_smeltExchanged 47 = .ok (.istore 5, 2) := by decide +kernel
theorem dX10_smeltExchanged_49 : decode cX10_smeltExchanged 49 = .ok (.aload_n 0, 1) := by decide +kernel
theorem dX10_smeltExchanged_50 : decode cX10_smeltExchanged 50 = .ok (.getfield 58, 3) := by decide +kernel
theorem dX10_smeltExchanged_53 : decode cX10_smeltExchanged 53 = .ok (.iload_n 3, 1) := by decide +kernel
theorem dX10_smeltExchanged_54 : decode cX10_smeltExchanged 54 = .ok (.iload_n 1, 1) := by decide +kernel
theorem dX10_smeltExchanged_55 : decode cX10_smeltExchanged 55 = .ok (.iastore, 1) := by decide +kernel
theorem dX10_smeltExchanged_56 : decode cX10_smeltExchanged 56 = .ok (.aload_n 0, 1) := by decide +kernel
theorem dX10_smeltExchanged_57 : decode cX10_smeltExchanged 57 = .ok (.getfield 58, 3) := by decide +kernel
theorem dX10_smeltExchanged_60 : decode cX10_smeltExchanged 60 = .ok (.iload 4, 2) := by decide +kernel
theorem dX10_smeltExchanged_62 : decode cX10_smeltExchanged 62 = .ok (.iload_n 2, 1) := by decide +kernel
theorem dX10_smeltExchanged_63 : decode cX10_smeltExchanged 63 = .ok (.iastore, 1) := by decide +kernel
theorem dX10_smeltExchanged_64 : decode cX10_smeltExchanged 64 = .ok (.iload 5, 2) := by decide +kernel
theorem dX10_smeltExchanged_66 : decode cX10_smeltExchanged 66 = .ok (.ireturn, 1) := by decide +kernel
theorem dX10_smeltThrough_0 : decode cX10_smeltThrough 0 = .ok (.aload_n 0, 1) := by decide +kernel
theorem dX10_smeltThrough_1 : decode cX10_smeltThrough 1 = .ok (.getfield 48, 3) := by decide +kernel
theorem dX10_smeltThrough_4 : decode cX10_smeltThrough 4 = .ok (.aload_n 0, 1) := by decide +kernel
theorem dX10_smeltThrough_5 : decode cX10_smeltThrough 5 = .ok (.getfield 19, 3) := by decide +kernel
theorem dX10_smeltThrough_8 : decode cX10_smeltThrough 8 = .ok (.invokevirtual 110, 3) := by decide +kernel
theorem dX10_smeltThrough_11 : decode cX10_smeltThrough 11 = .ok (.iconst 0, 1) := by decide +kernel
theorem dX10_smeltThrough_12 : decode cX10_smeltThrough 12 = .ok (.istore_n 2, 1) := by decide +kernel
theorem dX10_smeltThrough_13 : decode cX10_smeltThrough 13 = .ok (.iconst 0, 1) := by decide +kernel
theorem dX10_smeltThrough_14 : decode cX10_smeltThrough 14 = .ok (.istore_n 3, 1) := by decide +kernel
theorem dX10_smeltThrough_15 : decode cX10_smeltThrough 15 = .ok (.iload_n 3, 1) := by decide +kernel
theorem dX10_smeltThrough_16 : decode cX10_smeltThrough 16 = .ok (.aload_n 0, 1) := by decide +kernel
theorem dX10_smeltThrough_17 : decode cX10_smeltThrough 17 = .ok (.getfield 19, 3) := by decide +kernel
theorem dX10_smeltThrough_20 : decode cX10_smeltThrough 20 = .ok (.getfield 89, 3) := by decide +kernel
theorem dX10_smeltThrough_23 : decode cX10_smeltThrough 23 = .ok (.if_icmp .ge 81, 3) := by decide +kernel
theorem dX10_smeltThrough_26 : decode cX10_smeltThrough 26 = .ok (.iload_n 3, 1) := by decide +kernel
theorem dX10_smeltThrough_27 : decode cX10_smeltThrough 27 = .ok (.ifCond .le 15, 3) := by decide +kernel
theorem dX10_smeltThrough_30 : decode cX10_smeltThrough 30 = .ok (.aload_n 0, 1) := by decide +kernel
theorem dX10_smeltThrough_31 : decode cX10_smeltThrough 31 = .ok (.getfield 48, 3) := by decide +kernel
theorem dX10_smeltThrough_34 : decode cX10_smeltThrough 34 = .ok (.aload_n 0, 1) := by decide +kernel
theorem dX10_smeltThrough_35 : decode cX10_smeltThrough 35 = .ok (.getfield 19, 3) := by decide +kernel
theorem dX10_smeltThrough_38 : decode cX10_smeltThrough 38 = .ok (.iconst 1, 1) := by decide +kernel
theorem dX10_smeltThrough_39 : decode cX10_smeltThrough 39 = .ok (.invokevirtual 185, 3) := by decide +kernel
theorem dX10_smeltThrough_42 : decode cX10_smeltThrough 42 = .ok (.aload_n 0, 1) := by decide +kernel
theorem dX10_smeltThrough_43 : decode cX10_smeltThrough 43 = .ok (.getfield 58, 3) := by decide +kernel
theorem dX10_smeltThrough_46 : decode cX10_smeltThrough 46 = .ok (.iload_n 3, 1) := by decide +kernel
theorem dX10_smeltThrough_47 : decode cX10_smeltThrough 47 = .ok (.iaload, 1) := by decide +kernel
theorem dX10_smeltThrough_48 : decode cX10_smeltThrough 48 = .ok (.istore 4, 2) := by decide +kernel
theorem dX10_smeltThrough_50 : decode cX10_smeltThrough 50 = .ok (.iload 4, 2) := by decide +kernel
theorem dX10_smeltThrough_52 : decode cX10_smeltThrough 52 = .ok (.iload_n 1, 1) := by decide +kernel
theorem dX10_smeltThrough_53 : decode cX10_smeltThrough 53 = .ok (.if_icmp .ne 22, 3) := by decide +kernel
theorem dX10_smeltThrough_56 : decode cX10_smeltThrough 56 = .ok (.aload_n 0, 1) := by decide +kernel
theorem dX10_smeltThrough_57 : decode cX10_smeltThrough 57 = .ok (.getfield 48, 3) := by decide +kernel
theorem dX10_smeltThrough_60 : decode cX10_smeltThrough 60 = .ok (.aload_n 0, 1) := by decide +kernel
theorem dX10_smeltThrough_61 : decode cX10_smeltThrough 61 = .ok (.getfield 19, 3) := by decide +kernel
theorem dX10_smeltThrough_64 : decode cX10_smeltThrough 64 = .ok (.aload_n 0, 1) := by decide +kernel
theorem dX10_smeltThrough_65 : decode cX10_smeltThrough 65 = .ok (.getfield 67, 3) := by decide +kernel
theorem dX10_smeltThrough_68 : decode cX10_smeltThrough 68 = .ok (.invokevirtual 285, 3) := by decide +kernel
theorem dX10_smeltThrough_71 : decode cX10_smeltThrough 71 = .ok (.pop, 1) := by decide +kernel
theorem dX10_smeltThrough_72 : decode cX10_smeltThrough 72 = .ok (.goto 26, 3) := by decide +kernel
theorem dX10_smeltThrough_75 : decode cX10_smeltThrough 75 = .ok (.iload_n 2, 1) := by decide +kernel
theorem dX10_smeltThrough_76 : decode cX10_smeltThrough 76 = .ok (.aload_n 0, 1) := by decide +kernel
theorem dX10_smeltThrough_77 : decode cX10_smeltThrough 77 = .ok (.getfield 48, 3) := by decide +kernel
theorem dX10_smeltThrough_80 : decode cX10_smeltThrough 80 = .ok (.aload_n 0, 1) := by decide +kernel
theorem dX10_smeltThrough_81 : decode cX10_smeltThrough 81 = .ok (.getfield 19, 3) := by decide +kernel
theorem dX10_smeltThrough_84 : decode cX10_smeltThrough 84 = .ok (.aload_n 0, 1) := by decide +kernel
theorem dX10_smeltThrough_85 : decode cX10_smeltThrough 85 = .ok (.getfield 19, 3) := by decide +kernel
theorem dX10_smeltThrough_88 : decode cX10_smeltThrough 88 = .ok (.iload 4, 2) := by decide +kernel
theorem dX10_smeltThrough_90 : decode cX10_smeltThrough 90 = .ok (.invokevirtual 133, 3) := by decide +kernel
theorem dX10_smeltThrough_93 : decode cX10_smeltThrough 93 = .ok (.invokevirtual 285, 3) := by decide +kernel
theorem dX10_smeltThrough_96 : decode cX10_smeltThrough 96 = .ok (.iadd, 1) := by decide +kernel
theorem dX10_smeltThrough_97 : decode cX10_smeltThrough 97 = .ok (.istore_n 2, 1) := by decide +kernel
theorem dX10_smeltThrough_98 : decode cX10_smeltThrough 98 = .ok (.iinc 3 1, 3) := by decide +kernel
theorem dX10_smeltThrough_101 : decode cX10_smeltThrough 101 = .ok (.goto (-86), 3) := by decide +kernel
theorem dX10_smeltThrough_104 : decode cX10_smeltThrough 104 = .ok (.iload_n 2, 1) := by decide +kernel
theorem dX10_smeltThrough_105 : decode cX10_smeltThrough 105 = .ok (.ireturn, 1) := by decide +kernel
theorem dX11_init_0 : decode cX11_init 0 = .ok (.aload_n 0, 1) := by decide +kernel
theorem dX11_init_1 : decode cX11_init 1 = .ok (.invokespecial 1, 3) := by decide +kernel
theorem dX11_init_4 : decode cX11_init 4 = .ok (.aload_n 0, 1) := by decide +kernel
theorem dX11_init_5 : decode cX11_init 5 = .ok (.sipush 192, 3) := by decide +kernel
theorem dX11_init_8 : decode cX11_init 8 = .ok (.newarray .int, 2) := by decide +kernel
theorem dX11_init_10 : decode cX11_init 10 = .ok (.putfield 7, 3) := by decide +kernel
theorem dX11_init_13 : decode cX11_init 13 = .ok (.aload_n 0, 1) := by decide +kernel
theorem dX11_init_14 : decode cX11_init 14 = .ok (.iconst 2, 1) := by decide +kernel
theorem dX11_init_15 : decode cX11_init 15 = .ok (.newarray .boolean, 2) := by decide +kernel
theorem dX11_init_17 : decode cX11_init 17 = .ok (.putfield 13, 3) := by decide +kernel
theorem dX11_init_20 : decode cX11_init 20 = .ok (.aload_n 0, 1) := by decide +kernel
theorem dX11_init_21 : decode cX11_init 21 = .ok (.bipush 8, 2) := by decide +kernel
theorem dX11_init_23 : decode cX11_init 23 = .ok (.newarray .int, 2) := by decide +kernel
theorem dX11_init_25 : decode cX11_init 25 = .ok (.putfield 17, 3) := by decide +kernel
theorem dX11_init_28 : decode cX11_init 28 = .ok (.aload_n 0, 1) := by decide +kernel
theorem dX11_init_29 : decode cX11_init 29 = .ok (.bipush 8, 2) := by decide +kernel
theorem dX11_init_31 : decode cX11_init 31 = .ok (.newarray .int, 2) := by decide +kernel
theorem dX11_init_33 : decode cX11_init 33 = .ok (.putfield 20, 3) := by decide +kernel
theorem dX11_init_36 : decode cX11_init 36 = .ok (.aload_n 0, 1) := by decide +kernel
theorem dX11_init_37 : decode cX11_init 37 = .ok (.bipush 12, 2) := by decide +kernel
theorem dX11_init_39 : decode cX11_init 39 = .ok (.newarray .int, 2) := by decide +kernel
theorem dX11_init_41 : decode cX11_init 41 = .ok (.putfield 23, 3) := by decide +kernel
theorem dX11_init_44 : decode cX11_init 44 = .ok (.aload_n 0, 1) := by decide +kernel
theorem dX11_init_45 : decode cX11_init 45 = .ok (.bipush 12, 2) := by decide +kernel
theorem dX11_init_47 : decode cX11_init 47 = .ok (.newarray .int, 2) := by decide +kernel
theorem dX11_init_49 : decode cX11_init 49 = .ok (.putfield 26, 3) := by decide +kernel
theorem dX11_init_52 : decode cX11_init 52 = .ok (.aload_n 0, 1) := by decide +kernel
theorem dX11_init_53 : decode cX11_init 53 = .ok (.bipush 12, 2) := by decide +kernel
theorem dX11_init_55 : decode cX11_init 55 = .ok (.newarray .int, 2) := by decide +kernel
theorem dX11_init_57 : decode cX11_init 57 = .ok (.putfield 29, 3) := by decide +kernel
theorem dX11_init_60 : decode cX11_init 60 = .ok (.aload_n 0, 1) := by decide +kernel
theorem dX11_init_61 : decode cX11_init 61 = .ok (.bipush 12, 2) := by decide +kernel
theorem dX11_init_63 : decode cX11_init 63 = .ok (.newarray .int, 2) := by decide +kernel
theorem dX11_init_65 : decode cX11_init 65 = .ok (.putfield 32, 3) := by decide +kernel
theorem dX11_init_68 : decode cX11_init 68 = .ok (.aload_n 0, 1) := by decide +kernel
theorem dX11_init_69 : decode cX11_init 69 = .ok (.iconst 2, 1) := by decide +kernel
theorem dX11_init_70 : decode cX11_init 70 = .ok (.newarray .int, 2) := by decide +kernel
theorem dX11_init_72 : decode cX11_init 72 = .ok (.putfield 35, 3) := by decide +kernel
theorem dX11_init_75 : decode cX11_init 75 = .ok (.aload_n 0, 1) := by decide +kernel
theorem dX11_init_76 : decode cX11_init 76 = .ok (.iconst 2, 1) := by decide +kernel
theorem dX11_init_77 : decode cX11_init 77 = .ok (.newarray .int, 2) := by decide +kernel
theorem dX11_init_79 : decode cX11_init 79 = .ok (.putfield 38, 3) := by decide +kernel
theorem dX11_init_82 : decode cX11_init 82 = .ok (.aload_n 0, 1) := by decide +kernel
theorem dX11_init_83 : decode cX11_init 83 = .ok (.iconst 2, 1) := by decide +kernel
theorem dX11_init_84 : decode cX11_init 84 = .ok (.newarray .int, 2) := by decide +kernel
theorem dX11_init_86 : decode cX11_init 86 = .ok (.putfield 41, 3) := by decide +kernel
theorem dX11_init_89 : decode cX11_init 89 = .ok (.aload_n 0, 1) := by decide +kernel
theorem dX11_init_90 : decode cX11_init 90 = .ok (.sipush 160, 3) := by decide +kernel
theorem dX11_init_93 : decode cX11_init 93 = .ok (.newarray .int, 2) := by decide +kernel
theorem dX11_init_95 : decode cX11_init 95 = .ok (.putfield 44, 3) := by decide +kernel
theorem dX11_init_98 : decode cX11_init 98 = .ok (.aload_n 0, 1) := by decide +kernel
theorem dX11_init_99 : decode cX11_init 99 = .ok (.bipush 6, 2) := by decide +kernel
theorem dX11_init_101 : decode cX11_init 101 = .ok (.newarray .int, 2) := by decide +kernel
theorem dX11_init_103 : decode cX11_init 103 = .ok (.putfield 47, 3) := by decide +kernel
theorem dX11_init_106 : decode cX11_init 106 = .ok (.aload_n 0, 1) := by decide +kernel
theorem dX11_init_107 : decode cX11_init 107 = .ok (.bipush 6, 2) := by decide +kernel
theorem dX11_init_109 : decode cX11_init 109 = .ok (.newarray .int, 2) := by decide +kernel
theorem dX11_init_111 : decode cX11_init 111 = .ok (.putfield 50, 3) := by decide +kernel
theorem dX11_init_114 : decode cX11_init 114 = .ok (.aload_n 0, 1) := by decide +kernel
theorem dX11_init_115 : decode cX11_init 115 = .ok (.bipush 6, 2) := by decide +kernel
theorem dX11_init_117 : decode cX11_init 117 = .ok (.newarray .int, 2) := by decide +kernel
theorem dX11_init_119 : decode cX11_init 119 = .ok (.putfield 53, 3) := by decide +kernel
theorem dX11_init_122 : decode cX11_init 122 = .ok (.aload_n 0, 1) := by decide +kernel
theorem dX11_init_123 : decode cX11_init 123 = .ok (.bipush 6, 2) := by decide +kernel
theorem dX11_init_125 : decode cX11_init 125 = .ok (.newarray .int, 2) := by decide +kernel
theorem dX11_init_127 : decode cX11_init 127 = .ok (.putfield 56, 3) := by decide +kernel
theorem dX11_init_130 : decode cX11_init 130 = .ok (.aload_n 0, 1) := by decide +kernel
theorem dX11_init_131 : decode cX11_init 131 = .ok (.bipush 6, 2) := by decide +kernel
theorem dX11_init_133 : decode cX11_init 133 = .ok (.newarray .int, 2) := by decide +kernel
theorem dX11_init_135 : decode cX11_init 135 = .ok (.putfield 59, 3) := by decide +kernel
theorem dX11_init_138 : decode cX11_init 138 = .ok (.aload_n 0, 1) := by decide +kernel
theorem dX11_init_139 : decode cX11_init 139 = .ok (.iconst 0, 1) := by decide +kernel
theorem dX11_init_140 : decode cX11_init 140 = .ok (.invokevirtual 62, 3) := by decide +kernel
theorem dX11_init_143 : decode cX11_init 143 = .ok (.aload_n 0, 1) := by decide +kernel
theorem dX11_init_144 : decode cX11_init 144 = .ok (.getfield 7, 3) := by decide +kernel
theorem dX11_init_147 : decode cX11_init 147 = .ok (.bipush 12, 2) := by decide +kernel
theorem dX11_init_149 : decode cX11_init 149 = .ok (.aload_n 0, 1) := by decide +kernel
theorem dX11_init_150 : decode cX11_init 150 = .ok (.getfield 41, 3) := by decide +kernel
theorem dX11_init_153 : decode cX11_init 153 = .ok (.iconst 0, 1) := by decide +kernel
theorem dX11_init_154 : decode cX11_init 154 = .ok (.iaload, 1) := by decide +kernel
theorem dX11_init_155 : decode cX11_init 155 = .ok (.iastore, 1) := by decide +kernel
theorem dX11_init_156 : decode cX11_init 156 = .ok (.return_, 1) := by decide +kernel
theorem dX11_in_0 : decode cX11_in 0 = .ok (.lload_n 0, 1) := by decide +kernel
theorem dX11_in_1 : decode cX11_in 1 = .ok (.lload_n 2, 1) := by decide +kernel
theorem dX11_in_2 : decode cX11_in 2 = .ok (.lcmp, 1) := by decide +kernel
theorem dX11_in_3 : decode cX11_in 3 = .ok (.ifCond .lt 14, 3) := by decide +kernel
theorem dX11_in_6 : decode cX11_in 6 = .ok (.lload_n 0, 1) := by decide +kernel
theorem dX11_in_7 : decode cX11_in 7 = .ok (.lload 4, 2) := by decide +kernel
theorem dX11_in_9 : decode cX11_in 9 = .ok (.lcmp, 1) := by decide +kernel
theorem dX11_in_10 : decode cX11_in 10 = .ok (.ifCond .gt 7, 3) := by decide +kernel
theorem dX11_in_13 : decode cX11_in 13 = .ok (.iconst 1, 1) := by decide +kernel
theorem dX11_in_14 : decode cX11_in 14 = .ok (.goto 4, 3) := by decide +kernel
theorem dX11_in_17 : decode cX11_in 17 = .ok (.iconst 0, 1) := by decide +kernel
theorem dX11_in_18 : decode cX11_in 18 = .ok (.ireturn, 1) := by decide +kernel
theorem dX11_one_0 : decode cX11_one 0 = .ok (.iload_n 0, 1) := by decide +kernel
theorem dX11_one_1 : decode cX11_one 1 = .ok (.ifCond .eq 7, 3) := by decide +kernel
theorem dX11_one_4 : decode cX11_one 4 = .ok (.iconst 1, 1) := by decide +kernel
theorem dX11_one_5 : decode cX11_one 5 = .ok (.goto 4, 3) := by decide +kernel
theorem dX11_one_8 : decode cX11_one 8 = .ok (.iconst 0, 1) := by decide +kernel
theorem dX11_one_9 : decode cX11_one 9 = .ok (.ireturn, 1) := by decide +kernel
theorem dX11_has_0 : decode cX11_has 0 = .ok (.iload_n 0, 1) := by decide +kernel
theorem dX11_has_1 : decode cX11_has 1 = .ok (.iload_n 1, 1) := by decide +kernel
theorem dX11_has_2 : decode cX11_has 2 = .ok (.ishr, 1) := by decide +kernel
theorem dX11_has_3 : decode cX11_has 3 = .ok (.iconst 1, 1) := by decide +kernel
theorem dX11_has_4 : decode cX11_has 4 = .ok (.iand, 1) := by decide +kernel
theorem dX11_has_5 : decode cX11_has 5 = .ok (.iconst 1, 1) := by decide +kernel
theorem dX11_has_6 : decode cX11_has 6 = .ok (.if_icmp .ne 7, 3) := by decide +kernel
theorem dX11_has_9 : decode cX11_has 9 = .ok (.iconst 1, 1) := by decide +kernel
theorem dX11_has_10 : decode cX11_has 10 = .ok (.goto 4, 3) := by decide +kernel
theorem dX11_has_13 : decode cX11_has 13 = .ok (.iconst 0, 1) := by decide +kernel
theorem dX11_has_14 : decode cX11_has 14 = .ok (.ireturn, 1) := by decide +kernel
theorem dX11_common_0 : decode cX11_common 0 = .ok (.iload_n 0, 1) := by decide +kernel
theorem dX11_common_1 : decode cX11_common 1 = .ok (.istore_n 2, 1) := by decide +kernel
theorem dX11_common_2 : decode cX11_common 2 = .ok (.iload_n 1, 1) := by decide +kernel
theorem dX11_common_3 : decode cX11_common 3 = .ok (.istore_n 3, 1) := by decide +kernel
theorem dX11_common_4 : decode cX11_common 4 = .ok (.iload_n 3, 1) := by decide +kernel
theorem dX11_common_5 : decode cX11_common 5 = .ok (.ifCond .le 16, 3) := by decide +kernel
theorem dX11_common_8 : decode cX11_common 8 = .ok (.iload_n 2, 1) := by decide +kernel
theorem dX11_common_9 : decode cX11_common 9 = .ok (.iload_n 3, 1) := by decide +kernel
theorem dX11_common_10 : decode cX11_common 10 = .ok (.irem, 1) := by decide +kernel
theorem dX11_common_11 : decode cX11_common 11 = .ok (.istore 4, 2) := by decide +kernel
theorem dX11_common_13 : decode cX11_common 13 = .ok (.iload_n 3, 1) := by decide +kernel
theorem dX11_common_14 : decode cX11_common 14 = .ok (.istore_n 2, 1) := by decide +kernel
theorem dX11_common_15 : decode cX11_common 15 = .ok (.iload 4, 2) := by decide +kernel
theorem dX11_common_17 : decode cX11_common 17 = .ok (.istore_n 3, 1) := by decide +kernel
theorem dX11_common_18 : decode cX11_common 18 = .ok (.goto (-14), 3) := by decide +kernel
theorem dX11_common_21 : decode cX11_common 21 = .ok (.iload_n 2, 1) := by decide +kernel
theorem dX11_common_22 : decode cX11_common 22 = .ok (.ireturn, 1) := by decide +kernel
theorem dX11_asAtFirst_0 : decode cX11_asAtFirst 0 = .ok (.iconst 0, 1) := by decide +kernel
theorem dX11_asAtFirst_1 : decode cX11_asAtFirst 1 = .ok (.istore_n 2, 1) := by decide +kernel
theorem dX11_asAtFirst_2 : decode cX11_asAtFirst 2 = .ok (.iload_n 2, 1) := by decide +kernel
theorem dX11_asAtFirst_3 : decode cX11_asAtFirst 3 = .ok (.iconst 4, 1) := by decide +kernel
theorem dX11_asAtFirst_4 : decode cX11_asAtFirst 4 = .ok (.if_icmp .ge 31, 3) := by decide +kernel
theorem dX11_asAtFirst_7 : decode cX11_asAtFirst 7 = .ok (.aload_n 0, 1) := by decide +kernel
theorem dX11_asAtFirst_8 : decode cX11_asAtFirst 8 = .ok (.getfield 17, 3) := by decide +kernel
theorem dX11_asAtFirst_11 : decode cX11_asAtFirst 11 = .ok (.iconst 4, 1) := by decide +kernel
theorem dX11_asAtFirst_12 : decode cX11_asAtFirst 12 = .ok (.iload_n 1, 1) := by decide +kernel
theorem dX11_asAtFirst_13 : decode cX11_asAtFirst 13 = .ok (.imul, 1) := by decide +kernel
theorem dX11_asAtFirst_14 : decode cX11_asAtFirst 14 = .ok (.iload_n 2, 1) := by decide +kernel
theorem dX11_asAtFirst_15 : decode cX11_asAtFirst 15 = .ok (.iadd, 1) := by decide +kernel
theorem dX11_asAtFirst_16 : decode cX11_asAtFirst 16 = .ok (.iconst 4, 1) := by decide +kernel
theorem dX11_asAtFirst_17 : decode cX11_asAtFirst 17 = .ok (.iastore, 1) := by decide +kernel
theorem dX11_asAtFirst_18 : decode cX11_asAtFirst 18 = .ok (.aload_n 0, 1) := by decide +kernel
theorem dX11_asAtFirst_19 : decode cX11_asAtFirst 19 = .ok (.getfield 20, 3) := by decide +kernel
theorem dX11_asAtFirst_22 : decode cX11_asAtFirst 22 = .ok (.iconst 4, 1) := by decide +kernel
theorem dX11_asAtFirst_23 : decode cX11_asAtFirst 23 = .ok (.iload_n 1, 1) := by decide +kernel
theorem dX11_asAtFirst_24 : decode cX11_asAtFirst 24 = .ok (.imul, 1) := by decide +kernel
theorem dX11_asAtFirst_25 : decode cX11_asAtFirst 25 = .ok (.iload_n 2, 1) := by decide +kernel
theorem dX11_asAtFirst_26 : decode cX11_asAtFirst 26 = .ok (.iadd, 1) := by decide +kernel
theorem dX11_asAtFirst_27 : decode cX11_asAtFirst 27 = .ok (.iconst 1, 1) := by decide +kernel
theorem dX11_asAtFirst_28 : decode cX11_asAtFirst 28 = .ok (.iastore, 1) := by decide +kernel
theorem dX11_asAtFirst_29 : decode cX11_asAtFirst 29 = .ok (.iinc 2 1, 3) := by decide +kernel
theorem dX11_asAtFirst_32 : decode cX11_asAtFirst 32 = .ok (.goto (-30), 3) := by decide +kernel
theorem dX11_asAtFirst_35 : decode cX11_asAtFirst 35 = .ok (.aload_n 0, 1) := by decide +kernel
theorem dX11_asAtFirst_36 : decode cX11_asAtFirst 36 = .ok (.getfield 35, 3) := by decide +kernel
theorem dX11_asAtFirst_39 : decode cX11_asAtFirst 39 = .ok (.iload_n 1, 1) := by decide +kernel
theorem dX11_asAtFirst_40 : decode cX11_asAtFirst 40 = .ok (.iconst 0, 1) := by decide +kernel
theorem dX11_asAtFirst_41 : decode cX11_asAtFirst 41 = .ok (.iastore, 1) := by decide +kernel
theorem dX11_asAtFirst_42 : decode cX11_asAtFirst 42 = .ok (.aload_n 0, 1) := by decide +kernel
theorem dX11_asAtFirst_43 : decode cX11_asAtFirst 43 = .ok (.getfield 38, 3) := by decide +kernel
theorem dX11_asAtFirst_46 : decode cX11_asAtFirst 46 = .ok (.iload_n 1, 1) := by decide +kernel
theorem dX11_asAtFirst_47 : decode cX11_asAtFirst 47 = .ok (.bipush 10, 2) := by decide +kernel
theorem dX11_asAtFirst_49 : decode cX11_asAtFirst 49 = .ok (.iastore, 1) := by decide +kernel
theorem dX11_asAtFirst_50 : decode cX11_asAtFirst 50 = .ok (.aload_n 0, 1) := by decide +kernel
theorem dX11_asAtFirst_51 : decode cX11_asAtFirst 51 = .ok (.getfield 41, 3) := by decide +kernel
theorem dX11_asAtFirst_54 : decode cX11_asAtFirst 54 = .ok (.iload_n 1, 1) := by decide +kernel
theorem dX11_asAtFirst_55 : decode cX11_asAtFirst 55 = .ok (.bipush 60, 2) := by decide +kernel
theorem dX11_asAtFirst_57 : decode cX11_asAtFirst 57 = .ok (.iastore, 1) := by decide +kernel
theorem dX11_asAtFirst_58 : decode cX11_asAtFirst 58 = .ok (.return_, 1) := by decide +kernel
theorem dX11_copyHalf_0 : decode cX11_copyHalf 0 = .ok (.iconst 0, 1) := by decide +kernel
theorem dX11_copyHalf_1 : decode cX11_copyHalf 1 = .ok (.istore_n 3, 1) := by decide +kernel
theorem dX11_copyHalf_2 : decode cX11_copyHalf 2 = .ok (.iload_n 3, 1) := by decide +kernel
theorem dX11_copyHalf_3 : decode cX11_copyHalf 3 = .ok (.iconst 4, 1) := by decide +kernel
theorem dX11_copyHalf_4 : decode cX11_copyHalf 4 = .ok (.if_icmp .ge 49, 3) := by decide +kernel
theorem dX11_copyHalf_7 : decode cX11_copyHalf 7 = .ok (.aload_n 0, 1) := by decide +kernel
theorem dX11_copyHalf_8 : decode cX11_copyHalf 8 = .ok (.getfield 17, 3) := by decide +kernel
theorem dX11_copyHalf_11 : decode cX11_copyHalf 11 = .ok (.iconst 4, 1) := by decide +kernel
theorem dX11_copyHalf_12 : decode cX11_copyHalf 12 = .ok (.iload_n 2, 1) := by decide +kernel
theorem dX11_copyHalf_13 : decode cX11_copyHalf 13 = .ok (.imul, 1) := by decide +kernel
theorem dX11_copyHalf_14 : decode cX11_copyHalf 14 = .ok (.iload_n 3, 1) := by decide +kernel
theorem dX11_copyHalf_15 : decode cX11_copyHalf 15 = .ok (.iadd, 1) := by decide +kernel
theorem dX11_copyHalf_16 : decode cX11_copyHalf 16 = .ok (.aload_n 0, 1) := by decide +kernel
theorem dX11_copyHalf_17 : decode cX11_copyHalf 17 = .ok (.getfield 17, 3) := by decide +kernel
theorem dX11_copyHalf_20 : decode cX11_copyHalf 20 = .ok (.iconst 4, 1) := by decide +kernel
theorem dX11_copyHalf_21 : decode cX11_copyHalf 21 = .ok (.iload_n 1, 1) := by decide +kernel
theorem dX11_copyHalf_22 : decode cX11_copyHalf 22 = .ok (.imul, 1) := by decide +kernel
theorem dX11_copyHalf_23 : decode cX11_copyHalf 23 = .ok (.iload_n 3, 1) := by decide +kernel
theorem dX11_copyHalf_24 : decode cX11_copyHalf 24 = .ok (.iadd, 1) := by decide +kernel
theorem dX11_copyHalf_25 : decode cX11_copyHalf 25 = .ok (.iaload, 1) := by decide +kernel
theorem dX11_copyHalf_26 : decode cX11_copyHalf 26 = .ok (.iastore, 1) := by decide +kernel
theorem dX11_copyHalf_27 : decode cX11_copyHalf 27 = .ok (.aload_n 0, 1) := by decide +kernel
theorem dX11_copyHalf_28 : decode cX11_copyHalf 28 = .ok (.getfield 20, 3) := by decide +kernel
theorem dX11_copyHalf_31 : decode cX11_copyHalf 31 = .ok (.iconst 4, 1) := by decide +kernel
theorem dX11_copyHalf_32 : decode cX11_copyHalf 32 = .ok (.iload_n 2, 1) := by decide +kernel
theorem dX11_copyHalf_33 : decode cX11_copyHalf 33 = .ok (.imul, 1) := by decide +kernel
theorem dX11_copyHalf_34 : decode cX11_copyHalf 34 = .ok (.iload_n 3, 1) := by decide +kernel
theorem dX11_copyHalf_35 : decode cX11_copyHalf 35 = .ok (.iadd, 1) := by decide +kernel
theorem dX11_copyHalf_36 : decode cX11_copyHalf 36 = .ok (.aload_n 0, 1) := by decide +kernel
theorem dX11_copyHalf_37 : decode cX11_copyHalf 37 = .ok (.getfield 20, 3) := by decide +kernel
theorem dX11_copyHalf_40 : decode cX11_copyHalf 40 = .ok (.iconst 4, 1) := by decide +kernel
theorem dX11_copyHalf_41 : decode cX11_copyHalf 41 = .ok (.iload_n 1, 1) := by decide +kernel
theorem dX11_copyHalf_42 : decode cX11_copyHalf 42 = .ok (.imul, 1) := by decide +kernel
theorem dX11_copyHalf_43 : decode cX11_copyHalf 43 = .ok (.iload_n 3, 1) := by decide +kernel
theorem dX11_copyHalf_44 : decode cX11_copyHalf 44 = .ok (.iadd, 1) := by decide +kernel
theorem dX11_copyHalf_45 : decode cX11_copyHalf 45 = .ok (.iaload, 1) := by decide +kernel
theorem dX11_copyHalf_46 : decode cX11_copyHalf 46 = .ok (.iastore, 1) := by decide +kernel
theorem dX11_copyHalf_47 : decode cX11_copyHalf 47 = .ok (.iinc 3 1, 3) := by decide +kernel
theorem dX11_copyHalf_50 : decode cX11_copyHalf 50 = .ok (.goto (-48), 3) := by decide +kernel
theorem dX11_copyHalf_53 : decode cX11_copyHalf 53 = .ok (.iconst 0, 1) := by decide +kernel
theorem dX11_copyHalf_54 : decode cX11_copyHalf 54 = .ok (.istore_n 3, 1) := by decide +kernel
theorem dX11_copyHalf_55 : decode cX11_copyHalf 55 = .ok (.iload_n 3, 1) := by decide +kernel
theorem dX11_copyHalf_56 : decode cX11_copyHalf 56 = .ok (.bipush 6, 2) := by decide +kernel
theorem dX11_copyHalf_58 : decode cX11_copyHalf 58 = .ok (.if_icmp .ge 97, 3) := by decide +kernel
theorem dX11_copyHalf_61 : decode cX11_copyHalf 61 = .ok (.aload_n 0, 1) := by decide +kernel
theorem dX11_copyHalf_62 : decode cX11_copyHalf 62 = .ok (.getfield 23, 3) := by decide +kernel
theorem dX11_copyHalf_65 : decode cX11_copyHalf 65 = .ok (.bipush 6, 2) := by decide +kernel
theorem dX11_copyHalf_67 : decode cX11_copyHalf 67 = .ok (.iload_n 2, 1) := by decide +kernel
theorem dX11_copyHalf_68 : decode cX11_copyHalf 68 = .ok (.imul, 1) := by decide +kernel
theorem dX11_copyHalf_69 : decode cX11_copyHalf 69 = .ok (.iload_n 3, 1) := by decide +kernel
theorem dX11_copyHalf_70 : decode cX11_copyHalf 70 = .ok (.iadd, 1) := by decide +kernel
theorem dX11_copyHalf_71 : decode cX11_copyHalf 71 = .ok (.aload_n 0, 1) := by decide +kernel
theorem dX11_copyHalf_72 : decode cX11_copyHalf 72 = .ok (.getfield 23, 3) := by decide +kernel
theorem dX11_copyHalf_75 : decode cX11_copyHalf 75 = .ok (.bipush 6, 2) := by decide +kernel
theorem dX11_copyHalf_77 : decode cX11_copyHalf 77 = .ok (.iload_n 1, 1) := by decide +kernel
theorem dX11_copyHalf_78 : decode cX11_copyHalf 78 = .ok (.imul, 1) := by decide +kernel
theorem dX11_copyHalf_79 : decode cX11_copyHalf 79 = .ok (.iload_n 3, 1) := by decide +kernel
theorem dX11_copyHalf_80 : decode cX11_copyHalf 80 = .ok (.iadd, 1) := by decide +kernel
theorem dX11_copyHalf_81 : decode cX11_copyHalf 81 = .ok (.iaload, 1) := by decide +kernel
theorem dX11_copyHalf_82 : decode cX11_copyHalf 82 = .ok (.iastore, 1) := by decide +kernel
theorem dX11_copyHalf_83 : decode cX11_copyHalf 83 = .ok (.aload_n 0, 1) := by decide +kernel
theorem dX11_copyHalf_84 : decode cX11_copyHalf 84 = .ok (.getfield 26, 3) := by decide +kernel
theorem dX11_copyHalf_87 : decode cX11_copyHalf 87 = .ok (.bipush 6, 2) := by decide +kernel
theorem dX11_copyHalf_89 : decode cX11_copyHalf 89 = .ok (.iload_n 2, 1) := by decide +kernel
theorem dX11_copyHalf_90 : decode cX11_copyHalf 90 = .ok (.imul, 1) := by decide +kernel
theorem dX11_copyHalf_91 : decode cX11_copyHalf 91 = .ok (.iload_n 3, 1) := by decide +kernel
theorem dX11_copyHalf_92 : decode cX11_copyHalf 92 = .ok (.iadd, 1) := by decide +kernel
theorem dX11_copyHalf_93 : decode cX11_copyHalf 93 = .ok (.aload_n 0, 1) := by decide +kernel
theorem dX11_copyHalf_94 : decode cX11_copyHalf 94 = .ok (.getfield 26, 3) := by decide +kernel
theorem dX11_copyHalf_97 : decode cX11_copyHalf 97 = .ok (.bipush 6, 2) := by decide +kernel
theorem dX11_copyHalf_99 : decode cX11_copyHalf 99 = .ok (.iload_n 1, 1) := by decide +kernel
theorem dX11_copyHalf_100 : decode cX11_copyHalf 100 = .ok (.imul, 1) := by decide +kernel
theorem dX11_copyHalf_101 : decode cX11_copyHalf 101 = .ok (.iload_n 3, 1) := by decide +kernel
theorem dX11_copyHalf_102 : decode cX11_copyHalf 102 = .ok (.iadd, 1) := by decide +kernel
theorem dX11_copyHalf_103 : decode cX11_copyHalf 103 = .ok (.iaload, 1) := by decide +kernel
theorem dX11_copyHalf_104 : decode cX11_copyHalf 104 = .ok (.iastore, 1) := by decide +kernel
theorem dX11_copyHalf_105 : decode cX11_copyHalf 105 = .ok (.aload_n 0, 1) := by decide +kernel
theorem dX11_copyHalf_106 : decode cX11_copyHalf 106 = .ok (.getfield 29, 3) := by decide +kernel
theorem dX11_copyHalf_109 : decode cX11_copyHalf 109 = .ok (.bipush 6, 2) := by decide +kernel
theorem dX11_copyHalf_111 : decode cX11_copyHalf 111 = .ok (.iload_n 2, 1) := by decide +kernel
theorem dX11_copyHalf_112 : decode cX11_copyHalf 112 = .ok (.imul, 1) := by decide +kernel
theorem dX11_copyHalf_113 : decode cX11_copyHalf 113 = .ok (.iload_n 3, 1) := by decide +kernel
theorem dX11_copyHalf_114 : decode cX11_copyHalf 114 = .ok (.iadd, 1) := by decide +kernel
theorem dX11_copyHalf_115 : decode cX11_copyHalf 115 = .ok (.aload_n 0, 1) := by decide +kernel
theorem dX11_copyHalf_116 : decode cX11_copyHalf 116 = .ok (.getfield 29, 3) := by decide +kernel
theorem dX11_copyHalf_119 : decode cX11_copyHalf 119 = .ok (.bipush 6, 2) := by decide +kernel
theorem dX11_copyHalf_121 : decode cX11_copyHalf 121 = .ok (.iload_n 1, 1) := by decide +kernel
theorem dX11_copyHalf_122 : decode cX11_copyHalf 122 = .ok (.imul, 1) := by decide +kernel
theorem dX11_copyHalf_123 : decode cX11_copyHalf 123 = .ok (.iload_n 3, 1) := by decide +kernel
theorem dX11_copyHalf_124 : decode cX11_copyHalf 124 = .ok (.iadd, 1) := by decide +kernel
theorem dX11_copyHalf_125 : decode cX11_copyHalf 125 = .ok (.iaload, 1) := by decide +kernel
theorem dX11_copyHalf_126 : decode cX11_copyHalf 126 = .ok (.iastore, 1) := by decide +kernel
theorem dX11_copyHalf_127 : decode cX11_copyHalf 127 = .ok (.aload_n 0, 1) := by decide +kernel
theorem dX11_copyHalf_128 : decode cX11_copyHalf 128 = .ok (.getfield 32, 3) := by decide +kernel
theorem dX11_copyHalf_131 : decode cX11_copyHalf 131 = .ok (.bipush 6, 2) := by decide +kernel
theorem dX11_copyHalf_133 : decode cX11_copyHalf 133 = .ok (.iload_n 2, 1) := by decide +kernel
theorem dX11_copyHalf_134 : decode cX11_copyHalf 134 = .ok (.imul, 1) := by decide +kernel
theorem dX11_copyHalf_135 : decode cX11_copyHalf 135 = .ok (.iload_n 3, 1) := by decide +kernel
theorem dX11_copyHalf_136 : decode cX11_copyHalf 136 = .ok (.iadd, 1) := by decide +kernel
theorem dX11_copyHalf_137 : decode cX11_copyHalf 137 = .ok (.aload_n 0, 1) := by decide +kernel
theorem dX11_copyHalf_138 : decode cX11_copyHalf 138 = .ok (.getfield 32, 3) := by decide +kernel
theorem dX11_copyHalf_141 : decode cX11_copyHalf 141 = .ok (.bipush 6, 2) := by decide +kernel
theorem dX11_copyHalf_143 : decode cX11_copyHalf 143 = .ok (.iload_n 1, 1) := by decide +kernel
theorem dX11_copyHalf_144 : decode cX11_copyHalf 144 = .ok (.imul, 1) := by decide +kernel
theorem dX11_copyHalf_145 : decode cX11_copyHalf 145 = .ok (.iload_n 3, 1) := by decide +kernel
theorem dX11_copyHalf_146 : decode cX11_copyHalf 146 = .ok (.iadd, 1) := by decide +kernel
theorem dX11_copyHalf_147 : decode cX11_copyHalf 147 = .ok (.iaload, 1) := by decide +kernel
theorem dX11_copyHalf_148 : decode cX11_copyHalf 148 = .ok (.iastore, 1) := by decide +kernel
theorem dX11_copyHalf_149 : decode cX11_copyHalf 149 = .ok (.iinc 3 1, 3) := by decide +kernel
theorem dX11_copyHalf_152 : decode cX11_copyHalf 152 = .ok (.goto (-97), 3) := by decide +kernel
theorem dX11_copyHalf_155 : decode cX11_copyHalf 155 = .ok (.aload_n 0, 1) := by decide +kernel
theorem dX11_copyHalf_156 : decode cX11_copyHalf 156 = .ok (.getfield 35, 3) := by decide +kernel
theorem dX11_copyHalf_159 : decode cX11_copyHalf 159 = .ok (.iload_n 2, 1) := by decide +kernel
theorem dX11_copyHalf_160 : decode cX11_copyHalf 160 = .ok (.aload_n 0, 1) := by decide +kernel
theorem dX11_copyHalf_161 : decode cX11_copyHalf 161 = .ok (.getfield 35, 3) := by decide +kernel
theorem dX11_copyHalf_164 : decode cX11_copyHalf 164 = .ok (.iload_n 1, 1) := by decide +kernel
theorem dX11_copyHalf_165 : decode cX11_copyHalf 165 = .ok (.iaload, 1) := by decide +kernel
theorem dX11_copyHalf_166 : decode cX11_copyHalf 166 = .ok (.iastore, 1) := by decide +kernel
theorem dX11_copyHalf_167 : decode cX11_copyHalf 167 = .ok (.aload_n 0, 1) := by decide +kernel
theorem dX11_copyHalf_168 : decode cX11_copyHalf 168 = .ok (.getfield 38, 3) := by decide +kernel
theorem dX11_copyHalf_171 : decode cX11_copyHalf 171 = .ok (.iload_n 2, 1) := by decide +kernel
theorem dX11_copyHalf_172 : decode cX11_copyHalf 172 = .ok (.aload_n 0, 1) := by decide +kernel
theorem dX11_copyHalf_173 : decode cX11_copyHalf 173 = .ok (.getfield 38, 3) := by decide +kernel
theorem dX11_copyHalf_176 : decode cX11_copyHalf 176 = .ok (.iload_n 1, 1) := by decide +kernel
theorem dX11_copyHalf_177 : decode cX11_copyHalf 177 = .ok (.iaload, 1) := by decide +kernel
theorem dX11_copyHalf_178 : decode cX11_copyHalf 178 = .ok (.iastore, 1) := by decide +kernel
theorem dX11_copyHalf_179 : decode cX11_copyHalf 179 = .ok (.aload_n 0, 1) := by decide +kernel
theorem dX11_copyHalf_180 : decode cX11_copyHalf 180 = .ok (.getfield 41, 3) := by decide +kernel
theorem dX11_copyHalf_183 : decode cX11_copyHalf 183 = .ok (.iload_n 2, 1) := by decide +kernel
theorem dX11_copyHalf_184 : decode cX11_copyHalf 184 = .ok (.aload_n 0, 1) := by decide +kernel
theorem dX11_copyHalf_185 : decode cX11_copyHalf 185 = .ok (.getfield 41, 3) := by decide +kernel
theorem dX11_copyHalf_188 : decode cX11_copyHalf 188 = .ok (.iload_n 1, 1) := by decide +kernel
theorem dX11_copyHalf_189 : decode cX11_copyHalf 189 = .ok (.iaload, 1) := by decide +kernel
