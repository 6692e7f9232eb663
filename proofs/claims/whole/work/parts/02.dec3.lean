theorem dX11_copyHalf_190 : decode cX11_copyHalf 190 = .ok (.iastore, 1) := by decide +kernel
theorem dX11_copyHalf_191 : decode cX11_copyHalf 191 = .ok (.return_, 1) := by decide +kernel
theorem dX11_write_0 : decode cX11_write 0 = .ok (.iload_n 1, 1) := by decide +kernel
theorem dX11_write_1 : decode cX11_write 1 = .ok (.i2l, 1) := by decide +kernel
theorem dX11_write_2 : decode cX11_write 2 = .ok (.lconst 0, 1) := by decide +kernel
theorem dX11_write_3 : decode cX11_write 3 = .ok (.ldc2_w 66, 3) := by decide +kernel
theorem dX11_write_6 : decode cX11_write 6 = .ok (.invokestatic 68, 3) := by decide +kernel
theorem dX11_write_9 : decode cX11_write 9 = .ok (.ifCond .ne 6, 3) := by decide +kernel
theorem dX11_write_12 : decode cX11_write 12 = .ok (.bipush (-3), 2) := by decide +kernel
theorem dX11_write_14 : decode cX11_write 14 = .ok (.ireturn, 1) := by decide +kernel
theorem dX11_write_15 : decode cX11_write 15 = .ok (.aload_n 0, 1) := by decide +kernel
theorem dX11_write_16 : decode cX11_write 16 = .ok (.getfield 72, 3) := by decide +kernel
theorem dX11_write_19 : decode cX11_write 19 = .ok (.sipush 160, 3) := by decide +kernel
theorem dX11_write_22 : decode cX11_write 22 = .ok (.if_icmp .ne 6, 3) := by decide +kernel
theorem dX11_write_25 : decode cX11_write 25 = .ok (.bipush (-5), 2) := by decide +kernel
theorem dX11_write_27 : decode cX11_write 27 = .ok (.ireturn, 1) := by decide +kernel
theorem dX11_write_28 : decode cX11_write 28 = .ok (.aload_n 0, 1) := by decide +kernel
theorem dX11_write_29 : decode cX11_write 29 = .ok (.getfield 44, 3) := by decide +kernel
theorem dX11_write_32 : decode cX11_write 32 = .ok (.aload_n 0, 1) := by decide +kernel
theorem dX11_write_33 : decode cX11_write 33 = .ok (.getfield 72, 3) := by decide +kernel
theorem dX11_write_36 : decode cX11_write 36 = .ok (.iload_n 1, 1) := by decide +kernel
theorem dX11_write_37 : decode cX11_write 37 = .ok (.iastore, 1) := by decide +kernel
theorem dX11_write_38 : decode cX11_write 38 = .ok (.aload_n 0, 1) := by decide +kernel
theorem dX11_write_39 : decode cX11_write 39 = .ok (.dup, 1) := by decide +kernel
theorem dX11_write_40 : decode cX11_write 40 = .ok (.getfield 72, 3) := by decide +kernel
theorem dX11_write_43 : decode cX11_write 43 = .ok (.iconst 1, 1) := by decide +kernel
theorem dX11_write_44 : decode cX11_write 44 = .ok (.iadd, 1) := by decide +kernel
theorem dX11_write_45 : decode cX11_write 45 = .ok (.putfield 72, 3) := by decide +kernel
theorem dX11_write_48 : decode cX11_write 48 = .ok (.aload_n 0, 1) := by decide +kernel
theorem dX11_write_49 : decode cX11_write 49 = .ok (.getfield 72, 3) := by decide +kernel
theorem dX11_write_52 : decode cX11_write 52 = .ok (.ireturn, 1) := by decide +kernel
theorem dX11_erase_0 : decode cX11_erase 0 = .ok (.aload_n 0, 1) := by decide +kernel
theorem dX11_erase_1 : decode cX11_erase 1 = .ok (.getfield 72, 3) := by decide +kernel
theorem dX11_erase_4 : decode cX11_erase 4 = .ok (.istore_n 1, 1) := by decide +kernel
theorem dX11_erase_5 : decode cX11_erase 5 = .ok (.aload_n 0, 1) := by decide +kernel
theorem dX11_erase_6 : decode cX11_erase 6 = .ok (.iconst 0, 1) := by decide +kernel
theorem dX11_erase_7 : decode cX11_erase 7 = .ok (.putfield 72, 3) := by decide +kernel
theorem dX11_erase_10 : decode cX11_erase 10 = .ok (.iload_n 1, 1) := by decide +kernel
theorem dX11_erase_11 : decode cX11_erase 11 = .ok (.ireturn, 1) := by decide +kernel
theorem dX11_here_0 : decode cX11_here 0 = .ok (.aload_n 0, 1) := by decide +kernel
theorem dX11_here_1 : decode cX11_here 1 = .ok (.getfield 76, 3) := by decide +kernel
theorem dX11_here_4 : decode cX11_here 4 = .ok (.aload_n 0, 1) := by decide +kernel
theorem dX11_here_5 : decode cX11_here 5 = .ok (.getfield 72, 3) := by decide +kernel
theorem dX11_here_8 : decode cX11_here 8 = .ok (.if_icmp .ge 30, 3) := by decide +kernel
theorem dX11_here_11 : decode cX11_here 11 = .ok (.aload_n 0, 1) := by decide +kernel
theorem dX11_here_12 : decode cX11_here 12 = .ok (.getfield 44, 3) := by decide +kernel
theorem dX11_here_15 : decode cX11_here 15 = .ok (.aload_n 0, 1) := by decide +kernel
theorem dX11_here_16 : decode cX11_here 16 = .ok (.getfield 76, 3) := by decide +kernel
theorem dX11_here_19 : decode cX11_here 19 = .ok (.iaload, 1) := by decide +kernel
theorem dX11_here_20 : decode cX11_here 20 = .ok (.bipush 32, 2) := by decide +kernel
theorem dX11_here_22 : decode cX11_here 22 = .ok (.if_icmp .ne 16, 3) := by decide +kernel
theorem dX11_here_25 : decode cX11_here 25 = .ok (.aload_n 0, 1) := by decide +kernel
theorem dX11_here_26 : decode cX11_here 26 = .ok (.dup, 1) := by decide +kernel
theorem dX11_here_27 : decode cX11_here 27 = .ok (.getfield 76, 3) := by decide +kernel
theorem dX11_here_30 : decode cX11_here 30 = .ok (.iconst 1, 1) := by decide +kernel
theorem dX11_here_31 : decode cX11_here 31 = .ok (.iadd, 1) := by decide +kernel
theorem dX11_here_32 : decode cX11_here 32 = .ok (.putfield 76, 3) := by decide +kernel
theorem dX11_here_35 : decode cX11_here 35 = .ok (.goto (-35), 3) := by decide +kernel
theorem dX11_here_38 : decode cX11_here 38 = .ok (.aload_n 0, 1) := by decide +kernel
theorem dX11_here_39 : decode cX11_here 39 = .ok (.aload_n 0, 1) := by decide +kernel
theorem dX11_here_40 : decode cX11_here 40 = .ok (.getfield 76, 3) := by decide +kernel
theorem dX11_here_43 : decode cX11_here 43 = .ok (.putfield 79, 3) := by decide +kernel
theorem dX11_here_46 : decode cX11_here 46 = .ok (.aload_n 0, 1) := by decide +kernel
theorem dX11_here_47 : decode cX11_here 47 = .ok (.getfield 76, 3) := by decide +kernel
theorem dX11_here_50 : decode cX11_here 50 = .ok (.aload_n 0, 1) := by decide +kernel
theorem dX11_here_51 : decode cX11_here 51 = .ok (.getfield 72, 3) := by decide +kernel
theorem dX11_here_54 : decode cX11_here 54 = .ok (.if_icmp .ge 15, 3) := by decide +kernel
theorem dX11_here_57 : decode cX11_here 57 = .ok (.aload_n 0, 1) := by decide +kernel
theorem dX11_here_58 : decode cX11_here 58 = .ok (.getfield 44, 3) := by decide +kernel
theorem dX11_here_61 : decode cX11_here 61 = .ok (.aload_n 0, 1) := by decide +kernel
theorem dX11_here_62 : decode cX11_here 62 = .ok (.getfield 76, 3) := by decide +kernel
theorem dX11_here_65 : decode cX11_here 65 = .ok (.iaload, 1) := by decide +kernel
theorem dX11_here_66 : decode cX11_here 66 = .ok (.goto 4, 3) := by decide +kernel
theorem dX11_here_69 : decode cX11_here 69 = .ok (.iconst (-1), 1) := by decide +kernel
theorem dX11_here_70 : decode cX11_here 70 = .ok (.ireturn, 1) := by decide +kernel
theorem dX11_take_0 : decode cX11_take 0 = .ok (.aload_n 0, 1) := by decide +kernel
theorem dX11_take_1 : decode cX11_take 1 = .ok (.getfield 82, 3) := by decide +kernel
theorem dX11_take_4 : decode cX11_take 4 = .ok (.ifCond .eq 5, 3) := by decide +kernel
theorem dX11_take_7 : decode cX11_take 7 = .ok (.iconst 0, 1) := by decide +kernel
theorem dX11_take_8 : decode cX11_take 8 = .ok (.ireturn, 1) := by decide +kernel
theorem dX11_take_9 : decode cX11_take 9 = .ok (.aload_n 0, 1) := by decide +kernel
theorem dX11_take_10 : decode cX11_take 10 = .ok (.invokevirtual 86, 3) := by decide +kernel
theorem dX11_take_13 : decode cX11_take 13 = .ok (.istore_n 3, 1) := by decide +kernel
theorem dX11_take_14 : decode cX11_take 14 = .ok (.iconst 0, 1) := by decide +kernel
theorem dX11_take_15 : decode cX11_take 15 = .ok (.istore 4, 2) := by decide +kernel
theorem dX11_take_17 : decode cX11_take 17 = .ok (.iconst 0, 1) := by decide +kernel
theorem dX11_take_18 : decode cX11_take 18 = .ok (.istore 5, 2) := by decide +kernel
theorem dX11_take_20 : decode cX11_take 20 = .ok (.aload_n 0, 1) := by decide +kernel
theorem dX11_take_21 : decode cX11_take 21 = .ok (.getfield 76, 3) := by decide +kernel
theorem dX11_take_24 : decode cX11_take 24 = .ok (.aload_n 0, 1) := by decide +kernel
theorem dX11_take_25 : decode cX11_take 25 = .ok (.getfield 72, 3) := by decide +kernel
theorem dX11_take_28 : decode cX11_take 28 = .ok (.if_icmp .ge 74, 3) := by decide +kernel
theorem dX11_take_31 : decode cX11_take 31 = .ok (.aload_n 0, 1) := by decide +kernel
theorem dX11_take_32 : decode cX11_take 32 = .ok (.getfield 44, 3) := by decide +kernel
theorem dX11_take_35 : decode cX11_take 35 = .ok (.aload_n 0, 1) := by decide +kernel
theorem dX11_take_36 : decode cX11_take 36 = .ok (.getfield 76, 3) := by decide +kernel
theorem dX11_take_39 : decode cX11_take 39 = .ok (.iaload, 1) := by decide +kernel
theorem dX11_take_40 : decode cX11_take 40 = .ok (.i2l, 1) := by decide +kernel
theorem dX11_take_41 : decode cX11_take 41 = .ok (.ldc2_w 90, 3) := by decide +kernel
theorem dX11_take_44 : decode cX11_take 44 = .ok (.ldc2_w 92, 3) := by decide +kernel
theorem dX11_take_47 : decode cX11_take 47 = .ok (.invokestatic 68, 3) := by decide +kernel
theorem dX11_take_50 : decode cX11_take 50 = .ok (.ifCond .eq 52, 3) := by decide +kernel
theorem dX11_take_53 : decode cX11_take 53 = .ok (.iload 4, 2) := by decide +kernel
theorem dX11_take_55 : decode cX11_take 55 = .ok (.sipush 999, 3) := by decide +kernel
theorem dX11_take_58 : decode cX11_take 58 = .ok (.if_icmp .le 8, 3) := by decide +kernel
theorem dX11_take_61 : decode cX11_take 61 = .ok (.iload 4, 2) := by decide +kernel
theorem dX11_take_63 : decode cX11_take 63 = .ok (.goto 21, 3) := by decide +kernel
theorem dX11_take_66 : decode cX11_take 66 = .ok (.bipush 10, 2) := by decide +kernel
theorem dX11_take_68 : decode cX11_take 68 = .ok (.iload 4, 2) := by decide +kernel
theorem dX11_take_70 : decode cX11_take 70 = .ok (.imul, 1) := by decide +kernel
theorem dX11_take_71 : decode cX11_take 71 = .ok (.aload_n 0, 1) := by decide +kernel
theorem dX11_take_72 : decode cX11_take 72 = .ok (.getfield 44, 3) := by decide +kernel
theorem dX11_take_75 : decode cX11_take 75 = .ok (.aload_n 0, 1) := by decide +kernel
theorem dX11_take_76 : decode cX11_take 76 = .ok (.getfield 76, 3) := by decide +kernel
theorem dX11_take_79 : decode cX11_take 79 = .ok (.iaload, 1) := by decide +kernel
theorem dX11_take_80 : decode cX11_take 80 = .ok (.iadd, 1) := by decide +kernel
theorem dX11_take_81 : decode cX11_take 81 = .ok (.bipush 48, 2) := by decide +kernel
theorem dX11_take_83 : decode cX11_take 83 = .ok (.isub, 1) := by decide +kernel
theorem dX11_take_84 : decode cX11_take 84 = .ok (.istore 4, 2) := by decide +kernel
theorem dX11_take_86 : decode cX11_take 86 = .ok (.iinc 5 1, 3) := by decide +kernel
theorem dX11_take_89 : decode cX11_take 89 = .ok (.aload_n 0, 1) := by decide +kernel
theorem dX11_take_90 : decode cX11_take 90 = .ok (.dup, 1) := by decide +kernel
theorem dX11_take_91 : decode cX11_take 91 = .ok (.getfield 76, 3) := by decide +kernel
theorem dX11_take_94 : decode cX11_take 94 = .ok (.iconst 1, 1) := by decide +kernel
theorem dX11_take_95 : decode cX11_take 95 = .ok (.iadd, 1) := by decide +kernel
theorem dX11_take_96 : decode cX11_take 96 = .ok (.putfield 76, 3) := by decide +kernel
theorem dX11_take_99 : decode cX11_take 99 = .ok (.goto (-79), 3) := by decide +kernel
theorem dX11_take_102 : decode cX11_take 102 = .ok (.aload_n 0, 1) := by decide +kernel
theorem dX11_take_103 : decode cX11_take 103 = .ok (.iload 5, 2) := by decide +kernel
theorem dX11_take_105 : decode cX11_take 105 = .ok (.i2l, 1) := by decide +kernel
theorem dX11_take_106 : decode cX11_take 106 = .ok (.lconst 1, 1) := by decide +kernel
theorem dX11_take_107 : decode cX11_take 107 = .ok (.ldc2_w 94, 3) := by decide +kernel
theorem dX11_take_110 : decode cX11_take 110 = .ok (.invokestatic 68, 3) := by decide +kernel
theorem dX11_take_113 : decode cX11_take 113 = .ok (.ifCond .eq 16, 3) := by decide +kernel
theorem dX11_take_116 : decode cX11_take 116 = .ok (.iload 4, 2) := by decide +kernel
theorem dX11_take_118 : decode cX11_take 118 = .ok (.i2l, 1) := by decide +kernel
theorem dX11_take_119 : decode cX11_take 119 = .ok (.iload_n 1, 1) := by decide +kernel
theorem dX11_take_120 : decode cX11_take 120 = .ok (.i2l, 1) := by decide +kernel
theorem dX11_take_121 : decode cX11_take 121 = .ok (.iload_n 2, 1) := by decide +kernel
theorem dX11_take_122 : decode cX11_take 122 = .ok (.i2l, 1) := by decide +kernel
theorem dX11_take_123 : decode cX11_take 123 = .ok (.invokestatic 68, 3) := by decide +kernel
theorem dX11_take_126 : decode cX11_take 126 = .ok (.ifCond .ne 7, 3) := by decide +kernel
theorem dX11_take_129 : decode cX11_take 129 = .ok (.iconst 1, 1) := by decide +kernel
theorem dX11_take_130 : decode cX11_take 130 = .ok (.goto 4, 3) := by decide +kernel
theorem dX11_take_133 : decode cX11_take 133 = .ok (.iconst 0, 1) := by decide +kernel
theorem dX11_take_134 : decode cX11_take 134 = .ok (.putfield 82, 3) := by decide +kernel
theorem dX11_take_137 : decode cX11_take 137 = .ok (.iload 4, 2) := by decide +kernel
theorem dX11_take_139 : decode cX11_take 139 = .ok (.ireturn, 1) := by decide +kernel
theorem dX11_word_0 : decode cX11_word 0 = .ok (.aload_n 0, 1) := by decide +kernel
theorem dX11_word_1 : decode cX11_word 1 = .ok (.invokevirtual 86, 3) := by decide +kernel
theorem dX11_word_4 : decode cX11_word 4 = .ok (.istore_n 1, 1) := by decide +kernel
theorem dX11_word_5 : decode cX11_word 5 = .ok (.iconst 0, 1) := by decide +kernel
theorem dX11_word_6 : decode cX11_word 6 = .ok (.istore_n 2, 1) := by decide +kernel
theorem dX11_word_7 : decode cX11_word 7 = .ok (.iconst 0, 1) := by decide +kernel
theorem dX11_word_8 : decode cX11_word 8 = .ok (.istore_n 3, 1) := by decide +kernel
theorem dX11_word_9 : decode cX11_word 9 = .ok (.aload_n 0, 1) := by decide +kernel
theorem dX11_word_10 : decode cX11_word 10 = .ok (.getfield 76, 3) := by decide +kernel
theorem dX11_word_13 : decode cX11_word 13 = .ok (.aload_n 0, 1) := by decide +kernel
theorem dX11_word_14 : decode cX11_word 14 = .ok (.getfield 72, 3) := by decide +kernel
theorem dX11_word_17 : decode cX11_word 17 = .ok (.if_icmp .ge 69, 3) := by decide +kernel
theorem dX11_word_20 : decode cX11_word 20 = .ok (.aload_n 0, 1) := by decide +kernel
theorem dX11_word_21 : decode cX11_word 21 = .ok (.getfield 44, 3) := by decide +kernel
theorem dX11_word_24 : decode cX11_word 24 = .ok (.aload_n 0, 1) := by decide +kernel
theorem dX11_word_25 : decode cX11_word 25 = .ok (.getfield 76, 3) := by decide +kernel
theorem dX11_word_28 : decode cX11_word 28 = .ok (.iaload, 1) := by decide +kernel
theorem dX11_word_29 : decode cX11_word 29 = .ok (.i2l, 1) := by decide +kernel
theorem dX11_word_30 : decode cX11_word 30 = .ok (.ldc2_w 96, 3) := by decide +kernel
theorem dX11_word_33 : decode cX11_word 33 = .ok (.ldc2_w 98, 3) := by decide +kernel
theorem dX11_word_36 : decode cX11_word 36 = .ok (.invokestatic 68, 3) := by decide +kernel
theorem dX11_word_39 : decode cX11_word 39 = .ok (.ifCond .eq 47, 3) := by decide +kernel
theorem dX11_word_42 : decode cX11_word 42 = .ok (.iload_n 3, 1) := by decide +kernel
theorem dX11_word_43 : decode cX11_word 43 = .ok (.bipush 6, 2) := by decide +kernel
theorem dX11_word_45 : decode cX11_word 45 = .ok (.if_icmp .ge 23, 3) := by decide +kernel
theorem dX11_word_48 : decode cX11_word 48 = .ok (.bipush 27, 2) := by decide +kernel
theorem dX11_word_50 : decode cX11_word 50 = .ok (.iload_n 2, 1) := by decide +kernel
theorem dX11_word_51 : decode cX11_word 51 = .ok (.imul, 1) := by decide +kernel
theorem dX11_word_52 : decode cX11_word 52 = .ok (.aload_n 0, 1) := by decide +kernel
theorem dX11_word_53 : decode cX11_word 53 = .ok (.getfield 44, 3) := by decide +kernel
theorem dX11_word_56 : decode cX11_word 56 = .ok (.aload_n 0, 1) := by decide +kernel
theorem dX11_word_57 : decode cX11_word 57 = .ok (.getfield 76, 3) := by decide +kernel
theorem dX11_word_60 : decode cX11_word 60 = .ok (.iaload, 1) := by decide +kernel
theorem dX11_word_61 : decode cX11_word 61 = .ok (.iadd, 1) := by decide +kernel
theorem dX11_word_62 : decode cX11_word 62 = .ok (.bipush 96, 2) := by decide +kernel
theorem dX11_word_64 : decode cX11_word 64 = .ok (.isub, 1) := by decide +kernel
theorem dX11_word_65 : decode cX11_word 65 = .ok (.goto 4, 3) := by decide +kernel
theorem dX11_word_68 : decode cX11_word 68 = .ok (.iload_n 2, 1) := by decide +kernel
theorem dX11_word_69 : decode cX11_word 69 = .ok (.istore_n 2, 1) := by decide +kernel
theorem dX11_word_70 : decode cX11_word 70 = .ok (.iinc 3 1, 3) := by decide +kernel
theorem dX11_word_73 : decode cX11_word 73 = .ok (.aload_n 0, 1) := by decide +kernel
theorem dX11_word_74 : decode cX11_word 74 = .ok (.dup, 1) := by decide +kernel
theorem dX11_word_75 : decode cX11_word 75 = .ok (.getfield 76, 3) := by decide +kernel
theorem dX11_word_78 : decode cX11_word 78 = .ok (.iconst 1, 1) := by decide +kernel
theorem dX11_word_79 : decode cX11_word 79 = .ok (.iadd, 1) := by decide +kernel
theorem dX11_word_80 : decode cX11_word 80 = .ok (.putfield 76, 3) := by decide +kernel
theorem dX11_word_83 : decode cX11_word 83 = .ok (.goto (-74), 3) := by decide +kernel
theorem dX11_word_86 : decode cX11_word 86 = .ok (.iload_n 3, 1) := by decide +kernel
theorem dX11_word_87 : decode cX11_word 87 = .ok (.bipush 7, 2) := by decide +kernel
theorem dX11_word_89 : decode cX11_word 89 = .ok (.if_icmp .le 7, 3) := by decide +kernel
theorem dX11_word_92 : decode cX11_word 92 = .ok (.iconst 0, 1) := by decide +kernel
theorem dX11_word_93 : decode cX11_word 93 = .ok (.goto 15, 3) := by decide +kernel
theorem dX11_word_96 : decode cX11_word 96 = .ok (.iload_n 3, 1) := by decide +kernel
theorem dX11_word_97 : decode cX11_word 97 = .ok (.bipush 7, 2) := by decide +kernel
theorem dX11_word_99 : decode cX11_word 99 = .ok (.if_icmp .ne 8, 3) := by decide +kernel
theorem dX11_word_102 : decode cX11_word 102 = .ok (.iload_n 2, 1) := by decide +kernel
theorem dX11_word_103 : decode cX11_word 103 = .ok (.ineg, 1) := by decide +kernel
theorem dX11_word_104 : decode cX11_word 104 = .ok (.goto 4, 3) := by decide +kernel
theorem dX11_word_107 : decode cX11_word 107 = .ok (.iload_n 2, 1) := by decide +kernel
theorem dX11_word_108 : decode cX11_word 108 = .ok (.ireturn, 1) := by decide +kernel
theorem dX11_wordOf_0 : decode cX11_wordOf 0 = .ok (.bipush 27, 2) := by decide +kernel
theorem dX11_wordOf_2 : decode cX11_wordOf 2 = .ok (.bipush 27, 2) := by decide +kernel
theorem dX11_wordOf_4 : decode cX11_wordOf 4 = .ok (.iload_n 0, 1) := by decide +kernel
theorem dX11_wordOf_5 : decode cX11_wordOf 5 = .ok (.bipush 96, 2) := by decide +kernel
theorem dX11_wordOf_7 : decode cX11_wordOf 7 = .ok (.isub, 1) := by decide +kernel
theorem dX11_wordOf_8 : decode cX11_wordOf 8 = .ok (.imul, 1) := by decide +kernel
theorem dX11_wordOf_9 : decode cX11_wordOf 9 = .ok (.iload_n 1, 1) := by decide +kernel
theorem dX11_wordOf_10 : decode cX11_wordOf 10 = .ok (.iadd, 1) := by decide +kernel
theorem dX11_wordOf_11 : decode cX11_wordOf 11 = .ok (.bipush 96, 2) := by decide +kernel
theorem dX11_wordOf_13 : decode cX11_wordOf 13 = .ok (.isub, 1) := by decide +kernel
theorem dX11_wordOf_14 : decode cX11_wordOf 14 = .ok (.imul, 1) := by decide +kernel
theorem dX11_wordOf_15 : decode cX11_wordOf 15 = .ok (.iload_n 2, 1) := by decide +kernel
theorem dX11_wordOf_16 : decode cX11_wordOf 16 = .ok (.iadd, 1) := by decide +kernel
theorem dX11_wordOf_17 : decode cX11_wordOf 17 = .ok (.bipush 96, 2) := by decide +kernel
theorem dX11_wordOf_19 : decode cX11_wordOf 19 = .ok (.isub, 1) := by decide +kernel
theorem dX11_wordOf_20 : decode cX11_wordOf 20 = .ok (.istore 6, 2) := by decide +kernel
theorem dX11_wordOf_22 : decode cX11_wordOf 22 = .ok (.bipush 27, 2) := by decide +kernel
theorem dX11_wordOf_24 : decode cX11_wordOf 24 = .ok (.iload 6, 2) := by decide +kernel
theorem dX11_wordOf_26 : decode cX11_wordOf 26 = .ok (.imul, 1) := by decide +kernel
theorem dX11_wordOf_27 : decode cX11_wordOf 27 = .ok (.iload_n 3, 1) := by decide +kernel
theorem dX11_wordOf_28 : decode cX11_wordOf 28 = .ok (.iadd, 1) := by decide +kernel
theorem dX11_wordOf_29 : decode cX11_wordOf 29 = .ok (.bipush 96, 2) := by decide +kernel
theorem dX11_wordOf_31 : decode cX11_wordOf 31 = .ok (.isub, 1) := by decide +kernel
theorem dX11_wordOf_32 : decode cX11_wordOf 32 = .ok (.istore 6, 2) := by decide +kernel
theorem dX11_wordOf_34 : decode cX11_wordOf 34 = .ok (.iload 4, 2) := by decide +kernel
theorem dX11_wordOf_36 : decode cX11_wordOf 36 = .ok (.ifCond .ne 8, 3) := by decide +kernel
theorem dX11_wordOf_39 : decode cX11_wordOf 39 = .ok (.iload 6, 2) := by decide +kernel
theorem dX11_wordOf_41 : decode cX11_wordOf 41 = .ok (.goto 14, 3) := by decide +kernel
theorem dX11_wordOf_44 : decode cX11_wordOf 44 = .ok (.bipush 27, 2) := by decide +kernel
theorem dX11_wordOf_46 : decode cX11_wordOf 46 = .ok (.iload 6, 2) := by decide +kernel
theorem dX11_wordOf_48 : decode cX11_wordOf 48 = .ok (.imul, 1) := by decide +kernel
theorem dX11_wordOf_49 : decode cX11_wordOf 49 = .ok (.iload 4, 2) := by decide +kernel
theorem dX11_wordOf_51 : decode cX11_wordOf 51 = .ok (.iadd, 1) := by decide +kernel
theorem dX11_wordOf_52 : decode cX11_wordOf 52 = .ok (.bipush 96, 2) := by decide +kernel
theorem dX11_wordOf_54 : decode cX11_wordOf 54 = .ok (.isub, 1) := by decide +kernel
theorem dX11_wordOf_55 : decode cX11_wordOf 55 = .ok (.istore 6, 2) := by decide +kernel
theorem dX11_wordOf_57 : decode cX11_wordOf 57 = .ok (.iload 5, 2) := by decide +kernel
theorem dX11_wordOf_59 : decode cX11_wordOf 59 = .ok (.ifCond .ne 8, 3) := by decide +kernel
theorem dX11_wordOf_62 : decode cX11_wordOf 62 = .ok (.iload 6, 2) := by decide +kernel
theorem dX11_wordOf_64 : decode cX11_wordOf 64 = .ok (.goto 14, 3) := by decide +kernel
theorem dX11_wordOf_67 : decode cX11_wordOf 67 = .ok (.bipush 27, 2) := by decide +kernel
theorem dX11_wordOf_69 : decode cX11_wordOf 69 = .ok (.iload 6, 2) := by decide +kernel
theorem dX11_wordOf_71 : decode cX11_wordOf 71 = .ok (.imul, 1) := by decide +kernel
theorem dX11_wordOf_72 : decode cX11_wordOf 72 = .ok (.iload 5, 2) := by decide +kernel
theorem dX11_wordOf_74 : decode cX11_wordOf 74 = .ok (.iadd, 1) := by decide +kernel
theorem dX11_wordOf_75 : decode cX11_wordOf 75 = .ok (.bipush 96, 2) := by decide +kernel
theorem dX11_wordOf_77 : decode cX11_wordOf 77 = .ok (.isub, 1) := by decide +kernel
theorem dX11_wordOf_78 : decode cX11_wordOf 78 = .ok (.ireturn, 1) := by decide +kernel
theorem dX11_kindOf_0 : decode cX11_kindOf 0 = .ok (.iload_n 0, 1) := by decide +kernel
theorem dX11_kindOf_1 : decode cX11_kindOf 1 = .ok (.bipush 112, 2) := by decide +kernel
theorem dX11_kindOf_3 : decode cX11_kindOf 3 = .ok (.bipush 108, 2) := by decide +kernel
theorem dX11_kindOf_5 : decode cX11_kindOf 5 = .ok (.bipush 97, 2) := by decide +kernel
theorem dX11_kindOf_7 : decode cX11_kindOf 7 = .ok (.bipush 105, 2) := by decide +kernel
theorem dX11_kindOf_9 : decode cX11_kindOf 9 = .ok (.bipush 110, 2) := by decide +kernel
theorem dX11_kindOf_11 : decode cX11_kindOf 11 = .ok (.iconst 0, 1) := by decide +kernel
theorem dX11_kindOf_12 : decode cX11_kindOf 12 = .ok (.invokestatic 100, 3) := by decide +kernel
theorem dX11_kindOf_15 : decode cX11_kindOf 15 = .ok (.if_icmp .ne 5, 3) := by decide +kernel
theorem dX11_kindOf_18 : decode cX11_kindOf 18 = .ok (.iconst 0, 1) := by decide +kernel
theorem dX11_kindOf_19 : decode cX11_kindOf 19 = .ok (.ireturn, 1) := by decide +kernel
theorem dX11_kindOf_20 : decode cX11_kindOf 20 = .ok (.iload_n 0, 1) := by decide +kernel
theorem dX11_kindOf_21 : decode cX11_kindOf 21 = .ok (.bipush 109, 2) := by decide +kernel
theorem dX11_kindOf_23 : decode cX11_kindOf 23 = .ok (.bipush 117, 2) := by decide +kernel
theorem dX11_kindOf_25 : decode cX11_kindOf 25 = .ok (.bipush 115, 2) := by decide +kernel
theorem dX11_kindOf_27 : decode cX11_kindOf 27 = .ok (.bipush 107, 2) := by decide +kernel
theorem dX11_kindOf_29 : decode cX11_kindOf 29 = .ok (.iconst 0, 1) := by decide +kernel
theorem dX11_kindOf_30 : decode cX11_kindOf 30 = .ok (.iconst 0, 1) := by decide +kernel
theorem dX11_kindOf_31 : decode cX11_kindOf 31 = .ok (.invokestatic 100, 3) := by decide +kernel
theorem dX11_kindOf_34 : decode cX11_kindOf 34 = .ok (.if_icmp .ne 5, 3) := by decide +kernel
theorem dX11_kindOf_37 : decode cX11_kindOf 37 = .ok (.iconst 1, 1) := by decide +kernel
theorem dX11_kindOf_38 : decode cX11_kindOf 38 = .ok (.ireturn, 1) := by decide +kernel
theorem dX11_kindOf_39 : decode cX11_kindOf 39 = .ok (.iload_n 0, 1) := by decide +kernel
theorem dX11_kindOf_40 : decode cX11_kindOf 40 = .ok (.bipush 99, 2) := by decide +kernel
theorem dX11_kindOf_42 : decode cX11_kindOf 42 = .ok (.bipush 111, 2) := by decide +kernel
theorem dX11_kindOf_44 : decode cX11_kindOf 44 = .ok (.bipush 102, 2) := by decide +kernel
theorem dX11_kindOf_46 : decode cX11_kindOf 46 = .ok (.bipush 102, 2) := by decide +kernel
theorem dX11_kindOf_48 : decode cX11_kindOf 48 = .ok (.bipush 101, 2) := by decide +kernel
theorem dX11_kindOf_50 : decode cX11_kindOf 50 = .ok (.bipush 101, 2) := by decide +kernel
theorem dX11_kindOf_52 : decode cX11_kindOf 52 = .ok (.invokestatic 100, 3) := by decide +kernel
theorem dX11_kindOf_55 : decode cX11_kindOf 55 = .ok (.if_icmp .ne 5, 3) := by decide +kernel
theorem dX11_kindOf_58 : decode cX11_kindOf 58 = .ok (.iconst 2, 1) := by decide +kernel
theorem dX11_kindOf_59 : decode cX11_kindOf 59 = .ok (.ireturn, 1) := by decide +kernel
theorem dX11_kindOf_60 : decode cX11_kindOf 60 = .ok (.iload_n 0, 1) := by decide +kernel
theorem dX11_kindOf_61 : decode cX11_kindOf 61 = .ok (.bipush 110, 2) := by decide +kernel
theorem dX11_kindOf_63 : decode cX11_kindOf 63 = .ok (.bipush 111, 2) := by decide +kernel
theorem dX11_kindOf_65 : decode cX11_kindOf 65 = .ok (.bipush 116, 2) := by decide +kernel
theorem dX11_kindOf_67 : decode cX11_kindOf 67 = .ok (.bipush 104, 2) := by decide +kernel
theorem dX11_kindOf_69 : decode cX11_kindOf 69 = .ok (.bipush 105, 2) := by decide +kernel
theorem dX11_kindOf_71 : decode cX11_kindOf 71 = .ok (.bipush 110, 2) := by decide +kernel
theorem dX11_kindOf_73 : decode cX11_kindOf 73 = .ok (.invokestatic 100, 3) := by decide +kernel
theorem dX11_kindOf_76 : decode cX11_kindOf 76 = .ok (.ineg, 1) := by decide +kernel
theorem dX11_kindOf_77 : decode cX11_kindOf 77 = .ok (.if_icmp .ne 13, 3) := by decide +kernel
theorem dX11_kindOf_80 : decode cX11_kindOf 80 = .ok (.iload_n 1, 1) := by decide +kernel
theorem dX11_kindOf_81 : decode cX11_kindOf 81 = .ok (.bipush 103, 2) := by decide +kernel
theorem dX11_kindOf_83 : decode cX11_kindOf 83 = .ok (.if_icmp .ne 7, 3) := by decide +kernel
theorem dX11_kindOf_86 : decode cX11_kindOf 86 = .ok (.iconst 3, 1) := by decide +kernel
theorem dX11_kindOf_87 : decode cX11_kindOf 87 = .ok (.goto 4, 3) := by decide +kernel
theorem dX11_kindOf_90 : decode cX11_kindOf 90 = .ok (.iconst (-1), 1) := by decide +kernel
theorem dX11_kindOf_91 : decode cX11_kindOf 91 = .ok (.ireturn, 1) := by decide +kernel
theorem dX11_newShop_0 : decode cX11_newShop 0 = .ok (.bipush 6, 2) := by decide +kernel
theorem dX11_newShop_2 : decode cX11_newShop 2 = .ok (.aload_n 0, 1) := by decide +kernel
theorem dX11_newShop_3 : decode cX11_newShop 3 = .ok (.getfield 35, 3) := by decide +kernel
theorem dX11_newShop_6 : decode cX11_newShop 6 = .ok (.iconst 1, 1) := by decide +kernel
theorem dX11_newShop_7 : decode cX11_newShop 7 = .ok (.iaload, 1) := by decide +kernel
theorem dX11_newShop_8 : decode cX11_newShop 8 = .ok (.iadd, 1) := by decide +kernel
theorem dX11_newShop_9 : decode cX11_newShop 9 = .ok (.istore_n 2, 1) := by decide +kernel
theorem dX11_newShop_10 : decode cX11_newShop 10 = .ok (.aload_n 0, 1) := by decide +kernel
theorem dX11_newShop_11 : decode cX11_newShop 11 = .ok (.getfield 23, 3) := by decide +kernel
theorem dX11_newShop_14 : decode cX11_newShop 14 = .ok (.iload_n 2, 1) := by decide +kernel
theorem dX11_newShop_15 : decode cX11_newShop 15 = .ok (.iload_n 1, 1) := by decide +kernel
theorem dX11_newShop_16 : decode cX11_newShop 16 = .ok (.iastore, 1) := by decide +kernel
theorem dX11_newShop_17 : decode cX11_newShop 17 = .ok (.aload_n 0, 1) := by decide +kernel
theorem dX11_newShop_18 : decode cX11_newShop 18 = .ok (.getfield 26, 3) := by decide +kernel
theorem dX11_newShop_21 : decode cX11_newShop 21 = .ok (.iload_n 2, 1) := by decide +kernel
theorem dX11_newShop_22 : decode cX11_newShop 22 = .ok (.aload_n 0, 1) := by decide +kernel
theorem dX11_newShop_23 : decode cX11_newShop 23 = .ok (.iconst 0, 1) := by decide +kernel
theorem dX11_newShop_24 : decode cX11_newShop 24 = .ok (.iconst 3, 1) := by decide +kernel
theorem dX11_newShop_25 : decode cX11_newShop 25 = .ok (.invokevirtual 104, 3) := by decide +kernel
theorem dX11_newShop_28 : decode cX11_newShop 28 = .ok (.iastore, 1) := by decide +kernel
theorem dX11_newShop_29 : decode cX11_newShop 29 = .ok (.aload_n 0, 1) := by decide +kernel
theorem dX11_newShop_30 : decode cX11_newShop 30 = .ok (.getfield 29, 3) := by decide +kernel
theorem dX11_newShop_33 : decode cX11_newShop 33 = .ok (.iload_n 2, 1) := by decide +kernel
theorem dX11_newShop_34 : decode cX11_newShop 34 = .ok (.aload_n 0, 1) := by decide +kernel
theorem dX11_newShop_35 : decode cX11_newShop 35 = .ok (.iconst 1, 1) := by decide +kernel
theorem dX11_newShop_36 : decode cX11_newShop 36 = .ok (.bipush 30, 2) := by decide +kernel
theorem dX11_newShop_38 : decode cX11_newShop 38 = .ok (.invokevirtual 104, 3) := by decide +kernel
theorem dX11_newShop_41 : decode cX11_newShop 41 = .ok (.iastore, 1) := by decide +kernel
theorem dX11_newShop_42 : decode cX11_newShop 42 = .ok (.aload_n 0, 1) := by decide +kernel
theorem dX11_newShop_43 : decode cX11_newShop 43 = .ok (.getfield 32, 3) := by decide +kernel
theorem dX11_newShop_46 : decode cX11_newShop 46 = .ok (.iload_n 2, 1) := by decide +kernel
theorem dX11_newShop_47 : decode cX11_newShop 47 = .ok (.aload_n 0, 1) := by decide +kernel
theorem dX11_newShop_48 : decode cX11_newShop 48 = .ok (.iconst 0, 1) := by decide +kernel
theorem dX11_newShop_49 : decode cX11_newShop 49 = .ok (.bipush 50, 2) := by decide +kernel
theorem dX11_newShop_51 : decode cX11_newShop 51 = .ok (.invokevirtual 104, 3) := by decide +kernel
theorem dX11_newShop_54 : decode cX11_newShop 54 = .ok (.iastore, 1) := by decide +kernel
theorem dX11_newShop_55 : decode cX11_newShop 55 = .ok (.aload_n 0, 1) := by decide +kernel
theorem dX11_newShop_56 : decode cX11_newShop 56 = .ok (.getfield 35, 3) := by decide +kernel
theorem dX11_newShop_59 : decode cX11_newShop 59 = .ok (.iconst 1, 1) := by decide +kernel
theorem dX11_newShop_60 : decode cX11_newShop 60 = .ok (.dup2, 1) := by decide +kernel
theorem dX11_newShop_61 : decode cX11_newShop 61 = .ok (.iaload, 1) := by decide +kernel
theorem dX11_newShop_62 : decode cX11_newShop 62 = .ok (.iconst 1, 1) := by decide +kernel
theorem dX11_newShop_63 : decode cX11_newShop 63 = .ok (.iadd, 1) := by decide +kernel
theorem dX11_newShop_64 : decode cX11_newShop 64 = .ok (.iastore, 1) := by decide +kernel
theorem dX11_newShop_65 : decode cX11_newShop 65 = .ok (.return_, 1) := by decide +kernel
theorem dX11_newSort_0 : decode cX11_newSort 0 = .ok (.aload_n 0, 1) := by decide +kernel
theorem dX11_newSort_1 : decode cX11_newSort 1 = .ok (.iconst 0, 1) := by decide +kernel
theorem dX11_newSort_2 : decode cX11_newSort 2 = .ok (.iconst 3, 1) := by decide +kernel
theorem dX11_newSort_3 : decode cX11_newSort 3 = .ok (.invokevirtual 104, 3) := by decide +kernel
theorem dX11_newSort_6 : decode cX11_newSort 6 = .ok (.istore_n 1, 1) := by decide +kernel
theorem dX11_newSort_7 : decode cX11_newSort 7 = .ok (.aload_n 0, 1) := by decide +kernel
theorem dX11_newSort_8 : decode cX11_newSort 8 = .ok (.iconst 0, 1) := by decide +kernel
theorem dX11_newSort_9 : decode cX11_newSort 9 = .ok (.bipush 9, 2) := by decide +kernel
theorem dX11_newSort_11 : decode cX11_newSort 11 = .ok (.invokevirtual 104, 3) := by decide +kernel
theorem dX11_newSort_14 : decode cX11_newSort 14 = .ok (.istore_n 2, 1) := by decide +kernel
theorem dX11_newSort_15 : decode cX11_newSort 15 = .ok (.aload_n 0, 1) := by decide +kernel
theorem dX11_newSort_16 : decode cX11_newSort 16 = .ok (.iconst 0, 1) := by decide +kernel
theorem dX11_newSort_17 : decode cX11_newSort 17 = .ok (.iconst 5, 1) := by decide +kernel
theorem dX11_newSort_18 : decode cX11_newSort 18 = .ok (.invokevirtual 104, 3) := by decide +kernel
theorem dX11_newSort_21 : decode cX11_newSort 21 = .ok (.istore_n 3, 1) := by decide +kernel
theorem dX11_newSort_22 : decode cX11_newSort 22 = .ok (.aload_n 0, 1) := by decide +kernel
theorem dX11_newSort_23 : decode cX11_newSort 23 = .ok (.getfield 82, 3) := by decide +kernel
theorem dX11_newSort_26 : decode cX11_newSort 26 = .ok (.ifCond .ne 21, 3) := by decide +kernel
theorem dX11_newSort_29 : decode cX11_newSort 29 = .ok (.aload_n 0, 1) := by decide +kernel
theorem dX11_newSort_30 : decode cX11_newSort 30 = .ok (.getfield 17, 3) := by decide +kernel
theorem dX11_newSort_33 : decode cX11_newSort 33 = .ok (.iconst 4, 1) := by decide +kernel
theorem dX11_newSort_34 : decode cX11_newSort 34 = .ok (.iload_n 1, 1) := by decide +kernel
theorem dX11_newSort_35 : decode cX11_newSort 35 = .ok (.iadd, 1) := by decide +kernel
theorem dX11_newSort_36 : decode cX11_newSort 36 = .ok (.iload_n 2, 1) := by decide +kernel
theorem dX11_newSort_37 : decode cX11_newSort 37 = .ok (.iastore, 1) := by decide +kernel
theorem dX11_newSort_38 : decode cX11_newSort 38 = .ok (.aload_n 0, 1) := by decide +kernel
theorem dX11_newSort_39 : decode cX11_newSort 39 = .ok (.getfield 20, 3) := by decide +kernel
theorem dX11_newSort_42 : decode cX11_newSort 42 = .ok (.iconst 4, 1) := by decide +kernel
theorem dX11_newSort_43 : decode cX11_newSort 43 = .ok (.iload_n 1, 1) := by decide +kernel
theorem dX11_newSort_44 : decode cX11_newSort 44 = .ok (.iadd, 1) := by decide +kernel
theorem dX11_newSort_45 : decode cX11_newSort 45 = .ok (.iload_n 3, 1) := by decide +kernel
theorem dX11_newSort_46 : decode cX11_newSort 46 = .ok (.iastore, 1) := by decide +kernel
theorem dX11_newSort_47 : decode cX11_newSort 47 = .ok (.return_, 1) := by decide +kernel
theorem dX11_clause_0 : decode cX11_clause 0 = .ok (.aload_n 0, 1) := by decide +kernel
theorem dX11_clause_1 : decode cX11_clause 1 = .ok (.invokevirtual 108, 3) := by decide +kernel
theorem dX11_clause_4 : decode cX11_clause 4 = .ok (.istore_n 1, 1) := by decide +kernel
theorem dX11_clause_5 : decode cX11_clause 5 = .ok (.aload_n 0, 1) := by decide +kernel
theorem dX11_clause_6 : decode cX11_clause 6 = .ok (.getfield 76, 3) := by decide +kernel
theorem dX11_clause_9 : decode cX11_clause 9 = .ok (.ifCond .le 17, 3) := by decide +kernel
theorem dX11_clause_12 : decode cX11_clause 12 = .ok (.aload_n 0, 1) := by decide +kernel
theorem dX11_clause_13 : decode cX11_clause 13 = .ok (.getfield 44, 3) := by decide +kernel
theorem dX11_clause_16 : decode cX11_clause 16 = .ok (.aload_n 0, 1) := by decide +kernel
theorem dX11_clause_17 : decode cX11_clause 17 = .ok (.getfield 76, 3) := by decide +kernel
theorem dX11_clause_20 : decode cX11_clause 20 = .ok (.iconst 1, 1) := by decide +kernel
theorem dX11_clause_21 : decode cX11_clause 21 = .ok (.isub, 1) := by decide +kernel
theorem dX11_clause_22 : decode cX11_clause 22 = .ok (.iaload, 1) := by decide +kernel
theorem dX11_clause_23 : decode cX11_clause 23 = .ok (.goto 4, 3) := by decide +kernel
theorem dX11_clause_26 : decode cX11_clause 26 = .ok (.iconst 0, 1) := by decide +kernel
theorem dX11_clause_27 : decode cX11_clause 27 = .ok (.istore_n 2, 1) := by decide +kernel
theorem dX11_clause_28 : decode cX11_clause 28 = .ok (.aload_n 0, 1) := by decide +kernel
theorem dX11_clause_29 : decode cX11_clause 29 = .ok (.getfield 79, 3) := by decide +kernel
theorem dX11_clause_32 : decode cX11_clause 32 = .ok (.istore_n 3, 1) := by decide +kernel
theorem dX11_clause_33 : decode cX11_clause 33 = .ok (.iload_n 1, 1) := by decide +kernel
theorem dX11_clause_34 : decode cX11_clause 34 = .ok (.iload_n 2, 1) := by decide +kernel
theorem dX11_clause_35 : decode cX11_clause 35 = .ok (.invokestatic 111, 3) := by decide +kernel
theorem dX11_clause_38 : decode cX11_clause 38 = .ok (.istore 4, 2) := by decide +kernel
theorem dX11_clause_40 : decode cX11_clause 40 = .ok (.iload 4, 2) := by decide +kernel
theorem dX11_clause_42 : decode cX11_clause 42 = .ok (.ifCond .lt 39, 3) := by decide +kernel
theorem dX11_clause_45 : decode cX11_clause 45 = .ok (.aload_n 0, 1) := by decide +kernel
theorem dX11_clause_46 : decode cX11_clause 46 = .ok (.aload_n 0, 1) := by decide +kernel
theorem dX11_clause_47 : decode cX11_clause 47 = .ok (.getfield 35, 3) := by decide +kernel
theorem dX11_clause_50 : decode cX11_clause 50 = .ok (.iconst 1, 1) := by decide +kernel
theorem dX11_clause_51 : decode cX11_clause 51 = .ok (.iaload, 1) := by decide +kernel
theorem dX11_clause_52 : decode cX11_clause 52 = .ok (.bipush 6, 2) := by decide +kernel
theorem dX11_clause_54 : decode cX11_clause 54 = .ok (.if_icmp .ne 7, 3) := by decide +kernel
theorem dX11_clause_57 : decode cX11_clause 57 = .ok (.iconst 1, 1) := by decide +kernel
theorem dX11_clause_58 : decode cX11_clause 58 = .ok (.goto 4, 3) := by decide +kernel
theorem dX11_clause_61 : decode cX11_clause 61 = .ok (.iconst 0, 1) := by decide +kernel
theorem dX11_clause_62 : decode cX11_clause 62 = .ok (.putfield 82, 3) := by decide +kernel
theorem dX11_clause_65 : decode cX11_clause 65 = .ok (.aload_n 0, 1) := by decide +kernel
theorem dX11_clause_66 : decode cX11_clause 66 = .ok (.getfield 82, 3) := by decide +kernel
theorem dX11_clause_69 : decode cX11_clause 69 = .ok (.ifCond .ne 165, 3) := by decide +kernel
theorem dX11_clause_72 : decode cX11_clause 72 = .ok (.aload_n 0, 1) := by decide +kernel
theorem dX11_clause_73 : decode cX11_clause 73 = .ok (.iload 4, 2) := by decide +kernel
theorem dX11_clause_75 : decode cX11_clause 75 = .ok (.invokevirtual 114, 3) := by decide +kernel
theorem dX11_clause_78 : decode cX11_clause 78 = .ok (.goto 156, 3) := by decide +kernel
theorem dX11_clause_81 : decode cX11_clause 81 = .ok (.iload_n 1, 1) := by decide +kernel
theorem dX11_clause_82 : decode cX11_clause 82 = .ok (.bipush 108, 2) := by decide +kernel
theorem dX11_clause_84 : decode cX11_clause 84 = .ok (.bipush 97, 2) := by decide +kernel
theorem dX11_clause_86 : decode cX11_clause 86 = .ok (.bipush 110, 2) := by decide +kernel
theorem dX11_clause_88 : decode cX11_clause 88 = .ok (.bipush 101, 2) := by decide +kernel
theorem dX11_clause_90 : decode cX11_clause 90 = .ok (.iconst 0, 1) := by decide +kernel
theorem dX11_clause_91 : decode cX11_clause 91 = .ok (.iconst 0, 1) := by decide +kernel
theorem dX11_clause_92 : decode cX11_clause 92 = .ok (.invokestatic 100, 3) := by decide +kernel
theorem dX11_clause_95 : decode cX11_clause 95 = .ok (.if_icmp .ne 11, 3) := by decide +kernel
theorem dX11_clause_98 : decode cX11_clause 98 = .ok (.aload_n 0, 1) := by decide +kernel
theorem dX11_clause_99 : decode cX11_clause 99 = .ok (.iconst 1, 1) := by decide +kernel
theorem dX11_clause_100 : decode cX11_clause 100 = .ok (.invokevirtual 62, 3) := by decide +kernel
theorem dX11_clause_103 : decode cX11_clause 103 = .ok (.goto 131, 3) := by decide +kernel
theorem dX11_clause_106 : decode cX11_clause 106 = .ok (.iload_n 1, 1) := by decide +kernel
theorem dX11_clause_107 : decode cX11_clause 107 = .ok (.bipush 115, 2) := by decide +kernel
theorem dX11_clause_109 : decode cX11_clause 109 = .ok (.bipush 111, 2) := by decide +kernel
theorem dX11_clause_111 : decode cX11_clause 111 = .ok (.bipush 114, 2) := by decide +kernel
theorem dX11_clause_113 : decode cX11_clause 113 = .ok (.bipush 116, 2) := by decide +kernel
theorem dX11_clause_115 : decode cX11_clause 115 = .ok (.iconst 0, 1) := by decide +kernel
theorem dX11_clause_116 : decode cX11_clause 116 = .ok (.iconst 0, 1) := by decide +kernel
theorem dX11_clause_117 : decode cX11_clause 117 = .ok (.invokestatic 100, 3) := by decide +kernel
theorem dX11_clause_120 : decode cX11_clause 120 = .ok (.if_icmp .ne 10, 3) := by decide +kernel
theorem dX11_clause_123 : decode cX11_clause 123 = .ok (.aload_n 0, 1) := by decide +kernel
theorem dX11_clause_124 : decode cX11_clause 124 = .ok (.invokevirtual 117, 3) := by decide +kernel
theorem dX11_clause_127 : decode cX11_clause 127 = .ok (.goto 107, 3) := by decide +kernel
theorem dX11_clause_130 : decode cX11_clause 130 = .ok (.iload_n 1, 1) := by decide +kernel
theorem dX11_clause_131 : decode cX11_clause 131 = .ok (.bipush 119, 2) := by decide +kernel
theorem dX11_clause_133 : decode cX11_clause 133 = .ok (.bipush 97, 2) := by decide +kernel
theorem dX11_clause_135 : decode cX11_clause 135 = .ok (.bipush 110, 2) := by decide +kernel
theorem dX11_clause_137 : decode cX11_clause 137 = .ok (.bipush 116, 2) := by decide +kernel
theorem dX11_clause_139 : decode cX11_clause 139 = .ok (.iconst 0, 1) := by decide +kernel
theorem dX11_clause_140 : decode cX11_clause 140 = .ok (.iconst 0, 1) := by decide +kernel
theorem dX11_clause_141 : decode cX11_clause 141 = .ok (.invokestatic 100, 3) := by decide +kernel
theorem dX11_clause_144 : decode cX11_clause 144 = .ok (.if_icmp .ne 19, 3) := by decide +kernel
theorem dX11_clause_147 : decode cX11_clause 147 = .ok (.aload_n 0, 1) := by decide +kernel
theorem dX11_clause_148 : decode cX11_clause 148 = .ok (.getfield 38, 3) := by decide +kernel
theorem dX11_clause_151 : decode cX11_clause 151 = .ok (.iconst 1, 1) := by decide +kernel
theorem dX11_clause_152 : decode cX11_clause 152 = .ok (.aload_n 0, 1) := by decide +kernel
theorem dX11_clause_153 : decode cX11_clause 153 = .ok (.iconst 1, 1) := by decide +kernel
theorem dX11_clause_154 : decode cX11_clause 154 = .ok (.bipush 30, 2) := by decide +kernel
theorem dX11_clause_156 : decode cX11_clause 156 = .ok (.invokevirtual 104, 3) := by decide +kernel
theorem dX11_clause_159 : decode cX11_clause 159 = .ok (.iastore, 1) := by decide +kernel
theorem dX11_clause_160 : decode cX11_clause 160 = .ok (.goto 74, 3) := by decide +kernel
theorem dX11_clause_163 : decode cX11_clause 163 = .ok (.iload_n 1, 1) := by decide +kernel
theorem dX11_clause_164 : decode cX11_clause 164 = .ok (.bipush 112, 2) := by decide +kernel
theorem dX11_clause_166 : decode cX11_clause 166 = .ok (.bipush 117, 2) := by decide +kernel
theorem dX11_clause_168 : decode cX11_clause 168 = .ok (.bipush 114, 2) := by decide +kernel
theorem dX11_clause_170 : decode cX11_clause 170 = .ok (.bipush 115, 2) := by decide +kernel
theorem dX11_clause_172 : decode cX11_clause 172 = .ok (.bipush 101, 2) := by decide +kernel
theorem dX11_clause_174 : decode cX11_clause 174 = .ok (.iconst 0, 1) := by decide +kernel
theorem dX11_clause_175 : decode cX11_clause 175 = .ok (.invokestatic 100, 3) := by decide +kernel
theorem dX11_clause_178 : decode cX11_clause 178 = .ok (.if_icmp .ne 19, 3) := by decide +kernel
theorem dX11_clause_181 : decode cX11_clause 181 = .ok (.aload_n 0, 1) := by decide +kernel
theorem dX11_clause_182 : decode cX11_clause 182 = .ok (.getfield 41, 3) := by decide +kernel
theorem dX11_clause_185 : decode cX11_clause 185 = .ok (.iconst 1, 1) := by decide +kernel
theorem dX11_clause_186 : decode cX11_clause 186 = .ok (.aload_n 0, 1) := by decide +kernel
theorem dX11_clause_187 : decode cX11_clause 187 = .ok (.iconst 0, 1) := by decide +kernel
theorem dX11_clause_188 : decode cX11_clause 188 = .ok (.bipush 99, 2) := by decide +kernel
theorem dX11_clause_190 : decode cX11_clause 190 = .ok (.invokevirtual 104, 3) := by decide +kernel
theorem dX11_clause_193 : decode cX11_clause 193 = .ok (.iastore, 1) := by decide +kernel
theorem dX11_clause_194 : decode cX11_clause 194 = .ok (.goto 40, 3) := by decide +kernel
theorem dX11_clause_197 : decode cX11_clause 197 = .ok (.iload_n 1, 1) := by decide +kernel
theorem dX11_clause_198 : decode cX11_clause 198 = .ok (.bipush 115, 2) := by decide +kernel
theorem dX11_clause_200 : decode cX11_clause 200 = .ok (.bipush 104, 2) := by decide +kernel
theorem dX11_clause_202 : decode cX11_clause 202 = .ok (.bipush 117, 2) := by decide +kernel
theorem dX11_clause_204 : decode cX11_clause 204 = .ok (.bipush 116, 2) := by decide +kernel
theorem dX11_clause_206 : decode cX11_clause 206 = .ok (.iconst 0, 1) := by decide +kernel
theorem dX11_clause_207 : decode cX11_clause 207 = .ok (.iconst 0, 1) := by decide +kernel
theorem dX11_clause_208 : decode cX11_clause 208 = .ok (.invokestatic 100, 3) := by decide +kernel
theorem dX11_clause_211 : decode cX11_clause 211 = .ok (.if_icmp .ne 13, 3) := by decide +kernel
theorem dX11_clause_214 : decode cX11_clause 214 = .ok (.aload_n 0, 1) := by decide +kernel
theorem dX11_clause_215 : decode cX11_clause 215 = .ok (.getfield 35, 3) := by decide +kernel
theorem dX11_clause_218 : decode cX11_clause 218 = .ok (.iconst 1, 1) := by decide +kernel
theorem dX11_clause_219 : decode cX11_clause 219 = .ok (.iconst 0, 1) := by decide +kernel
theorem dX11_clause_220 : decode cX11_clause 220 = .ok (.iastore, 1) := by decide +kernel
theorem dX11_clause_221 : decode cX11_clause 221 = .ok (.goto 13, 3) := by decide +kernel
theorem dX11_clause_224 : decode cX11_clause 224 = .ok (.aload_n 0, 1) := by decide +kernel
theorem dX11_clause_225 : decode cX11_clause 225 = .ok (.iconst 1, 1) := by decide +kernel
theorem dX11_clause_226 : decode cX11_clause 226 = .ok (.putfield 82, 3) := by decide +kernel
theorem dX11_clause_229 : decode cX11_clause 229 = .ok (.aload_n 0, 1) := by decide +kernel
theorem dX11_clause_230 : decode cX11_clause 230 = .ok (.iload_n 3, 1) := by decide +kernel
theorem dX11_clause_231 : decode cX11_clause 231 = .ok (.putfield 79, 3) := by decide +kernel
theorem dX11_clause_234 : decode cX11_clause 234 = .ok (.aload_n 0, 1) := by decide +kernel
theorem dX11_clause_235 : decode cX11_clause 235 = .ok (.dup, 1) := by decide +kernel
theorem dX11_clause_236 : decode cX11_clause 236 = .ok (.getfield 120, 3) := by decide +kernel
theorem dX11_clause_239 : decode cX11_clause 239 = .ok (.iconst 1, 1) := by decide +kernel
theorem dX11_clause_240 : decode cX11_clause 240 = .ok (.iadd, 1) := by decide +kernel
theorem dX11_clause_241 : decode cX11_clause 241 = .ok (.putfield 120, 3) := by decide +kernel
theorem dX11_clause_244 : decode cX11_clause 244 = .ok (.return_, 1) := by decide +kernel
theorem dX11_read_0 : decode cX11_read 0 = .ok (.aload_n 0, 1) := by decide +kernel
theorem dX11_read_1 : decode cX11_read 1 = .ok (.iconst 0, 1) := by decide +kernel
theorem dX11_read_2 : decode cX11_read 2 = .ok (.iconst 1, 1) := by decide +kernel
theorem dX11_read_3 : decode cX11_read 3 = .ok (.invokevirtual 123, 3) := by decide +kernel
theorem dX11_read_6 : decode cX11_read 6 = .ok (.aload_n 0, 1) := by decide +kernel
theorem dX11_read_7 : decode cX11_read 7 = .ok (.iconst 0, 1) := by decide +kernel
theorem dX11_read_8 : decode cX11_read 8 = .ok (.putfield 76, 3) := by decide +kernel
theorem dX11_read_11 : decode cX11_read 11 = .ok (.aload_n 0, 1) := by decide +kernel
theorem dX11_read_12 : decode cX11_read 12 = .ok (.iconst 0, 1) := by decide +kernel
theorem dX11_read_13 : decode cX11_read 13 = .ok (.putfield 82, 3) := by decide +kernel
theorem dX11_read_16 : decode cX11_read 16 = .ok (.aload_n 0, 1) := by decide +kernel
theorem dX11_read_17 : decode cX11_read 17 = .ok (.iconst 0, 1) := by decide +kernel
theorem dX11_read_18 : decode cX11_read 18 = .ok (.putfield 120, 3) := by decide +kernel
theorem dX11_read_21 : decode cX11_read 21 = .ok (.iconst 1, 1) := by decide +kernel
theorem dX11_read_22 : decode cX11_read 22 = .ok (.istore_n 1, 1) := by decide +kernel
theorem dX11_read_23 : decode cX11_read 23 = .ok (.iload_n 1, 1) := by decide +kernel
theorem dX11_read_24 : decode cX11_read 24 = .ok (.ifCond .eq 93, 3) := by decide +kernel
theorem dX11_read_27 : decode cX11_read 27 = .ok (.aload_n 0, 1) := by decide +kernel
theorem dX11_read_28 : decode cX11_read 28 = .ok (.invokevirtual 127, 3) := by decide +kernel
theorem dX11_read_31 : decode cX11_read 31 = .ok (.aload_n 0, 1) := by decide +kernel
theorem dX11_read_32 : decode cX11_read 32 = .ok (.getfield 82, 3) := by decide +kernel
theorem dX11_read_35 : decode cX11_read 35 = .ok (.ifCond .ne 14, 3) := by decide +kernel
theorem dX11_read_38 : decode cX11_read 38 = .ok (.aload_n 0, 1) := by decide +kernel
theorem dX11_read_39 : decode cX11_read 39 = .ok (.invokevirtual 86, 3) := by decide +kernel
theorem dX11_read_42 : decode cX11_read 42 = .ok (.ifCond .lt 7, 3) := by decide +kernel
theorem dX11_read_45 : decode cX11_read 45 = .ok (.iconst 1, 1) := by decide +kernel
theorem dX11_read_46 : decode cX11_read 46 = .ok (.goto 4, 3) := by decide +kernel
theorem dX11_read_49 : decode cX11_read 49 = .ok (.iconst 0, 1) := by decide +kernel
theorem dX11_read_50 : decode cX11_read 50 = .ok (.istore_n 1, 1) := by decide +kernel
theorem dX11_read_51 : decode cX11_read 51 = .ok (.iload_n 1, 1) := by decide +kernel
theorem dX11_read_52 : decode cX11_read 52 = .ok (.ifCond .eq 45, 3) := by decide +kernel
theorem dX11_read_55 : decode cX11_read 55 = .ok (.aload_n 0, 1) := by decide +kernel
theorem dX11_read_56 : decode cX11_read 56 = .ok (.aload_n 0, 1) := by decide +kernel
theorem dX11_read_57 : decode cX11_read 57 = .ok (.getfield 44, 3) := by decide +kernel
theorem dX11_read_60 : decode cX11_read 60 = .ok (.aload_n 0, 1) := by decide +kernel
theorem dX11_read_61 : decode cX11_read 61 = .ok (.getfield 76, 3) := by decide +kernel
theorem dX11_read_64 : decode cX11_read 64 = .ok (.iaload, 1) := by decide +kernel
theorem dX11_read_65 : decode cX11_read 65 = .ok (.bipush 59, 2) := by decide +kernel
theorem dX11_read_67 : decode cX11_read 67 = .ok (.if_icmp .ne 12, 3) := by decide +kernel
theorem dX11_read_70 : decode cX11_read 70 = .ok (.aload_n 0, 1) := by decide +kernel
theorem dX11_read_71 : decode cX11_read 71 = .ok (.getfield 120, 3) := by decide +kernel
theorem dX11_read_74 : decode cX11_read 74 = .ok (.bipush 14, 2) := by decide +kernel
theorem dX11_read_76 : decode cX11_read 76 = .ok (.if_icmp .ne 7, 3) := by decide +kernel
theorem dX11_read_79 : decode cX11_read 79 = .ok (.iconst 1, 1) := by decide +kernel
theorem dX11_read_80 : decode cX11_read 80 = .ok (.goto 4, 3) := by decide +kernel
theorem dX11_read_83 : decode cX11_read 83 = .ok (.iconst 0, 1) := by decide +kernel
theorem dX11_read_84 : decode cX11_read 84 = .ok (.putfield 82, 3) := by decide +kernel
theorem dX11_read_87 : decode cX11_read 87 = .ok (.aload_n 0, 1) := by decide +kernel
theorem dX11_read_88 : decode cX11_read 88 = .ok (.dup, 1) := by decide +kernel
theorem dX11_read_89 : decode cX11_read 89 = .ok (.getfield 76, 3) := by decide +kernel
theorem dX11_read_92 : decode cX11_read 92 = .ok (.iconst 1, 1) := by decide +kernel
theorem dX11_read_93 : decode cX11_read 93 = .ok (.iadd, 1) := by decide +kernel
theorem dX11_read_94 : decode cX11_read 94 = .ok (.putfield 76, 3) := by decide +kernel
theorem dX11_read_97 : decode cX11_read 97 = .ok (.iload_n 1, 1) := by decide +kernel
theorem dX11_read_98 : decode cX11_read 98 = .ok (.ifCond .eq 14, 3) := by decide +kernel
theorem dX11_read_101 : decode cX11_read 101 = .ok (.aload_n 0, 1) := by decide +kernel
theorem dX11_read_102 : decode cX11_read 102 = .ok (.getfield 82, 3) := by decide +kernel
theorem dX11_read_105 : decode cX11_read 105 = .ok (.ifCond .ne 7, 3) := by decide +kernel
theorem dX11_read_108 : decode cX11_read 108 = .ok (.iconst 1, 1) := by decide +kernel
theorem dX11_read_109 : decode cX11_read 109 = .ok (.goto 4, 3) := by decide +kernel
theorem dX11_read_112 : decode cX11_read 112 = .ok (.iconst 0, 1) := by decide +kernel
theorem dX11_read_113 : decode cX11_read 113 = .ok (.istore_n 1, 1) := by decide +kernel
theorem dX11_read_114 : decode cX11_read 114 = .ok (.goto (-91), 3) := by decide +kernel
theorem dX11_read_117 : decode cX11_read 117 = .ok (.aload_n 0, 1) := by decide +kernel
theorem dX11_read_118 : decode cX11_read 118 = .ok (.getfield 82, 3) := by decide +kernel
theorem dX11_read_121 : decode cX11_read 121 = .ok (.ifCond .eq 10, 3) := by decide +kernel
theorem dX11_read_124 : decode cX11_read 124 = .ok (.aload_n 0, 1) := by decide +kernel
theorem dX11_read_125 : decode cX11_read 125 = .ok (.getfield 79, 3) := by decide +kernel
theorem dX11_read_128 : decode cX11_read 128 = .ok (.goto 4, 3) := by decide +kernel
theorem dX11_read_131 : decode cX11_read 131 = .ok (.iconst (-1), 1) := by decide +kernel
theorem dX11_read_132 : decode cX11_read 132 = .ok (.ireturn, 1) := by decide +kernel
theorem dX11_fault_0 : decode cX11_fault 0 = .ok (.aload_n 0, 1) := by decide +kernel
theorem dX11_fault_1 : decode cX11_fault 1 = .ok (.invokevirtual 130, 3) := by decide +kernel
theorem dX11_fault_4 : decode cX11_fault 4 = .ok (.ireturn, 1) := by decide +kernel
theorem dX11_lane_0 : decode cX11_lane 0 = .ok (.aload_n 0, 1) := by decide +kernel
theorem dX11_lane_1 : decode cX11_lane 1 = .ok (.invokevirtual 130, 3) := by decide +kernel
theorem dX11_lane_4 : decode cX11_lane 4 = .ok (.ifCond .lt 6, 3) := by decide +kernel
theorem dX11_lane_7 : decode cX11_lane 7 = .ok (.bipush (-4), 2) := by decide +kernel
theorem dX11_lane_9 : decode cX11_lane 9 = .ok (.ireturn, 1) := by decide +kernel
theorem dX11_lane_10 : decode cX11_lane 10 = .ok (.aload_n 0, 1) := by decide +kernel
theorem dX11_lane_11 : decode cX11_lane 11 = .ok (.iconst 1, 1) := by decide +kernel
theorem dX11_lane_12 : decode cX11_lane 12 = .ok (.iconst 0, 1) := by decide +kernel
theorem dX11_lane_13 : decode cX11_lane 13 = .ok (.invokevirtual 123, 3) := by decide +kernel
theorem dX11_lane_16 : decode cX11_lane 16 = .ok (.aload_n 0, 1) := by decide +kernel
theorem dX11_lane_17 : decode cX11_lane 17 = .ok (.iconst 0, 1) := by decide +kernel
theorem dX11_lane_18 : decode cX11_lane 18 = .ok (.putfield 72, 3) := by decide +kernel
theorem dX11_lane_21 : decode cX11_lane 21 = .ok (.aload_n 0, 1) := by decide +kernel
theorem dX11_lane_22 : decode cX11_lane 22 = .ok (.iconst 0, 1) := by decide +kernel
theorem dX11_lane_23 : decode cX11_lane 23 = .ok (.invokevirtual 133, 3) := by decide +kernel
theorem dX11_lane_26 : decode cX11_lane 26 = .ok (.iconst 0, 1) := by decide +kernel
theorem dX11_lane_27 : decode cX11_lane 27 = .ok (.istore_n 1, 1) := by decide +kernel
theorem dX11_lane_28 : decode cX11_lane 28 = .ok (.iload_n 1, 1) := by decide +kernel
theorem dX11_lane_29 : decode cX11_lane 29 = .ok (.bipush 6, 2) := by decide +kernel
theorem dX11_lane_31 : decode cX11_lane 31 = .ok (.if_icmp .ge 16, 3) := by decide +kernel
theorem dX11_lane_34 : decode cX11_lane 34 = .ok (.aload_n 0, 1) := by decide +kernel
theorem dX11_lane_35 : decode cX11_lane 35 = .ok (.getfield 7, 3) := by decide +kernel
theorem dX11_lane_38 : decode cX11_lane 38 = .ok (.iload_n 1, 1) := by decide +kernel
theorem dX11_lane_39 : decode cX11_lane 39 = .ok (.iload_n 1, 1) := by decide +kernel
theorem dX11_lane_40 : decode cX11_lane 40 = .ok (.iastore, 1) := by decide +kernel
theorem dX11_lane_41 : decode cX11_lane 41 = .ok (.iinc 1 1, 3) := by decide +kernel
theorem dX11_lane_44 : decode cX11_lane 44 = .ok (.goto (-16), 3) := by decide +kernel
theorem dX11_lane_47 : decode cX11_lane 47 = .ok (.aload_n 0, 1) := by decide +kernel
theorem dX11_lane_48 : decode cX11_lane 48 = .ok (.iconst 0, 1) := by decide +kernel
theorem dX11_lane_49 : decode cX11_lane 49 = .ok (.putfield 136, 3) := by decide +kernel
theorem dX11_lane_52 : decode cX11_lane 52 = .ok (.aload_n 0, 1) := by decide +kernel
theorem dX11_lane_53 : decode cX11_lane 53 = .ok (.iconst 0, 1) := by decide +kernel
theorem dX11_lane_54 : decode cX11_lane 54 = .ok (.putfield 139, 3) := by decide +kernel
theorem dX11_lane_57 : decode cX11_lane 57 = .ok (.aload_n 0, 1) := by decide +kernel
theorem dX11_lane_58 : decode cX11_lane 58 = .ok (.getfield 13, 3) := by decide +kernel
theorem dX11_lane_61 : decode cX11_lane 61 = .ok (.iconst 0, 1) := by decide +kernel
theorem dX11_lane_62 : decode cX11_lane 62 = .ok (.iconst 0, 1) := by decide +kernel
theorem dX11_lane_63 : decode cX11_lane 63 = .ok (.bastore, 1) := by decide +kernel
theorem dX11_lane_64 : decode cX11_lane 64 = .ok (.aload_n 0, 1) := by decide +kernel
theorem dX11_lane_65 : decode cX11_lane 65 = .ok (.getfield 13, 3) := by decide +kernel
theorem dX11_lane_68 : decode cX11_lane 68 = .ok (.iconst 1, 1) := by decide +kernel
theorem dX11_lane_69 : decode cX11_lane 69 = .ok (.iconst 0, 1) := by decide +kernel
theorem dX11_lane_70 : decode cX11_lane 70 = .ok (.bastore, 1) := by decide +kernel
theorem dX11_lane_71 : decode cX11_lane 71 = .ok (.aload_n 0, 1) := by decide +kernel
theorem dX11_lane_72 : decode cX11_lane 72 = .ok (.getfield 120, 3) := by decide +kernel
theorem dX11_lane_75 : decode cX11_lane 75 = .ok (.ireturn, 1) := by decide +kernel
theorem dX11_fresh_0 : decode cX11_fresh 0 = .ok (.bipush 6, 2) := by decide +kernel
theorem dX11_fresh_2 : decode cX11_fresh 2 = .ok (.istore_n 2, 1) := by decide +kernel
theorem dX11_fresh_3 : decode cX11_fresh 3 = .ok (.iload_n 2, 1) := by decide +kernel
theorem dX11_fresh_4 : decode cX11_fresh 4 = .ok (.bipush 16, 2) := by decide +kernel
theorem dX11_fresh_6 : decode cX11_fresh 6 = .ok (.if_icmp .ge 18, 3) := by decide +kernel
theorem dX11_fresh_9 : decode cX11_fresh 9 = .ok (.aload_n 0, 1) := by decide +kernel
theorem dX11_fresh_10 : decode cX11_fresh 10 = .ok (.getfield 7, 3) := by decide +kernel
theorem dX11_fresh_13 : decode cX11_fresh 13 = .ok (.iload_n 1, 1) := by decide +kernel
theorem dX11_fresh_14 : decode cX11_fresh 14 = .ok (.iload_n 2, 1) := by decide +kernel
theorem dX11_fresh_15 : decode cX11_fresh 15 = .ok (.iadd, 1) := by decide +kernel
theorem dX11_fresh_16 : decode cX11_fresh 16 = .ok (.iconst 0, 1) := by decide +kernel
theorem dX11_fresh_17 : decode cX11_fresh 17 = .ok (.iastore, 1) := by decide +kernel
theorem dX11_fresh_18 : decode cX11_fresh 18 = .ok (.iinc 2 1, 3) := by decide +kernel
theorem dX11_fresh_21 : decode cX11_fresh 21 = .ok (.goto (-18), 3) := by decide +kernel
theorem dX11_fresh_24 : decode cX11_fresh 24 = .ok (.aload_n 0, 1) := by decide +kernel
theorem dX11_fresh_25 : decode cX11_fresh 25 = .ok (.getfield 7, 3) := by decide +kernel
theorem dX11_fresh_28 : decode cX11_fresh 28 = .ok (.iload_n 1, 1) := by decide +kernel
theorem dX11_fresh_29 : decode cX11_fresh 29 = .ok (.bipush 12, 2) := by decide +kernel
theorem dX11_fresh_31 : decode cX11_fresh 31 = .ok (.iadd, 1) := by decide +kernel
theorem dX11_fresh_32 : decode cX11_fresh 32 = .ok (.aload_n 0, 1) := by decide +kernel
theorem dX11_fresh_33 : decode cX11_fresh 33 = .ok (.getfield 41, 3) := by decide +kernel
theorem dX11_fresh_36 : decode cX11_fresh 36 = .ok (.iconst 0, 1) := by decide +kernel
theorem dX11_fresh_37 : decode cX11_fresh 37 = .ok (.iaload, 1) := by decide +kernel
theorem dX11_fresh_38 : decode cX11_fresh 38 = .ok (.iastore, 1) := by decide +kernel
theorem dX11_fresh_39 : decode cX11_fresh 39 = .ok (.return_, 1) := by decide +kernel
theorem dX11_isShop_0 : decode cX11_isShop 0 = .ok (.iload_n 1, 1) := by decide +kernel
theorem dX11_isShop_1 : decode cX11_isShop 1 = .ok (.i2l, 1) := by decide +kernel
theorem dX11_isShop_2 : decode cX11_isShop 2 = .ok (.lconst 0, 1) := by decide +kernel
theorem dX11_isShop_3 : decode cX11_isShop 3 = .ok (.aload_n 0, 1) := by decide +kernel
theorem dX11_isShop_4 : decode cX11_isShop 4 = .ok (.getfield 35, 3) := by decide +kernel
theorem dX11_isShop_7 : decode cX11_isShop 7 = .ok (.iconst 0, 1) := by decide +kernel
theorem dX11_isShop_8 : decode cX11_isShop 8 = .ok (.iaload, 1) := by decide +kernel
theorem dX11_isShop_9 : decode cX11_isShop 9 = .ok (.iconst 1, 1) := by decide +kernel
theorem dX11_isShop_10 : decode cX11_isShop 10 = .ok (.isub, 1) := by decide +kernel
theorem dX11_isShop_11 : decode cX11_isShop 11 = .ok (.i2l, 1) := by decide +kernel
theorem dX11_isShop_12 : decode cX11_isShop 12 = .ok (.invokestatic 68, 3) := by decide +kernel
theorem dX11_isShop_15 : decode cX11_isShop 15 = .ok (.ireturn, 1) := by decide +kernel
theorem dX11_sort_0 : decode cX11_sort 0 = .ok (.iload_n 1, 1) := by decide +kernel
theorem dX11_sort_1 : decode cX11_sort 1 = .ok (.i2l, 1) := by decide +kernel
theorem dX11_sort_2 : decode cX11_sort 2 = .ok (.lconst 0, 1) := by decide +kernel
theorem dX11_sort_3 : decode cX11_sort 3 = .ok (.ldc2_w 142, 3) := by decide +kernel
theorem dX11_sort_6 : decode cX11_sort 6 = .ok (.invokestatic 68, 3) := by decide +kernel
theorem dX11_sort_9 : decode cX11_sort 9 = .ok (.ifCond .ne 6, 3) := by decide +kernel
theorem dX11_sort_12 : decode cX11_sort 12 = .ok (.bipush (-2), 2) := by decide +kernel
theorem dX11_sort_14 : decode cX11_sort 14 = .ok (.ireturn, 1) := by decide +kernel
theorem dX11_sort_15 : decode cX11_sort 15 = .ok (.iload_n 2, 1) := by decide +kernel
theorem dX11_sort_16 : decode cX11_sort 16 = .ok (.ifCond .ne 12, 3) := by decide +kernel
theorem dX11_sort_19 : decode cX11_sort 19 = .ok (.aload_n 0, 1) := by decide +kernel
theorem dX11_sort_20 : decode cX11_sort 20 = .ok (.getfield 17, 3) := by decide +kernel
theorem dX11_sort_23 : decode cX11_sort 23 = .ok (.iload_n 1, 1) := by decide +kernel
theorem dX11_sort_24 : decode cX11_sort 24 = .ok (.iaload, 1) := by decide +kernel
theorem dX11_sort_25 : decode cX11_sort 25 = .ok (.goto 36, 3) := by decide +kernel
theorem dX11_sort_28 : decode cX11_sort 28 = .ok (.iload_n 2, 1) := by decide +kernel
theorem dX11_sort_29 : decode cX11_sort 29 = .ok (.iconst 1, 1) := by decide +kernel
theorem dX11_sort_30 : decode cX11_sort 30 = .ok (.if_icmp .ne 12, 3) := by decide +kernel
theorem dX11_sort_33 : decode cX11_sort 33 = .ok (.aload_n 0, 1) := by decide +kernel
theorem dX11_sort_34 : decode cX11_sort 34 = .ok (.getfield 20, 3) := by decide +kernel
theorem dX11_sort_37 : decode cX11_sort 37 = .ok (.iload_n 1, 1) := by decide +kernel
theorem dX11_sort_38 : decode cX11_sort 38 = .ok (.iaload, 1) := by decide +kernel
theorem dX11_sort_39 : decode cX11_sort 39 = .ok (.goto 22, 3) := by decide +kernel
theorem dX11_sort_42 : decode cX11_sort 42 = .ok (.iload_n 2, 1) := by decide +kernel
theorem dX11_sort_43 : decode cX11_sort 43 = .ok (.iconst 2, 1) := by decide +kernel
theorem dX11_sort_44 : decode cX11_sort 44 = .ok (.if_icmp .ne 15, 3) := by decide +kernel
theorem dX11_sort_47 : decode cX11_sort 47 = .ok (.aload_n 0, 1) := by decide +kernel
theorem dX11_sort_48 : decode cX11_sort 48 = .ok (.getfield 7, 3) := by decide +kernel
theorem dX11_sort_51 : decode cX11_sort 51 = .ok (.bipush 6, 2) := by decide +kernel
theorem dX11_sort_53 : decode cX11_sort 53 = .ok (.iload_n 1, 1) := by decide +kernel
theorem dX11_sort_54 : decode cX11_sort 54 = .ok (.iadd, 1) := by decide +kernel
theorem dX11_sort_55 : decode cX11_sort 55 = .ok (.iaload, 1) := by decide +kernel
theorem dX11_sort_56 : decode cX11_sort 56 = .ok (.goto 5, 3) := by decide +kernel
theorem dX11_sort_59 : decode cX11_sort 59 = .ok (.bipush (-3), 2) := by decide +kernel
theorem dX11_sort_61 : decode cX11_sort 61 = .ok (.ireturn, 1) := by decide +kernel
theorem dX11_smells_0 : decode cX11_smells 0 = .ok (.aload_n 0, 1) := by decide +kernel
theorem dX11_smells_1 : decode cX11_smells 1 = .ok (.getfield 23, 3) := by decide +kernel
theorem dX11_smells_4 : decode cX11_smells 4 = .ok (.iload_n 2, 1) := by decide +kernel
theorem dX11_smells_5 : decode cX11_smells 5 = .ok (.iaload, 1) := by decide +kernel
theorem dX11_smells_6 : decode cX11_smells 6 = .ok (.iconst 3, 1) := by decide +kernel
theorem dX11_smells_7 : decode cX11_smells 7 = .ok (.if_icmp .ne 5, 3) := by decide +kernel
theorem dX11_smells_10 : decode cX11_smells 10 = .ok (.iconst 3, 1) := by decide +kernel
theorem dX11_smells_11 : decode cX11_smells 11 = .ok (.ireturn, 1) := by decide +kernel
theorem dX11_smells_12 : decode cX11_smells 12 = .ok (.aload_n 0, 1) := by decide +kernel
theorem dX11_smells_13 : decode cX11_smells 13 = .ok (.getfield 29, 3) := by decide +kernel
theorem dX11_smells_16 : decode cX11_smells 16 = .ok (.iload_n 2, 1) := by decide +kernel
theorem dX11_smells_17 : decode cX11_smells 17 = .ok (.iaload, 1) := by decide +kernel
theorem dX11_smells_18 : decode cX11_smells 18 = .ok (.aload_n 0, 1) := by decide +kernel
theorem dX11_smells_19 : decode cX11_smells 19 = .ok (.getfield 7, 3) := by decide +kernel
theorem dX11_smells_22 : decode cX11_smells 22 = .ok (.iload_n 1, 1) := by decide +kernel
theorem dX11_smells_23 : decode cX11_smells 23 = .ok (.bipush 6, 2) := by decide +kernel
theorem dX11_smells_25 : decode cX11_smells 25 = .ok (.iadd, 1) := by decide +kernel
theorem dX11_smells_26 : decode cX11_smells 26 = .ok (.aload_n 0, 1) := by decide +kernel
theorem dX11_smells_27 : decode cX11_smells 27 = .ok (.getfield 26, 3) := by decide +kernel
theorem dX11_smells_30 : decode cX11_smells 30 = .ok (.iload_n 2, 1) := by decide +kernel
theorem dX11_smells_31 : decode cX11_smells 31 = .ok (.iaload, 1) := by decide +kernel
theorem dX11_smells_32 : decode cX11_smells 32 = .ok (.iadd, 1) := by decide +kernel
theorem dX11_smells_33 : decode cX11_smells 33 = .ok (.iaload, 1) := by decide +kernel
theorem dX11_smells_34 : decode cX11_smells 34 = .ok (.isub, 1) := by decide +kernel
theorem dX11_smells_35 : decode cX11_smells 35 = .ok (.istore_n 3, 1) := by decide +kernel
theorem dX11_smells_36 : decode cX11_smells 36 = .ok (.iload_n 3, 1) := by decide +kernel
theorem dX11_smells_37 : decode cX11_smells 37 = .ok (.ifCond .ge 7, 3) := by decide +kernel
theorem dX11_smells_40 : decode cX11_smells 40 = .ok (.iconst 0, 1) := by decide +kernel
theorem dX11_smells_41 : decode cX11_smells 41 = .ok (.goto 4, 3) := by decide +kernel
theorem dX11_smells_44 : decode cX11_smells 44 = .ok (.iload_n 3, 1) := by decide +kernel
theorem dX11_smells_45 : decode cX11_smells 45 = .ok (.istore_n 3, 1) := by decide +kernel
theorem dX11_smells_46 : decode cX11_smells 46 = .ok (.aload_n 0, 1) := by decide +kernel
theorem dX11_smells_47 : decode cX11_smells 47 = .ok (.getfield 7, 3) := by decide +kernel
theorem dX11_smells_50 : decode cX11_smells 50 = .ok (.iload_n 1, 1) := by decide +kernel
theorem dX11_smells_51 : decode cX11_smells 51 = .ok (.bipush 14, 2) := by decide +kernel
theorem dX11_smells_53 : decode cX11_smells 53 = .ok (.iadd, 1) := by decide +kernel
theorem dX11_smells_54 : decode cX11_smells 54 = .ok (.iaload, 1) := by decide +kernel
theorem dX11_smells_55 : decode cX11_smells 55 = .ok (.ifCond .le 9, 3) := by decide +kernel
theorem dX11_smells_58 : decode cX11_smells 58 = .ok (.iload_n 3, 1) := by decide +kernel
theorem dX11_smells_59 : decode cX11_smells 59 = .ok (.iconst 2, 1) := by decide +kernel
theorem dX11_smells_60 : decode cX11_smells 60 = .ok (.idiv, 1) := by decide +kernel
theorem dX11_smells_61 : decode cX11_smells 61 = .ok (.goto 4, 3) := by decide +kernel
theorem dX11_smells_64 : decode cX11_smells 64 = .ok (.iload_n 3, 1) := by decide +kernel
theorem dX11_smells_65 : decode cX11_smells 65 = .ok (.ireturn, 1) := by decide +kernel
theorem dX11_shop_0 : decode cX11_shop 0 = .ok (.aload_n 0, 1) := by decide +kernel
theorem dX11_shop_1 : decode cX11_shop 1 = .ok (.iload_n 1, 1) := by decide +kernel
theorem dX11_shop_2 : decode cX11_shop 2 = .ok (.invokevirtual 144, 3) := by decide +kernel
theorem dX11_shop_5 : decode cX11_shop 5 = .ok (.ifCond .ne 6, 3) := by decide +kernel
theorem dX11_shop_8 : decode cX11_shop 8 = .ok (.bipush (-2), 2) := by decide +kernel
theorem dX11_shop_10 : decode cX11_shop 10 = .ok (.ireturn, 1) := by decide +kernel
theorem dX11_shop_11 : decode cX11_shop 11 = .ok (.iload_n 2, 1) := by decide +kernel
theorem dX11_shop_12 : decode cX11_shop 12 = .ok (.tableswitch 101 0 6 #[44, 51, 58, 65, 72, 79, 94], 44) := by decide +kernel
theorem dX11_shop_56 : decode cX11_shop 56 = .ok (.aload_n 0, 1) := by decide +kernel
theorem dX11_shop_57 : decode cX11_shop 57 = .ok (.getfield 23, 3) := by decide +kernel
theorem dX11_shop_60 : decode cX11_shop 60 = .ok (.iload_n 1, 1) := by decide +kernel
theorem dX11_shop_61 : decode cX11_shop 61 = .ok (.iaload, 1) := by decide +kernel
theorem dX11_shop_62 : decode cX11_shop 62 = .ok (.ireturn, 1) := by decide +kernel
theorem dX11_shop_63 : decode cX11_shop 63 = .ok (.aload_n 0, 1) := by decide +kernel
theorem dX11_shop_64 : decode cX11_shop 64 = .ok (.getfield 26, 3) := by decide +kernel
theorem dX11_shop_67 : decode cX11_shop 67 = .ok (.iload_n 1, 1) := by decide +kernel
theorem dX11_shop_68 : decode cX11_shop 68 = .ok (.iaload, 1) := by decide +kernel
theorem dX11_shop_69 : decode cX11_shop 69 = .ok (.ireturn, 1) := by decide +kernel
theorem dX11_shop_70 : decode cX11_shop 70 = .ok (.aload_n 0, 1) := by decide +kernel
theorem dX11_shop_71 : decode cX11_shop 71 = .ok (.getfield 29, 3) := by decide +kernel
theorem dX11_shop_74 : decode cX11_shop 74 = .ok (.iload_n 1, 1) := by decide +kernel
theorem dX11_shop_75 : decode cX11_shop 75 = .ok (.iaload, 1) := by decide +kernel
theorem dX11_shop_76 : decode cX11_shop 76 = .ok (.ireturn, 1) := by decide +kernel
theorem dX11_shop_77 : decode cX11_shop 77 = .ok (.aload_n 0, 1) := by decide +kernel
theorem dX11_shop_78 : decode cX11_shop 78 = .ok (.getfield 32, 3) := by decide +kernel
theorem dX11_shop_81 : decode cX11_shop 81 = .ok (.iload_n 1, 1) := by decide +kernel
theorem dX11_shop_82 : decode cX11_shop 82 = .ok (.iaload, 1) := by decide +kernel
theorem dX11_shop_83 : decode cX11_shop 83 = .ok (.ireturn, 1) := by decide +kernel
theorem dX11_shop_84 : decode cX11_shop 84 = .ok (.aload_n 0, 1) := by decide +kernel
theorem dX11_shop_85 : decode cX11_shop 85 = .ok (.getfield 7, 3) := by decide +kernel
theorem dX11_shop_88 : decode cX11_shop 88 = .ok (.iload_n 1, 1) := by decide +kernel
theorem dX11_shop_89 : decode cX11_shop 89 = .ok (.iaload, 1) := by decide +kernel
theorem dX11_shop_90 : decode cX11_shop 90 = .ok (.ireturn, 1) := by decide +kernel
theorem dX11_shop_91 : decode cX11_shop 91 = .ok (.aload_n 0, 1) := by decide +kernel
theorem dX11_shop_92 : decode cX11_shop 92 = .ok (.getfield 7, 3) := by decide +kernel
theorem dX11_shop_95 : decode cX11_shop 95 = .ok (.bipush 13, 2) := by decide +kernel
theorem dX11_shop_97 : decode cX11_shop 97 = .ok (.iaload, 1) := by decide +kernel
theorem dX11_shop_98 : decode cX11_shop 98 = .ok (.iload_n 1, 1) := by decide +kernel
theorem dX11_shop_99 : decode cX11_shop 99 = .ok (.invokestatic 148, 3) := by decide +kernel
theorem dX11_shop_102 : decode cX11_shop 102 = .ok (.invokestatic 152, 3) := by decide +kernel
theorem dX11_shop_105 : decode cX11_shop 105 = .ok (.ireturn, 1) := by decide +kernel
theorem dX11_shop_106 : decode cX11_shop 106 = .ok (.aload_n 0, 1) := by decide +kernel
theorem dX11_shop_107 : decode cX11_shop 107 = .ok (.iconst 0, 1) := by decide +kernel
theorem dX11_shop_108 : decode cX11_shop 108 = .ok (.iload_n 1, 1) := by decide +kernel
theorem dX11_shop_109 : decode cX11_shop 109 = .ok (.invokevirtual 156, 3) := by decide +kernel
theorem dX11_shop_112 : decode cX11_shop 112 = .ok (.ireturn, 1) := by decide +kernel
theorem dX11_shop_113 : decode cX11_shop 113 = .ok (.bipush (-3), 2) := by decide +kernel
theorem dX11_shop_115 : decode cX11_shop 115 = .ok (.ireturn, 1) := by decide +kernel
theorem dX11_tireBy_0 : decode cX11_tireBy 0 = .ok (.aload_n 0, 1) := by decide +kernel
theorem dX11_tireBy_1 : decode cX11_tireBy 1 = .ok (.getfield 7, 3) := by decide +kernel
theorem dX11_tireBy_4 : decode cX11_tireBy 4 = .ok (.iload_n 1, 1) := by decide +kernel
theorem dX11_tireBy_5 : decode cX11_tireBy 5 = .ok (.bipush 6, 2) := by decide +kernel
theorem dX11_tireBy_7 : decode cX11_tireBy 7 = .ok (.iadd, 1) := by decide +kernel
theorem dX11_tireBy_8 : decode cX11_tireBy 8 = .ok (.iload_n 2, 1) := by decide +kernel
theorem dX11_tireBy_9 : decode cX11_tireBy 9 = .ok (.iadd, 1) := by decide +kernel
theorem dX11_tireBy_10 : decode cX11_tireBy 10 = .ok (.iaload, 1) := by decide +kernel
theorem dX11_tireBy_11 : decode cX11_tireBy 11 = .ok (.iload_n 3, 1) := by decide +kernel
theorem dX11_tireBy_12 : decode cX11_tireBy 12 = .ok (.iadd, 1) := by decide +kernel
theorem dX11_tireBy_13 : decode cX11_tireBy 13 = .ok (.istore 4, 2) := by decide +kernel
theorem dX11_tireBy_15 : decode cX11_tireBy 15 = .ok (.aload_n 0, 1) := by decide +kernel
theorem dX11_tireBy_16 : decode cX11_tireBy 16 = .ok (.getfield 7, 3) := by decide +kernel
theorem dX11_tireBy_19 : decode cX11_tireBy 19 = .ok (.iload_n 1, 1) := by decide +kernel
theorem dX11_tireBy_20 : decode cX11_tireBy 20 = .ok (.bipush 6, 2) := by decide +kernel
theorem dX11_tireBy_22 : decode cX11_tireBy 22 = .ok (.iadd, 1) := by decide +kernel
theorem dX11_tireBy_23 : decode cX11_tireBy 23 = .ok (.iload_n 2, 1) := by decide +kernel
theorem dX11_tireBy_24 : decode cX11_tireBy 24 = .ok (.iadd, 1) := by decide +kernel
theorem dX11_tireBy_25 : decode cX11_tireBy 25 = .ok (.iload 4, 2) := by decide +kernel
theorem dX11_tireBy_27 : decode cX11_tireBy 27 = .ok (.ifCond .ge 7, 3) := by decide +kernel
theorem dX11_tireBy_30 : decode cX11_tireBy 30 = .ok (.iconst 0, 1) := by decide +kernel
theorem dX11_tireBy_31 : decode cX11_tireBy 31 = .ok (.goto 5, 3) := by decide +kernel
theorem dX11_tireBy_34 : decode cX11_tireBy 34 = .ok (.iload 4, 2) := by decide +kernel
theorem dX11_tireBy_36 : decode cX11_tireBy 36 = .ok (.iastore, 1) := by decide +kernel
theorem dX11_tireBy_37 : decode cX11_tireBy 37 = .ok (.return_, 1) := by decide +kernel
theorem dX11_tireAs_0 : decode cX11_tireAs 0 = .ok (.iload_n 2, 1) := by decide +kernel
theorem dX11_tireAs_1 : decode cX11_tireAs 1 = .ok (.ifCond .eq 8, 3) := by decide +kernel
theorem dX11_tireAs_4 : decode cX11_tireAs 4 = .ok (.iload_n 2, 1) := by decide +kernel
theorem dX11_tireAs_5 : decode cX11_tireAs 5 = .ok (.iconst 1, 1) := by decide +kernel
theorem dX11_tireAs_6 : decode cX11_tireAs 6 = .ok (.if_icmp .ne 33, 3) := by decide +kernel
theorem dX11_tireAs_9 : decode cX11_tireAs 9 = .ok (.aload_n 0, 1) := by decide +kernel
theorem dX11_tireAs_10 : decode cX11_tireAs 10 = .ok (.iload_n 1, 1) := by decide +kernel
theorem dX11_tireAs_11 : decode cX11_tireAs 11 = .ok (.iload_n 3, 1) := by decide +kernel
theorem dX11_tireAs_12 : decode cX11_tireAs 12 = .ok (.aload_n 0, 1) := by decide +kernel
theorem dX11_tireAs_13 : decode cX11_tireAs 13 = .ok (.getfield 17, 3) := by decide +kernel
theorem dX11_tireAs_16 : decode cX11_tireAs 16 = .ok (.iload_n 3, 1) := by decide +kernel
theorem dX11_tireAs_17 : decode cX11_tireAs 17 = .ok (.iaload, 1) := by decide +kernel
theorem dX11_tireAs_18 : decode cX11_tireAs 18 = .ok (.invokevirtual 159, 3) := by decide +kernel
theorem dX11_tireAs_21 : decode cX11_tireAs 21 = .ok (.aload_n 0, 1) := by decide +kernel
theorem dX11_tireAs_22 : decode cX11_tireAs 22 = .ok (.iload_n 1, 1) := by decide +kernel
theorem dX11_tireAs_23 : decode cX11_tireAs 23 = .ok (.iload_n 3, 1) := by decide +kernel
theorem dX11_tireAs_24 : decode cX11_tireAs 24 = .ok (.iconst 1, 1) := by decide +kernel
theorem dX11_tireAs_25 : decode cX11_tireAs 25 = .ok (.iadd, 1) := by decide +kernel
theorem dX11_tireAs_26 : decode cX11_tireAs 26 = .ok (.iconst 4, 1) := by decide +kernel
theorem dX11_tireAs_27 : decode cX11_tireAs 27 = .ok (.irem, 1) := by decide +kernel
theorem dX11_tireAs_28 : decode cX11_tireAs 28 = .ok (.aload_n 0, 1) := by decide +kernel
theorem dX11_tireAs_29 : decode cX11_tireAs 29 = .ok (.getfield 17, 3) := by decide +kernel
theorem dX11_tireAs_32 : decode cX11_tireAs 32 = .ok (.iload_n 3, 1) := by decide +kernel
theorem dX11_tireAs_33 : decode cX11_tireAs 33 = .ok (.iaload, 1) := by decide +kernel
theorem dX11_tireAs_34 : decode cX11_tireAs 34 = .ok (.iconst 2, 1) := by decide +kernel
theorem dX11_tireAs_35 : decode cX11_tireAs 35 = .ok (.idiv, 1) := by decide +kernel
theorem dX11_tireAs_36 : decode cX11_tireAs 36 = .ok (.invokevirtual 159, 3) := by decide +kernel
theorem dX11_tireAs_39 : decode cX11_tireAs 39 = .ok (.iconst 0, 1) := by decide +kernel
theorem dX11_tireAs_40 : decode cX11_tireAs 40 = .ok (.istore 4, 2) := by decide +kernel
theorem dX11_tireAs_42 : decode cX11_tireAs 42 = .ok (.iload 4, 2) := by decide +kernel
theorem dX11_tireAs_44 : decode cX11_tireAs 44 = .ok (.iconst 4, 1) := by decide +kernel
theorem dX11_tireAs_45 : decode cX11_tireAs 45 = .ok (.if_icmp .ge 82, 3) := by decide +kernel
theorem dX11_tireAs_48 : decode cX11_tireAs 48 = .ok (.aload_n 0, 1) := by decide +kernel
theorem dX11_tireAs_49 : decode cX11_tireAs 49 = .ok (.iload_n 1, 1) := by decide +kernel
theorem dX11_tireAs_50 : decode cX11_tireAs 50 = .ok (.iload 4, 2) := by decide +kernel
theorem dX11_tireAs_52 : decode cX11_tireAs 52 = .ok (.iload_n 2, 1) := by decide +kernel
theorem dX11_tireAs_53 : decode cX11_tireAs 53 = .ok (.iconst 1, 1) := by decide +kernel
theorem dX11_tireAs_54 : decode cX11_tireAs 54 = .ok (.if_icmp .ne 7, 3) := by decide +kernel
theorem dX11_tireAs_57 : decode cX11_tireAs 57 = .ok (.iconst 2, 1) := by decide +kernel
theorem dX11_tireAs_58 : decode cX11_tireAs 58 = .ok (.goto 14, 3) := by decide +kernel
theorem dX11_tireAs_61 : decode cX11_tireAs 61 = .ok (.iload_n 2, 1) := by decide +kernel
theorem dX11_tireAs_62 : decode cX11_tireAs 62 = .ok (.iconst 2, 1) := by decide +kernel
theorem dX11_tireAs_63 : decode cX11_tireAs 63 = .ok (.if_icmp .ne 8, 3) := by decide +kernel
theorem dX11_tireAs_66 : decode cX11_tireAs 66 = .ok (.bipush (-10), 2) := by decide +kernel
theorem dX11_tireAs_68 : decode cX11_tireAs 68 = .ok (.goto 4, 3) := by decide +kernel
theorem dX11_tireAs_71 : decode cX11_tireAs 71 = .ok (.iconst 0, 1) := by decide +kernel
theorem dX11_tireAs_72 : decode cX11_tireAs 72 = .ok (.invokevirtual 159, 3) := by decide +kernel
theorem dX11_tireAs_75 : decode cX11_tireAs 75 = .ok (.aload_n 0, 1) := by decide +kernel
theorem dX11_tireAs_76 : decode cX11_tireAs 76 = .ok (.getfield 7, 3) := by decide +kernel
theorem dX11_tireAs_79 : decode cX11_tireAs 79 = .ok (.iload_n 1, 1) := by decide +kernel
theorem dX11_tireAs_80 : decode cX11_tireAs 80 = .ok (.bipush 6, 2) := by decide +kernel
theorem dX11_tireAs_82 : decode cX11_tireAs 82 = .ok (.iadd, 1) := by decide +kernel
theorem dX11_tireAs_83 : decode cX11_tireAs 83 = .ok (.iload 4, 2) := by decide +kernel
theorem dX11_tireAs_85 : decode cX11_tireAs 85 = .ok (.iadd, 1) := by decide +kernel
theorem dX11_tireAs_86 : decode cX11_tireAs 86 = .ok (.aload_n 0, 1) := by decide +kernel
theorem dX11_tireAs_87 : decode cX11_tireAs 87 = .ok (.getfield 7, 3) := by decide +kernel
theorem dX11_tireAs_90 : decode cX11_tireAs 90 = .ok (.iload_n 1, 1) := by decide +kernel
theorem dX11_tireAs_91 : decode cX11_tireAs 91 = .ok (.bipush 6, 2) := by decide +kernel
theorem dX11_tireAs_93 : decode cX11_tireAs 93 = .ok (.iadd, 1) := by decide +kernel
theorem dX11_tireAs_94 : decode cX11_tireAs 94 = .ok (.iload 4, 2) := by decide +kernel
theorem dX11_tireAs_96 : decode cX11_tireAs 96 = .ok (.iadd, 1) := by decide +kernel
theorem dX11_tireAs_97 : decode cX11_tireAs 97 = .ok (.iaload, 1) := by decide +kernel
theorem dX11_tireAs_98 : decode cX11_tireAs 98 = .ok (.bipush 99, 2) := by decide +kernel
theorem dX11_tireAs_100 : decode cX11_tireAs 100 = .ok (.if_icmp .le 8, 3) := by decide +kernel
theorem dX11_tireAs_103 : decode cX11_tireAs 103 = .ok (.bipush 99, 2) := by decide +kernel
theorem dX11_tireAs_105 : decode cX11_tireAs 105 = .ok (.goto 15, 3) := by decide +kernel
theorem dX11_tireAs_108 : decode cX11_tireAs 108 = .ok (.aload_n 0, 1) := by decide +kernel
theorem dX11_tireAs_109 : decode cX11_tireAs 109 = .ok (.getfield 7, 3) := by decide +kernel
theorem dX11_tireAs_112 : decode cX11_tireAs 112 = .ok (.iload_n 1, 1) := by decide +kernel
theorem dX11_tireAs_113 : decode cX11_tireAs 113 = .ok (.bipush 6, 2) := by decide +kernel
theorem dX11_tireAs_115 : decode cX11_tireAs 115 = .ok (.iadd, 1) := by decide +kernel
theorem dX11_tireAs_116 : decode cX11_tireAs 116 = .ok (.iload 4, 2) := by decide +kernel
theorem dX11_tireAs_118 : decode cX11_tireAs 118 = .ok (.iadd, 1) := by decide +kernel
theorem dX11_tireAs_119 : decode cX11_tireAs 119 = .ok (.iaload, 1) := by decide +kernel
theorem dX11_tireAs_120 : decode cX11_tireAs 120 = .ok (.iastore, 1) := by decide +kernel
theorem dX11_tireAs_121 : decode cX11_tireAs 121 = .ok (.iinc 4 1, 3) := by decide +kernel
theorem dX11_tireAs_124 : decode cX11_tireAs 124 = .ok (.goto (-82), 3) := by decide +kernel
theorem dX11_tireAs_127 : decode cX11_tireAs 127 = .ok (.return_, 1) := by decide +kernel
theorem dX11_copy_0 : decode cX11_copy 0 = .ok (.iconst 0, 1) := by decide +kernel
theorem dX11_copy_1 : decode cX11_copy 1 = .ok (.istore_n 3, 1) := by decide +kernel
theorem dX11_copy_2 : decode cX11_copy 2 = .ok (.iload_n 3, 1) := by decide +kernel
theorem dX11_copy_3 : decode cX11_copy 3 = .ok (.bipush 16, 2) := by decide +kernel
theorem dX11_copy_5 : decode cX11_copy 5 = .ok (.if_icmp .ge 25, 3) := by decide +kernel
theorem dX11_copy_8 : decode cX11_copy 8 = .ok (.aload_n 0, 1) := by decide +kernel
theorem dX11_copy_9 : decode cX11_copy 9 = .ok (.getfield 7, 3) := by decide +kernel
theorem dX11_copy_12 : decode cX11_copy 12 = .ok (.iload_n 2, 1) := by decide +kernel
theorem dX11_copy_13 : decode cX11_copy 13 = .ok (.iload_n 3, 1) := by decide +kernel
theorem dX11_copy_14 : decode cX11_copy 14 = .ok (.iadd, 1) := by decide +kernel
theorem dX11_copy_15 : decode cX11_copy 15 = .ok (.aload_n 0, 1) := by decide +kernel
theorem dX11_copy_16 : decode cX11_copy 16 = .ok (.getfield 7, 3) := by decide +kernel
theorem dX11_copy_19 : decode cX11_copy 19 = .ok (.iload_n 1, 1) := by decide +kernel
theorem dX11_copy_20 : decode cX11_copy 20 = .ok (.iload_n 3, 1) := by decide +kernel
theorem dX11_copy_21 : decode cX11_copy 21 = .ok (.iadd, 1) := by decide +kernel
theorem dX11_copy_22 : decode cX11_copy 22 = .ok (.iaload, 1) := by decide +kernel
theorem dX11_copy_23 : decode cX11_copy 23 = .ok (.iastore, 1) := by decide +kernel
theorem dX11_copy_24 : decode cX11_copy 24 = .ok (.iinc 3 1, 3) := by decide +kernel
theorem dX11_copy_27 : decode cX11_copy 27 = .ok (.goto (-25), 3) := by decide +kernel
theorem dX11_copy_30 : decode cX11_copy 30 = .ok (.return_, 1) := by decide +kernel
theorem dX11_as_0 : decode cX11_as 0 = .ok (.aload_n 0, 1) := by decide +kernel
theorem dX11_as_1 : decode cX11_as 1 = .ok (.iload_n 1, 1) := by decide +kernel
theorem dX11_as_2 : decode cX11_as 2 = .ok (.invokevirtual 144, 3) := by decide +kernel
theorem dX11_as_5 : decode cX11_as 5 = .ok (.ifCond .ne 6, 3) := by decide +kernel
theorem dX11_as_8 : decode cX11_as 8 = .ok (.bipush (-2), 2) := by decide +kernel
theorem dX11_as_10 : decode cX11_as 10 = .ok (.ireturn, 1) := by decide +kernel
theorem dX11_as_11 : decode cX11_as 11 = .ok (.iload_n 2, 1) := by decide +kernel
theorem dX11_as_12 : decode cX11_as 12 = .ok (.i2l, 1) := by decide +kernel
theorem dX11_as_13 : decode cX11_as 13 = .ok (.lconst 0, 1) := by decide +kernel
theorem dX11_as_14 : decode cX11_as 14 = .ok (.ldc2_w 163, 3) := by decide +kernel
theorem dX11_as_17 : decode cX11_as 17 = .ok (.invokestatic 68, 3) := by decide +kernel
theorem dX11_as_20 : decode cX11_as 20 = .ok (.ifCond .ne 6, 3) := by decide +kernel
theorem dX11_as_23 : decode cX11_as 23 = .ok (.bipush (-3), 2) := by decide +kernel
theorem dX11_as_25 : decode cX11_as 25 = .ok (.ireturn, 1) := by decide +kernel
theorem dX11_as_26 : decode cX11_as 26 = .ok (.aload_n 0, 1) := by decide +kernel
theorem dX11_as_27 : decode cX11_as 27 = .ok (.getfield 23, 3) := by decide +kernel
theorem dX11_as_30 : decode cX11_as 30 = .ok (.iload_n 1, 1) := by decide +kernel
theorem dX11_as_31 : decode cX11_as 31 = .ok (.iaload, 1) := by decide +kernel
theorem dX11_as_32 : decode cX11_as 32 = .ok (.istore_n 3, 1) := by decide +kernel
theorem dX11_as_33 : decode cX11_as 33 = .ok (.iload_n 2, 1) := by decide +kernel
theorem dX11_as_34 : decode cX11_as 34 = .ok (.ifCond .eq 25, 3) := by decide +kernel
theorem dX11_as_37 : decode cX11_as 37 = .ok (.iload_n 2, 1) := by decide +kernel
theorem dX11_as_38 : decode cX11_as 38 = .ok (.iconst 1, 1) := by decide +kernel
theorem dX11_as_39 : decode cX11_as 39 = .ok (.if_icmp .ne 8, 3) := by decide +kernel
theorem dX11_as_42 : decode cX11_as 42 = .ok (.iload_n 3, 1) := by decide +kernel
theorem dX11_as_43 : decode cX11_as 43 = .ok (.iconst 2, 1) := by decide +kernel
theorem dX11_as_44 : decode cX11_as 44 = .ok (.if_icmp .lt 15, 3) := by decide +kernel
theorem dX11_as_47 : decode cX11_as 47 = .ok (.iload_n 2, 1) := by decide +kernel
theorem dX11_as_48 : decode cX11_as 48 = .ok (.iconst 1, 1) := by decide +kernel
theorem dX11_as_49 : decode cX11_as 49 = .ok (.if_icmp .le 14, 3) := by decide +kernel
theorem dX11_as_52 : decode cX11_as 52 = .ok (.iload_n 2, 1) := by decide +kernel
theorem dX11_as_53 : decode cX11_as 53 = .ok (.iload_n 3, 1) := by decide +kernel
theorem dX11_as_54 : decode cX11_as 54 = .ok (.iconst 1, 1) := by decide +kernel
theorem dX11_as_55 : decode cX11_as 55 = .ok (.iadd, 1) := by decide +kernel
theorem dX11_as_56 : decode cX11_as 56 = .ok (.if_icmp .ne 7, 3) := by decide +kernel
theorem dX11_as_59 : decode cX11_as 59 = .ok (.iconst 1, 1) := by decide +kernel
theorem dX11_as_60 : decode cX11_as 60 = .ok (.goto 4, 3) := by decide +kernel
theorem dX11_as_63 : decode cX11_as 63 = .ok (.iconst 0, 1) := by decide +kernel
theorem dX11_as_64 : decode cX11_as 64 = .ok (.istore 4, 2) := by decide +kernel
theorem dX11_as_66 : decode cX11_as 66 = .ok (.iload 4, 2) := by decide +kernel
theorem dX11_as_68 : decode cX11_as 68 = .ok (.ifCond .ne 6, 3) := by decide +kernel
theorem dX11_as_71 : decode cX11_as 71 = .ok (.bipush (-4), 2) := by decide +kernel
theorem dX11_as_73 : decode cX11_as 73 = .ok (.ireturn, 1) := by decide +kernel
theorem dX11_as_74 : decode cX11_as 74 = .ok (.aload_n 0, 1) := by decide +kernel
theorem dX11_as_75 : decode cX11_as 75 = .ok (.iconst 0, 1) := by decide +kernel
theorem dX11_as_76 : decode cX11_as 76 = .ok (.bipush 16, 2) := by decide +kernel
theorem dX11_as_78 : decode cX11_as 78 = .ok (.invokevirtual 165, 3) := by decide +kernel
theorem dX11_as_81 : decode cX11_as 81 = .ok (.aload_n 0, 1) := by decide +kernel
theorem dX11_as_82 : decode cX11_as 82 = .ok (.bipush 16, 2) := by decide +kernel
theorem dX11_as_84 : decode cX11_as 84 = .ok (.iload_n 3, 1) := by decide +kernel
theorem dX11_as_85 : decode cX11_as 85 = .ok (.aload_n 0, 1) := by decide +kernel
theorem dX11_as_86 : decode cX11_as 86 = .ok (.getfield 26, 3) := by decide +kernel
theorem dX11_as_89 : decode cX11_as 89 = .ok (.iload_n 1, 1) := by decide +kernel
theorem dX11_as_90 : decode cX11_as 90 = .ok (.iaload, 1) := by decide +kernel
theorem dX11_as_91 : decode cX11_as 91 = .ok (.invokevirtual 168, 3) := by decide +kernel
theorem dX11_as_94 : decode cX11_as 94 = .ok (.aload_n 0, 1) := by decide +kernel
theorem dX11_as_95 : decode cX11_as 95 = .ok (.getfield 7, 3) := by decide +kernel
theorem dX11_as_98 : decode cX11_as 98 = .ok (.bipush 22, 2) := by decide +kernel
theorem dX11_as_100 : decode cX11_as 100 = .ok (.aload_n 0, 1) := by decide +kernel
theorem dX11_as_101 : decode cX11_as 101 = .ok (.getfield 26, 3) := by decide +kernel
theorem dX11_as_104 : decode cX11_as 104 = .ok (.iload_n 1, 1) := by decide +kernel
theorem dX11_as_105 : decode cX11_as 105 = .ok (.iaload, 1) := by decide +kernel
theorem dX11_as_106 : decode cX11_as 106 = .ok (.iadd, 1) := by decide +kernel
theorem dX11_as_107 : decode cX11_as 107 = .ok (.iaload, 1) := by decide +kernel
theorem dX11_as_108 : decode cX11_as 108 = .ok (.aload_n 0, 1) := by decide +kernel
theorem dX11_as_109 : decode cX11_as 109 = .ok (.getfield 7, 3) := by decide +kernel
theorem dX11_as_112 : decode cX11_as 112 = .ok (.bipush 6, 2) := by decide +kernel
theorem dX11_as_114 : decode cX11_as 114 = .ok (.aload_n 0, 1) := by decide +kernel
theorem dX11_as_115 : decode cX11_as 115 = .ok (.getfield 26, 3) := by decide +kernel
theorem dX11_as_118 : decode cX11_as 118 = .ok (.iload_n 1, 1) := by decide +kernel
theorem dX11_as_119 : decode cX11_as 119 = .ok (.iaload, 1) := by decide +kernel
theorem dX11_as_120 : decode cX11_as 120 = .ok (.iadd, 1) := by decide +kernel
theorem dX11_as_121 : decode cX11_as 121 = .ok (.iaload, 1) := by decide +kernel
theorem dX11_as_122 : decode cX11_as 122 = .ok (.isub, 1) := by decide +kernel
theorem dX11_as_123 : decode cX11_as 123 = .ok (.bipush 99, 2) := by decide +kernel
theorem dX11_as_125 : decode cX11_as 125 = .ok (.iadd, 1) := by decide +kernel
theorem dX11_as_126 : decode cX11_as 126 = .ok (.ireturn, 1) := by decide +kernel
theorem dX11_goOn_0 : decode cX11_goOn 0 = .ok (.iconst 0, 1) := by decide +kernel
theorem dX11_goOn_1 : decode cX11_goOn 1 = .ok (.istore_n 3, 1) := by decide +kernel
theorem dX11_goOn_2 : decode cX11_goOn 2 = .ok (.iload_n 3, 1) := by decide +kernel
theorem dX11_goOn_3 : decode cX11_goOn 3 = .ok (.iload_n 2, 1) := by decide +kernel
theorem dX11_goOn_4 : decode cX11_goOn 4 = .ok (.if_icmp .ge 71, 3) := by decide +kernel
theorem dX11_goOn_7 : decode cX11_goOn 7 = .ok (.iconst 0, 1) := by decide +kernel
theorem dX11_goOn_8 : decode cX11_goOn 8 = .ok (.istore 4, 2) := by decide +kernel
theorem dX11_goOn_10 : decode cX11_goOn 10 = .ok (.iload 4, 2) := by decide +kernel
theorem dX11_goOn_12 : decode cX11_goOn 12 = .ok (.iconst 4, 1) := by decide +kernel
theorem dX11_goOn_13 : decode cX11_goOn 13 = .ok (.if_icmp .ge 24, 3) := by decide +kernel
theorem dX11_goOn_16 : decode cX11_goOn 16 = .ok (.aload_n 0, 1) := by decide +kernel
theorem dX11_goOn_17 : decode cX11_goOn 17 = .ok (.iload_n 1, 1) := by decide +kernel
theorem dX11_goOn_18 : decode cX11_goOn 18 = .ok (.iload 4, 2) := by decide +kernel
theorem dX11_goOn_20 : decode cX11_goOn 20 = .ok (.aload_n 0, 1) := by decide +kernel
theorem dX11_goOn_21 : decode cX11_goOn 21 = .ok (.getfield 20, 3) := by decide +kernel
theorem dX11_goOn_24 : decode cX11_goOn 24 = .ok (.iload 4, 2) := by decide +kernel
theorem dX11_goOn_26 : decode cX11_goOn 26 = .ok (.iaload, 1) := by decide +kernel
theorem dX11_goOn_27 : decode cX11_goOn 27 = .ok (.ineg, 1) := by decide +kernel
theorem dX11_goOn_28 : decode cX11_goOn 28 = .ok (.invokevirtual 159, 3) := by decide +kernel
theorem dX11_goOn_31 : decode cX11_goOn 31 = .ok (.iinc 4 1, 3) := by decide +kernel
theorem dX11_goOn_34 : decode cX11_goOn 34 = .ok (.goto (-24), 3) := by decide +kernel
theorem dX11_goOn_37 : decode cX11_goOn 37 = .ok (.aload_n 0, 1) := by decide +kernel
theorem dX11_goOn_38 : decode cX11_goOn 38 = .ok (.getfield 7, 3) := by decide +kernel
theorem dX11_goOn_41 : decode cX11_goOn 41 = .ok (.iload_n 1, 1) := by decide +kernel
theorem dX11_goOn_42 : decode cX11_goOn 42 = .ok (.bipush 14, 2) := by decide +kernel
theorem dX11_goOn_44 : decode cX11_goOn 44 = .ok (.iadd, 1) := by decide +kernel
theorem dX11_goOn_45 : decode cX11_goOn 45 = .ok (.dup2, 1) := by decide +kernel
theorem dX11_goOn_46 : decode cX11_goOn 46 = .ok (.iaload, 1) := by decide +kernel
theorem dX11_goOn_47 : decode cX11_goOn 47 = .ok (.aload_n 0, 1) := by decide +kernel
theorem dX11_goOn_48 : decode cX11_goOn 48 = .ok (.getfield 7, 3) := by decide +kernel
theorem dX11_goOn_51 : decode cX11_goOn 51 = .ok (.iload_n 1, 1) := by decide +kernel
theorem dX11_goOn_52 : decode cX11_goOn 52 = .ok (.bipush 14, 2) := by decide +kernel
theorem dX11_goOn_54 : decode cX11_goOn 54 = .ok (.iadd, 1) := by decide +kernel
theorem dX11_goOn_55 : decode cX11_goOn 55 = .ok (.iaload, 1) := by decide +kernel
theorem dX11_goOn_56 : decode cX11_goOn 56 = .ok (.ifCond .le 7, 3) := by decide +kernel
theorem dX11_goOn_59 : decode cX11_goOn 59 = .ok (.iconst 1, 1) := by decide +kernel
theorem dX11_goOn_60 : decode cX11_goOn 60 = .ok (.goto 4, 3) := by decide +kernel
theorem dX11_goOn_63 : decode cX11_goOn 63 = .ok (.iconst 0, 1) := by decide +kernel
theorem dX11_goOn_64 : decode cX11_goOn 64 = .ok (.invokestatic 152, 3) := by decide +kernel
theorem dX11_goOn_67 : decode cX11_goOn 67 = .ok (.isub, 1) := by decide +kernel
theorem dX11_goOn_68 : decode cX11_goOn 68 = .ok (.iastore, 1) := by decide +kernel
theorem dX11_goOn_69 : decode cX11_goOn 69 = .ok (.iinc 3 1, 3) := by decide +kernel
theorem dX11_goOn_72 : decode cX11_goOn 72 = .ok (.goto (-70), 3) := by decide +kernel
theorem dX11_goOn_75 : decode cX11_goOn 75 = .ok (.aload_n 0, 1) := by decide +kernel
theorem dX11_goOn_76 : decode cX11_goOn 76 = .ok (.getfield 7, 3) := by decide +kernel
theorem dX11_goOn_79 : decode cX11_goOn 79 = .ok (.iload_n 1, 1) := by decide +kernel
theorem dX11_goOn_80 : decode cX11_goOn 80 = .ok (.bipush 11, 2) := by decide +kernel
theorem dX11_goOn_82 : decode cX11_goOn 82 = .ok (.iadd, 1) := by decide +kernel
theorem dX11_goOn_83 : decode cX11_goOn 83 = .ok (.dup2, 1) := by decide +kernel
theorem dX11_goOn_84 : decode cX11_goOn 84 = .ok (.iaload, 1) := by decide +kernel
theorem dX11_goOn_85 : decode cX11_goOn 85 = .ok (.iload_n 2, 1) := by decide +kernel
theorem dX11_goOn_86 : decode cX11_goOn 86 = .ok (.iadd, 1) := by decide +kernel
theorem dX11_goOn_87 : decode cX11_goOn 87 = .ok (.iastore, 1) := by decide +kernel
theorem dX11_goOn_88 : decode cX11_goOn 88 = .ok (.return_, 1) := by decide +kernel
theorem dX11_farTo_0 : decode cX11_farTo 0 = .ok (.aload_n 0, 1) := by decide +kernel
theorem dX11_farTo_1 : decode cX11_farTo 1 = .ok (.getfield 7, 3) := by decide +kernel
theorem dX11_farTo_4 : decode cX11_farTo 4 = .ok (.iload_n 1, 1) := by decide +kernel
theorem dX11_farTo_5 : decode cX11_farTo 5 = .ok (.iload_n 2, 1) := by decide +kernel
theorem dX11_farTo_6 : decode cX11_farTo 6 = .ok (.iadd, 1) := by decide +kernel
theorem dX11_farTo_7 : decode cX11_farTo 7 = .ok (.iaload, 1) := by decide +kernel
theorem dX11_farTo_8 : decode cX11_farTo 8 = .ok (.aload_n 0, 1) := by decide +kernel
theorem dX11_farTo_9 : decode cX11_farTo 9 = .ok (.getfield 7, 3) := by decide +kernel
theorem dX11_farTo_12 : decode cX11_farTo 12 = .ok (.iload_n 1, 1) := by decide +kernel
theorem dX11_farTo_13 : decode cX11_farTo 13 = .ok (.bipush 10, 2) := by decide +kernel
theorem dX11_farTo_15 : decode cX11_farTo 15 = .ok (.iadd, 1) := by decide +kernel
theorem dX11_farTo_16 : decode cX11_farTo 16 = .ok (.iaload, 1) := by decide +kernel
theorem dX11_farTo_17 : decode cX11_farTo 17 = .ok (.if_icmp .ge 24, 3) := by decide +kernel
theorem dX11_farTo_20 : decode cX11_farTo 20 = .ok (.aload_n 0, 1) := by decide +kernel
theorem dX11_farTo_21 : decode cX11_farTo 21 = .ok (.getfield 7, 3) := by decide +kernel
theorem dX11_farTo_24 : decode cX11_farTo 24 = .ok (.iload_n 1, 1) := by decide +kernel
theorem dX11_farTo_25 : decode cX11_farTo 25 = .ok (.bipush 10, 2) := by decide +kernel
theorem dX11_farTo_27 : decode cX11_farTo 27 = .ok (.iadd, 1) := by decide +kernel
theorem dX11_farTo_28 : decode cX11_farTo 28 = .ok (.iaload, 1) := by decide +kernel
theorem dX11_farTo_29 : decode cX11_farTo 29 = .ok (.aload_n 0, 1) := by decide +kernel
theorem dX11_farTo_30 : decode cX11_farTo 30 = .ok (.getfield 7, 3) := by decide +kernel
theorem dX11_farTo_33 : decode cX11_farTo 33 = .ok (.iload_n 1, 1) := by decide +kernel
theorem dX11_farTo_34 : decode cX11_farTo 34 = .ok (.iload_n 2, 1) := by decide +kernel
theorem dX11_farTo_35 : decode cX11_farTo 35 = .ok (.iadd, 1) := by decide +kernel
theorem dX11_farTo_36 : decode cX11_farTo 36 = .ok (.iaload, 1) := by decide +kernel
theorem dX11_farTo_37 : decode cX11_farTo 37 = .ok (.isub, 1) := by decide +kernel
theorem dX11_farTo_38 : decode cX11_farTo 38 = .ok (.goto 21, 3) := by decide +kernel
theorem dX11_farTo_41 : decode cX11_farTo 41 = .ok (.aload_n 0, 1) := by decide +kernel
theorem dX11_farTo_42 : decode cX11_farTo 42 = .ok (.getfield 7, 3) := by decide +kernel
theorem dX11_farTo_45 : decode cX11_farTo 45 = .ok (.iload_n 1, 1) := by decide +kernel
theorem dX11_farTo_46 : decode cX11_farTo 46 = .ok (.iload_n 2, 1) := by decide +kernel
theorem dX11_farTo_47 : decode cX11_farTo 47 = .ok (.iadd, 1) := by decide +kernel
theorem dX11_farTo_48 : decode cX11_farTo 48 = .ok (.iaload, 1) := by decide +kernel
theorem dX11_farTo_49 : decode cX11_farTo 49 = .ok (.aload_n 0, 1) := by decide +kernel
theorem dX11_farTo_50 : decode cX11_farTo 50 = .ok (.getfield 7, 3) := by decide +kernel
theorem dX11_farTo_53 : decode cX11_farTo 53 = .ok (.iload_n 1, 1) := by decide +kernel
theorem dX11_farTo_54 : decode cX11_farTo 54 = .ok (.bipush 10, 2) := by decide +kernel
theorem dX11_farTo_56 : decode cX11_farTo 56 = .ok (.iadd, 1) := by decide +kernel
theorem dX11_farTo_57 : decode cX11_farTo 57 = .ok (.iaload, 1) := by decide +kernel
theorem dX11_farTo_58 : decode cX11_farTo 58 = .ok (.isub, 1) := by decide +kernel
theorem dX11_farTo_59 : decode cX11_farTo 59 = .ok (.ireturn, 1) := by decide +kernel
theorem dX11_visitAs_0 : decode cX11_visitAs 0 = .ok (.aload_n 0, 1) := by decide +kernel
theorem dX11_visitAs_1 : decode cX11_visitAs 1 = .ok (.iload_n 1, 1) := by decide +kernel
theorem dX11_visitAs_2 : decode cX11_visitAs 2 = .ok (.aload_n 0, 1) := by decide +kernel
theorem dX11_visitAs_3 : decode cX11_visitAs 3 = .ok (.iload_n 1, 1) := by decide +kernel
theorem dX11_visitAs_4 : decode cX11_visitAs 4 = .ok (.iload_n 2, 1) := by decide +kernel
theorem dX11_visitAs_5 : decode cX11_visitAs 5 = .ok (.invokevirtual 171, 3) := by decide +kernel
theorem dX11_visitAs_8 : decode cX11_visitAs 8 = .ok (.invokevirtual 174, 3) := by decide +kernel
theorem dX11_visitAs_11 : decode cX11_visitAs 11 = .ok (.aload_n 0, 1) := by decide +kernel
theorem dX11_visitAs_12 : decode cX11_visitAs 12 = .ok (.getfield 7, 3) := by decide +kernel
theorem dX11_visitAs_15 : decode cX11_visitAs 15 = .ok (.iload_n 1, 1) := by decide +kernel
theorem dX11_visitAs_16 : decode cX11_visitAs 16 = .ok (.bipush 10, 2) := by decide +kernel
theorem dX11_visitAs_18 : decode cX11_visitAs 18 = .ok (.iadd, 1) := by decide +kernel
theorem dX11_visitAs_19 : decode cX11_visitAs 19 = .ok (.aload_n 0, 1) := by decide +kernel
theorem dX11_visitAs_20 : decode cX11_visitAs 20 = .ok (.getfield 7, 3) := by decide +kernel
theorem dX11_visitAs_23 : decode cX11_visitAs 23 = .ok (.iload_n 1, 1) := by decide +kernel
theorem dX11_visitAs_24 : decode cX11_visitAs 24 = .ok (.iload_n 2, 1) := by decide +kernel
theorem dX11_visitAs_25 : decode cX11_visitAs 25 = .ok (.iadd, 1) := by decide +kernel
theorem dX11_visitAs_26 : decode cX11_visitAs 26 = .ok (.iaload, 1) := by decide +kernel
theorem dX11_visitAs_27 : decode cX11_visitAs 27 = .ok (.iastore, 1) := by decide +kernel
theorem dX11_visitAs_28 : decode cX11_visitAs 28 = .ok (.aload_n 0, 1) := by decide +kernel
theorem dX11_visitAs_29 : decode cX11_visitAs 29 = .ok (.iload_n 1, 1) := by decide +kernel
theorem dX11_visitAs_30 : decode cX11_visitAs 30 = .ok (.iload_n 2, 1) := by decide +kernel
theorem dX11_visitAs_31 : decode cX11_visitAs 31 = .ok (.invokevirtual 156, 3) := by decide +kernel
theorem dX11_visitAs_34 : decode cX11_visitAs 34 = .ok (.istore 4, 2) := by decide +kernel
theorem dX11_visitAs_36 : decode cX11_visitAs 36 = .ok (.iload 4, 2) := by decide +kernel
theorem dX11_visitAs_38 : decode cX11_visitAs 38 = .ok (.aload_n 0, 1) := by decide +kernel
theorem dX11_visitAs_39 : decode cX11_visitAs 39 = .ok (.getfield 38, 3) := by decide +kernel
theorem dX11_visitAs_42 : decode cX11_visitAs 42 = .ok (.iconst 0, 1) := by decide +kernel
theorem dX11_visitAs_43 : decode cX11_visitAs 43 = .ok (.iaload, 1) := by decide +kernel
theorem dX11_visitAs_44 : decode cX11_visitAs 44 = .ok (.if_icmp .lt 70, 3) := by decide +kernel
theorem dX11_visitAs_47 : decode cX11_visitAs 47 = .ok (.aload_n 0, 1) := by decide +kernel
theorem dX11_visitAs_48 : decode cX11_visitAs 48 = .ok (.getfield 7, 3) := by decide +kernel
theorem dX11_visitAs_51 : decode cX11_visitAs 51 = .ok (.iload_n 1, 1) := by decide +kernel
theorem dX11_visitAs_52 : decode cX11_visitAs 52 = .ok (.bipush 13, 2) := by decide +kernel
theorem dX11_visitAs_54 : decode cX11_visitAs 54 = .ok (.iadd, 1) := by decide +kernel
theorem dX11_visitAs_55 : decode cX11_visitAs 55 = .ok (.iaload, 1) := by decide +kernel
theorem dX11_visitAs_56 : decode cX11_visitAs 56 = .ok (.iload_n 2, 1) := by decide +kernel
theorem dX11_visitAs_57 : decode cX11_visitAs 57 = .ok (.invokestatic 148, 3) := by decide +kernel
theorem dX11_visitAs_60 : decode cX11_visitAs 60 = .ok (.ifCond .ne 54, 3) := by decide +kernel
theorem dX11_visitAs_63 : decode cX11_visitAs 63 = .ok (.aload_n 0, 1) := by decide +kernel
theorem dX11_visitAs_64 : decode cX11_visitAs 64 = .ok (.getfield 32, 3) := by decide +kernel
theorem dX11_visitAs_67 : decode cX11_visitAs 67 = .ok (.iload_n 2, 1) := by decide +kernel
theorem dX11_visitAs_68 : decode cX11_visitAs 68 = .ok (.iaload, 1) := by decide +kernel
theorem dX11_visitAs_69 : decode cX11_visitAs 69 = .ok (.aload_n 0, 1) := by decide +kernel
theorem dX11_visitAs_70 : decode cX11_visitAs 70 = .ok (.getfield 7, 3) := by decide +kernel
theorem dX11_visitAs_73 : decode cX11_visitAs 73 = .ok (.iload_n 1, 1) := by decide +kernel
theorem dX11_visitAs_74 : decode cX11_visitAs 74 = .ok (.bipush 12, 2) := by decide +kernel
theorem dX11_visitAs_76 : decode cX11_visitAs 76 = .ok (.iadd, 1) := by decide +kernel
theorem dX11_visitAs_77 : decode cX11_visitAs 77 = .ok (.iaload, 1) := by decide +kernel
theorem dX11_visitAs_78 : decode cX11_visitAs 78 = .ok (.if_icmp .gt 36, 3) := by decide +kernel
theorem dX11_visitAs_81 : decode cX11_visitAs 81 = .ok (.aload_n 0, 1) := by decide +kernel
theorem dX11_visitAs_82 : decode cX11_visitAs 82 = .ok (.getfield 7, 3) := by decide +kernel
theorem dX11_visitAs_85 : decode cX11_visitAs 85 = .ok (.iload_n 1, 1) := by decide +kernel
theorem dX11_visitAs_86 : decode cX11_visitAs 86 = .ok (.bipush 13, 2) := by decide +kernel
theorem dX11_visitAs_88 : decode cX11_visitAs 88 = .ok (.iadd, 1) := by decide +kernel
theorem dX11_visitAs_89 : decode cX11_visitAs 89 = .ok (.dup2, 1) := by decide +kernel
theorem dX11_visitAs_90 : decode cX11_visitAs 90 = .ok (.iaload, 1) := by decide +kernel
theorem dX11_visitAs_91 : decode cX11_visitAs 91 = .ok (.iconst 1, 1) := by decide +kernel
theorem dX11_visitAs_92 : decode cX11_visitAs 92 = .ok (.iload_n 2, 1) := by decide +kernel
theorem dX11_visitAs_93 : decode cX11_visitAs 93 = .ok (.ishl, 1) := by decide +kernel
theorem dX11_visitAs_94 : decode cX11_visitAs 94 = .ok (.ior, 1) := by decide +kernel
theorem dX11_visitAs_95 : decode cX11_visitAs 95 = .ok (.iastore, 1) := by decide +kernel
theorem dX11_visitAs_96 : decode cX11_visitAs 96 = .ok (.aload_n 0, 1) := by decide +kernel
theorem dX11_visitAs_97 : decode cX11_visitAs 97 = .ok (.getfield 7, 3) := by decide +kernel
theorem dX11_visitAs_100 : decode cX11_visitAs 100 = .ok (.iload_n 1, 1) := by decide +kernel
theorem dX11_visitAs_101 : decode cX11_visitAs 101 = .ok (.bipush 12, 2) := by decide +kernel
theorem dX11_visitAs_103 : decode cX11_visitAs 103 = .ok (.iadd, 1) := by decide +kernel
theorem dX11_visitAs_104 : decode cX11_visitAs 104 = .ok (.dup2, 1) := by decide +kernel
theorem dX11_visitAs_105 : decode cX11_visitAs 105 = .ok (.iaload, 1) := by decide +kernel
theorem dX11_visitAs_106 : decode cX11_visitAs 106 = .ok (.aload_n 0, 1) := by decide +kernel
theorem dX11_visitAs_107 : decode cX11_visitAs 107 = .ok (.getfield 32, 3) := by decide +kernel
theorem dX11_visitAs_110 : decode cX11_visitAs 110 = .ok (.iload_n 2, 1) := by decide +kernel
theorem dX11_visitAs_111 : decode cX11_visitAs 111 = .ok (.iaload, 1) := by decide +kernel
theorem dX11_visitAs_112 : decode cX11_visitAs 112 = .ok (.isub, 1) := by decide +kernel
theorem dX11_visitAs_113 : decode cX11_visitAs 113 = .ok (.iastore, 1) := by decide +kernel
theorem dX11_visitAs_114 : decode cX11_visitAs 114 = .ok (.aload_n 0, 1) := by decide +kernel
theorem dX11_visitAs_115 : decode cX11_visitAs 115 = .ok (.iload_n 1, 1) := by decide +kernel
theorem dX11_visitAs_116 : decode cX11_visitAs 116 = .ok (.iload_n 3, 1) := by decide +kernel
theorem dX11_visitAs_117 : decode cX11_visitAs 117 = .ok (.aload_n 0, 1) := by decide +kernel
theorem dX11_visitAs_118 : decode cX11_visitAs 118 = .ok (.getfield 26, 3) := by decide +kernel
theorem dX11_visitAs_121 : decode cX11_visitAs 121 = .ok (.iload_n 2, 1) := by decide +kernel
theorem dX11_visitAs_122 : decode cX11_visitAs 122 = .ok (.iaload, 1) := by decide +kernel
theorem dX11_visitAs_123 : decode cX11_visitAs 123 = .ok (.invokevirtual 168, 3) := by decide +kernel
theorem dX11_visitAs_126 : decode cX11_visitAs 126 = .ok (.aload_n 0, 1) := by decide +kernel
theorem dX11_visitAs_127 : decode cX11_visitAs 127 = .ok (.getfield 7, 3) := by decide +kernel
theorem dX11_visitAs_130 : decode cX11_visitAs 130 = .ok (.iload_n 1, 1) := by decide +kernel
theorem dX11_visitAs_131 : decode cX11_visitAs 131 = .ok (.bipush 15, 2) := by decide +kernel
theorem dX11_visitAs_133 : decode cX11_visitAs 133 = .ok (.iadd, 1) := by decide +kernel
theorem dX11_visitAs_134 : decode cX11_visitAs 134 = .ok (.dup2, 1) := by decide +kernel
theorem dX11_visitAs_135 : decode cX11_visitAs 135 = .ok (.iaload, 1) := by decide +kernel
theorem dX11_visitAs_136 : decode cX11_visitAs 136 = .ok (.iload 4, 2) := by decide +kernel
theorem dX11_visitAs_138 : decode cX11_visitAs 138 = .ok (.iadd, 1) := by decide +kernel
theorem dX11_visitAs_139 : decode cX11_visitAs 139 = .ok (.iastore, 1) := by decide +kernel
theorem dX11_visitAs_140 : decode cX11_visitAs 140 = .ok (.iload 4, 2) := by decide +kernel
theorem dX11_visitAs_142 : decode cX11_visitAs 142 = .ok (.ireturn, 1) := by decide +kernel
theorem dX11_remember_0 : decode cX11_remember 0 = .ok (.aload_n 0, 1) := by decide +kernel
theorem dX11_remember_1 : decode cX11_remember 1 = .ok (.getfield 139, 3) := by decide +kernel
theorem dX11_remember_4 : decode cX11_remember 4 = .ok (.bipush 8, 2) := by decide +kernel
theorem dX11_remember_6 : decode cX11_remember 6 = .ok (.if_icmp .ne 47, 3) := by decide +kernel
theorem dX11_remember_9 : decode cX11_remember 9 = .ok (.iconst 1, 1) := by decide +kernel
theorem dX11_remember_10 : decode cX11_remember 10 = .ok (.istore_n 1, 1) := by decide +kernel
theorem dX11_remember_11 : decode cX11_remember 11 = .ok (.iload_n 1, 1) := by decide +kernel
theorem dX11_remember_12 : decode cX11_remember 12 = .ok (.bipush 8, 2) := by decide +kernel
theorem dX11_remember_14 : decode cX11_remember 14 = .ok (.if_icmp .ge 29, 3) := by decide +kernel
theorem dX11_remember_17 : decode cX11_remember 17 = .ok (.aload_n 0, 1) := by decide +kernel
theorem dX11_remember_18 : decode cX11_remember 18 = .ok (.bipush 64, 2) := by decide +kernel
theorem dX11_remember_20 : decode cX11_remember 20 = .ok (.bipush 16, 2) := by decide +kernel
theorem dX11_remember_22 : decode cX11_remember 22 = .ok (.iload_n 1, 1) := by decide +kernel
theorem dX11_remember_23 : decode cX11_remember 23 = .ok (.imul, 1) := by decide +kernel
theorem dX11_remember_24 : decode cX11_remember 24 = .ok (.iadd, 1) := by decide +kernel
theorem dX11_remember_25 : decode cX11_remember 25 = .ok (.bipush 64, 2) := by decide +kernel
theorem dX11_remember_27 : decode cX11_remember 27 = .ok (.bipush 16, 2) := by decide +kernel
theorem dX11_remember_29 : decode cX11_remember 29 = .ok (.iload_n 1, 1) := by decide +kernel
theorem dX11_remember_30 : decode cX11_remember 30 = .ok (.iconst 1, 1) := by decide +kernel
theorem dX11_remember_31 : decode cX11_remember 31 = .ok (.isub, 1) := by decide +kernel
theorem dX11_remember_32 : decode cX11_remember 32 = .ok (.imul, 1) := by decide +kernel
theorem dX11_remember_33 : decode cX11_remember 33 = .ok (.iadd, 1) := by decide +kernel
theorem dX11_remember_34 : decode cX11_remember 34 = .ok (.invokevirtual 165, 3) := by decide +kernel
theorem dX11_remember_37 : decode cX11_remember 37 = .ok (.iinc 1 1, 3) := by decide +kernel
theorem dX11_remember_40 : decode cX11_remember 40 = .ok (.goto (-29), 3) := by decide +kernel
theorem dX11_remember_43 : decode cX11_remember 43 = .ok (.aload_n 0, 1) := by decide +kernel
theorem dX11_remember_44 : decode cX11_remember 44 = .ok (.dup, 1) := by decide +kernel
theorem dX11_remember_45 : decode cX11_remember 45 = .ok (.getfield 139, 3) := by decide +kernel
theorem dX11_remember_48 : decode cX11_remember 48 = .ok (.iconst 1, 1) := by decide +kernel
theorem dX11_remember_49 : decode cX11_remember 49 = .ok (.isub, 1) := by decide +kernel
theorem dX11_remember_50 : decode cX11_remember 50 = .ok (.putfield 139, 3) := by decide +kernel
theorem dX11_remember_53 : decode cX11_remember 53 = .ok (.aload_n 0, 1) := by decide +kernel
theorem dX11_remember_54 : decode cX11_remember 54 = .ok (.iconst 0, 1) := by decide +kernel
theorem dX11_remember_55 : decode cX11_remember 55 = .ok (.bipush 64, 2) := by decide +kernel
theorem dX11_remember_57 : decode cX11_remember 57 = .ok (.bipush 16, 2) := by decide +kernel
theorem dX11_remember_59 : decode cX11_remember 59 = .ok (.aload_n 0, 1) := by decide +kernel
theorem dX11_remember_60 : decode cX11_remember 60 = .ok (.getfield 139, 3) := by decide +kernel
theorem dX11_remember_63 : decode cX11_remember 63 = .ok (.imul, 1) := by decide +kernel
theorem dX11_remember_64 : decode cX11_remember 64 = .ok (.iadd, 1) := by decide +kernel
theorem dX11_remember_65 : decode cX11_remember 65 = .ok (.invokevirtual 165, 3) := by decide +kernel
theorem dX11_remember_68 : decode cX11_remember 68 = .ok (.aload_n 0, 1) := by decide +kernel
theorem dX11_remember_69 : decode cX11_remember 69 = .ok (.dup, 1) := by decide +kernel
theorem dX11_remember_70 : decode cX11_remember 70 = .ok (.getfield 139, 3) := by decide +kernel
theorem dX11_remember_73 : decode cX11_remember 73 = .ok (.iconst 1, 1) := by decide +kernel
theorem dX11_remember_74 : decode cX11_remember 74 = .ok (.iadd, 1) := by decide +kernel
theorem dX11_remember_75 : decode cX11_remember 75 = .ok (.putfield 139, 3) := by decide +kernel
theorem dX11_remember_78 : decode cX11_remember 78 = .ok (.return_, 1) := by decide +kernel
theorem dX11_visit_0 : decode cX11_visit 0 = .ok (.aload_n 0, 1) := by decide +kernel
theorem dX11_visit_1 : decode cX11_visit 1 = .ok (.iload_n 1, 1) := by decide +kernel
theorem dX11_visit_2 : decode cX11_visit 2 = .ok (.invokevirtual 144, 3) := by decide +kernel
theorem dX11_visit_5 : decode cX11_visit 5 = .ok (.ifCond .ne 6, 3) := by decide +kernel
theorem dX11_visit_8 : decode cX11_visit 8 = .ok (.bipush (-2), 2) := by decide +kernel
theorem dX11_visit_10 : decode cX11_visit 10 = .ok (.ireturn, 1) := by decide +kernel
theorem dX11_visit_11 : decode cX11_visit 11 = .ok (.aload_n 0, 1) := by decide +kernel
theorem dX11_visit_12 : decode cX11_visit 12 = .ok (.getfield 7, 3) := by decide +kernel
theorem dX11_visit_15 : decode cX11_visit 15 = .ok (.bipush 11, 2) := by decide +kernel
theorem dX11_visit_17 : decode cX11_visit 17 = .ok (.iaload, 1) := by decide +kernel
theorem dX11_visit_18 : decode cX11_visit 18 = .ok (.sipush 9999, 3) := by decide +kernel
theorem dX11_visit_21 : decode cX11_visit 21 = .ok (.if_icmp .le 6, 3) := by decide +kernel
theorem dX11_visit_24 : decode cX11_visit 24 = .ok (.bipush (-5), 2) := by decide +kernel
theorem dX11_visit_26 : decode cX11_visit 26 = .ok (.ireturn, 1) := by decide +kernel
theorem dX11_visit_27 : decode cX11_visit 27 = .ok (.aload_n 0, 1) := by decide +kernel
theorem dX11_visit_28 : decode cX11_visit 28 = .ok (.invokevirtual 177, 3) := by decide +kernel
theorem dX11_visit_31 : decode cX11_visit 31 = .ok (.aload_n 0, 1) := by decide +kernel
theorem dX11_visit_32 : decode cX11_visit 32 = .ok (.iconst 0, 1) := by decide +kernel
theorem dX11_visit_33 : decode cX11_visit 33 = .ok (.iload_n 1, 1) := by decide +kernel
theorem dX11_visit_34 : decode cX11_visit 34 = .ok (.aload_n 0, 1) := by decide +kernel
theorem dX11_visit_35 : decode cX11_visit 35 = .ok (.getfield 23, 3) := by decide +kernel
theorem dX11_visit_38 : decode cX11_visit 38 = .ok (.iload_n 1, 1) := by decide +kernel
theorem dX11_visit_39 : decode cX11_visit 39 = .ok (.iaload, 1) := by decide +kernel
theorem dX11_visit_40 : decode cX11_visit 40 = .ok (.invokevirtual 180, 3) := by decide +kernel
theorem dX11_visit_43 : decode cX11_visit 43 = .ok (.ireturn, 1) := by decide +kernel
theorem dX11_idle_0 : decode cX11_idle 0 = .ok (.iload_n 1, 1) := by decide +kernel
theorem dX11_idle_1 : decode cX11_idle 1 = .ok (.i2l, 1) := by decide +kernel
theorem dX11_idle_2 : decode cX11_idle 2 = .ok (.lconst 1, 1) := by decide +kernel
theorem dX11_idle_3 : decode cX11_idle 3 = .ok (.ldc2_w 184, 3) := by decide +kernel
theorem dX11_idle_6 : decode cX11_idle 6 = .ok (.invokestatic 68, 3) := by decide +kernel
theorem dX11_idle_9 : decode cX11_idle 9 = .ok (.ifCond .ne 6, 3) := by decide +kernel
theorem dX11_idle_12 : decode cX11_idle 12 = .ok (.bipush (-3), 2) := by decide +kernel
theorem dX11_idle_14 : decode cX11_idle 14 = .ok (.ireturn, 1) := by decide +kernel
theorem dX11_idle_15 : decode cX11_idle 15 = .ok (.aload_n 0, 1) := by decide +kernel
theorem dX11_idle_16 : decode cX11_idle 16 = .ok (.getfield 7, 3) := by decide +kernel
theorem dX11_idle_19 : decode cX11_idle 19 = .ok (.bipush 11, 2) := by decide +kernel
theorem dX11_idle_21 : decode cX11_idle 21 = .ok (.iaload, 1) := by decide +kernel
theorem dX11_idle_22 : decode cX11_idle 22 = .ok (.sipush 9999, 3) := by decide +kernel
theorem dX11_idle_25 : decode cX11_idle 25 = .ok (.if_icmp .le 6, 3) := by decide +kernel
theorem dX11_idle_28 : decode cX11_idle 28 = .ok (.bipush (-5), 2) := by decide +kernel
theorem dX11_idle_30 : decode cX11_idle 30 = .ok (.ireturn, 1) := by decide +kernel
theorem dX11_idle_31 : decode cX11_idle 31 = .ok (.aload_n 0, 1) := by decide +kernel
theorem dX11_idle_32 : decode cX11_idle 32 = .ok (.invokevirtual 177, 3) := by decide +kernel
theorem dX11_idle_35 : decode cX11_idle 35 = .ok (.aload_n 0, 1) := by decide +kernel
theorem dX11_idle_36 : decode cX11_idle 36 = .ok (.iconst 0, 1) := by decide +kernel
theorem dX11_idle_37 : decode cX11_idle 37 = .ok (.iload_n 1, 1) := by decide +kernel
theorem dX11_idle_38 : decode cX11_idle 38 = .ok (.invokevirtual 174, 3) := by decide +kernel
theorem dX11_idle_41 : decode cX11_idle 41 = .ok (.aload_n 0, 1) := by decide +kernel
theorem dX11_idle_42 : decode cX11_idle 42 = .ok (.getfield 7, 3) := by decide +kernel
theorem dX11_idle_45 : decode cX11_idle 45 = .ok (.bipush 11, 2) := by decide +kernel
theorem dX11_idle_47 : decode cX11_idle 47 = .ok (.iaload, 1) := by decide +kernel
theorem dX11_idle_48 : decode cX11_idle 48 = .ok (.ireturn, 1) := by decide +kernel
theorem dX11_wind_0 : decode cX11_wind 0 = .ok (.aload_n 0, 1) := by decide +kernel
theorem dX11_wind_1 : decode cX11_wind 1 = .ok (.getfield 35, 3) := by decide +kernel
theorem dX11_wind_4 : decode cX11_wind 4 = .ok (.iconst 0, 1) := by decide +kernel
theorem dX11_wind_5 : decode cX11_wind 5 = .ok (.iaload, 1) := by decide +kernel
theorem dX11_wind_6 : decode cX11_wind 6 = .ok (.ifCond .ne 6, 3) := by decide +kernel
theorem dX11_wind_9 : decode cX11_wind 9 = .ok (.bipush (-4), 2) := by decide +kernel
theorem dX11_wind_11 : decode cX11_wind 11 = .ok (.ireturn, 1) := by decide +kernel
theorem dX11_wind_12 : decode cX11_wind 12 = .ok (.aload_n 0, 1) := by decide +kernel
theorem dX11_wind_13 : decode cX11_wind 13 = .ok (.invokevirtual 177, 3) := by decide +kernel
theorem dX11_wind_16 : decode cX11_wind 16 = .ok (.iconst 0, 1) := by decide +kernel
theorem dX11_wind_17 : decode cX11_wind 17 = .ok (.istore_n 1, 1) := by decide +kernel
theorem dX11_wind_18 : decode cX11_wind 18 = .ok (.iload_n 1, 1) := by decide +kernel
theorem dX11_wind_19 : decode cX11_wind 19 = .ok (.aload_n 0, 1) := by decide +kernel
theorem dX11_wind_20 : decode cX11_wind 20 = .ok (.getfield 35, 3) := by decide +kernel
theorem dX11_wind_23 : decode cX11_wind 23 = .ok (.iconst 0, 1) := by decide +kernel
theorem dX11_wind_24 : decode cX11_wind 24 = .ok (.iaload, 1) := by decide +kernel
theorem dX11_wind_25 : decode cX11_wind 25 = .ok (.if_icmp .ge 30, 3) := by decide +kernel
theorem dX11_wind_28 : decode cX11_wind 28 = .ok (.aload_n 0, 1) := by decide +kernel
theorem dX11_wind_29 : decode cX11_wind 29 = .ok (.getfield 7, 3) := by decide +kernel
theorem dX11_wind_32 : decode cX11_wind 32 = .ok (.iload_n 1, 1) := by decide +kernel
theorem dX11_wind_33 : decode cX11_wind 33 = .ok (.aload_n 0, 1) := by decide +kernel
theorem dX11_wind_34 : decode cX11_wind 34 = .ok (.getfield 35, 3) := by decide +kernel
theorem dX11_wind_37 : decode cX11_wind 37 = .ok (.iconst 0, 1) := by decide +kernel
theorem dX11_wind_38 : decode cX11_wind 38 = .ok (.iaload, 1) := by decide +kernel
theorem dX11_wind_39 : decode cX11_wind 39 = .ok (.iconst 1, 1) := by decide +kernel
theorem dX11_wind_40 : decode cX11_wind 40 = .ok (.isub, 1) := by decide +kernel
theorem dX11_wind_41 : decode cX11_wind 41 = .ok (.aload_n 0, 1) := by decide +kernel
theorem dX11_wind_42 : decode cX11_wind 42 = .ok (.getfield 7, 3) := by decide +kernel
theorem dX11_wind_45 : decode cX11_wind 45 = .ok (.iload_n 1, 1) := by decide +kernel
theorem dX11_wind_46 : decode cX11_wind 46 = .ok (.iaload, 1) := by decide +kernel
theorem dX11_wind_47 : decode cX11_wind 47 = .ok (.isub, 1) := by decide +kernel
theorem dX11_wind_48 : decode cX11_wind 48 = .ok (.iastore, 1) := by decide +kernel
theorem dX11_wind_49 : decode cX11_wind 49 = .ok (.iinc 1 1, 3) := by decide +kernel
theorem dX11_wind_52 : decode cX11_wind 52 = .ok (.goto (-34), 3) := by decide +kernel
theorem dX11_wind_55 : decode cX11_wind 55 = .ok (.aload_n 0, 1) := by decide +kernel
theorem dX11_wind_56 : decode cX11_wind 56 = .ok (.getfield 7, 3) := by decide +kernel
theorem dX11_wind_59 : decode cX11_wind 59 = .ok (.bipush 10, 2) := by decide +kernel
theorem dX11_wind_61 : decode cX11_wind 61 = .ok (.aload_n 0, 1) := by decide +kernel
theorem dX11_wind_62 : decode cX11_wind 62 = .ok (.getfield 35, 3) := by decide +kernel
theorem dX11_wind_65 : decode cX11_wind 65 = .ok (.iconst 0, 1) := by decide +kernel
theorem dX11_wind_66 : decode cX11_wind 66 = .ok (.iaload, 1) := by decide +kernel
theorem dX11_wind_67 : decode cX11_wind 67 = .ok (.iconst 1, 1) := by decide +kernel
theorem dX11_wind_68 : decode cX11_wind 68 = .ok (.isub, 1) := by decide +kernel
theorem dX11_wind_69 : decode cX11_wind 69 = .ok (.aload_n 0, 1) := by decide +kernel
theorem dX11_wind_70 : decode cX11_wind 70 = .ok (.getfield 7, 3) := by decide +kernel
theorem dX11_wind_73 : decode cX11_wind 73 = .ok (.bipush 10, 2) := by decide +kernel
theorem dX11_wind_75 : decode cX11_wind 75 = .ok (.iaload, 1) := by decide +kernel
theorem dX11_wind_76 : decode cX11_wind 76 = .ok (.isub, 1) := by decide +kernel
theorem dX11_wind_77 : decode cX11_wind 77 = .ok (.iastore, 1) := by decide +kernel
theorem dX11_wind_78 : decode cX11_wind 78 = .ok (.aload_n 0, 1) := by decide +kernel
theorem dX11_wind_79 : decode cX11_wind 79 = .ok (.getfield 7, 3) := by decide +kernel
theorem dX11_wind_82 : decode cX11_wind 82 = .ok (.bipush 10, 2) := by decide +kernel
theorem dX11_wind_84 : decode cX11_wind 84 = .ok (.iaload, 1) := by decide +kernel
theorem dX11_wind_85 : decode cX11_wind 85 = .ok (.ireturn, 1) := by decide +kernel
theorem dX11_cold_0 : decode cX11_cold 0 = .ok (.iload_n 1, 1) := by decide +kernel
theorem dX11_cold_1 : decode cX11_cold 1 = .ok (.i2l, 1) := by decide +kernel
theorem dX11_cold_2 : decode cX11_cold 2 = .ok (.lconst 0, 1) := by decide +kernel
theorem dX11_cold_3 : decode cX11_cold 3 = .ok (.ldc2_w 186, 3) := by decide +kernel
theorem dX11_cold_6 : decode cX11_cold 6 = .ok (.invokestatic 68, 3) := by decide +kernel
theorem dX11_cold_9 : decode cX11_cold 9 = .ok (.ifCond .ne 6, 3) := by decide +kernel
theorem dX11_cold_12 : decode cX11_cold 12 = .ok (.bipush (-3), 2) := by decide +kernel
theorem dX11_cold_14 : decode cX11_cold 14 = .ok (.ireturn, 1) := by decide +kernel
theorem dX11_cold_15 : decode cX11_cold 15 = .ok (.aload_n 0, 1) := by decide +kernel
theorem dX11_cold_16 : decode cX11_cold 16 = .ok (.invokevirtual 177, 3) := by decide +kernel
theorem dX11_cold_19 : decode cX11_cold 19 = .ok (.aload_n 0, 1) := by decide +kernel
theorem dX11_cold_20 : decode cX11_cold 20 = .ok (.getfield 7, 3) := by decide +kernel
theorem dX11_cold_23 : decode cX11_cold 23 = .ok (.bipush 14, 2) := by decide +kernel
theorem dX11_cold_25 : decode cX11_cold 25 = .ok (.iaload, 1) := by decide +kernel
theorem dX11_cold_26 : decode cX11_cold 26 = .ok (.istore_n 2, 1) := by decide +kernel
theorem dX11_cold_27 : decode cX11_cold 27 = .ok (.aload_n 0, 1) := by decide +kernel
theorem dX11_cold_28 : decode cX11_cold 28 = .ok (.getfield 7, 3) := by decide +kernel
theorem dX11_cold_31 : decode cX11_cold 31 = .ok (.bipush 14, 2) := by decide +kernel
theorem dX11_cold_33 : decode cX11_cold 33 = .ok (.iload_n 1, 1) := by decide +kernel
theorem dX11_cold_34 : decode cX11_cold 34 = .ok (.iastore, 1) := by decide +kernel
theorem dX11_cold_35 : decode cX11_cold 35 = .ok (.iload_n 2, 1) := by decide +kernel
theorem dX11_cold_36 : decode cX11_cold 36 = .ok (.ireturn, 1) := by decide +kernel
theorem dX11_undo_0 : decode cX11_undo 0 = .ok (.aload_n 0, 1) := by decide +kernel
theorem dX11_undo_1 : decode cX11_undo 1 = .ok (.getfield 139, 3) := by decide +kernel
theorem dX11_undo_4 : decode cX11_undo 4 = .ok (.ifCond .ne 6, 3) := by decide +kernel
theorem dX11_undo_7 : decode cX11_undo 7 = .ok (.bipush (-4), 2) := by decide +kernel
theorem dX11_undo_9 : decode cX11_undo 9 = .ok (.ireturn, 1) := by decide +kernel
theorem dX11_undo_10 : decode cX11_undo 10 = .ok (.aload_n 0, 1) := by decide +kernel
theorem dX11_undo_11 : decode cX11_undo 11 = .ok (.dup, 1) := by decide +kernel
theorem dX11_undo_12 : decode cX11_undo 12 = .ok (.getfield 139, 3) := by decide +kernel
theorem dX11_undo_15 : decode cX11_undo 15 = .ok (.iconst 1, 1) := by decide +kernel
theorem dX11_undo_16 : decode cX11_undo 16 = .ok (.isub, 1) := by decide +kernel
theorem dX11_undo_17 : decode cX11_undo 17 = .ok (.putfield 139, 3) := by decide +kernel
theorem dX11_undo_20 : decode cX11_undo 20 = .ok (.aload_n 0, 1) := by decide +kernel
theorem dX11_undo_21 : decode cX11_undo 21 = .ok (.bipush 64, 2) := by decide +kernel
theorem dX11_undo_23 : decode cX11_undo 23 = .ok (.bipush 16, 2) := by decide +kernel
theorem dX11_undo_25 : decode cX11_undo 25 = .ok (.aload_n 0, 1) := by decide +kernel
theorem dX11_undo_26 : decode cX11_undo 26 = .ok (.getfield 139, 3) := by decide +kernel
theorem dX11_undo_29 : decode cX11_undo 29 = .ok (.imul, 1) := by decide +kernel
theorem dX11_undo_30 : decode cX11_undo 30 = .ok (.iadd, 1) := by decide +kernel
theorem dX11_undo_31 : decode cX11_undo 31 = .ok (.iconst 0, 1) := by decide +kernel
theorem dX11_undo_32 : decode cX11_undo 32 = .ok (.invokevirtual 165, 3) := by decide +kernel
theorem dX11_undo_35 : decode cX11_undo 35 = .ok (.aload_n 0, 1) := by decide +kernel
theorem dX11_undo_36 : decode cX11_undo 36 = .ok (.getfield 139, 3) := by decide +kernel
theorem dX11_undo_39 : decode cX11_undo 39 = .ok (.ireturn, 1) := by decide +kernel
theorem dX11_keep_0 : decode cX11_keep 0 = .ok (.iload_n 1, 1) := by decide +kernel
theorem dX11_keep_1 : decode cX11_keep 1 = .ok (.i2l, 1) := by decide +kernel
theorem dX11_keep_2 : decode cX11_keep 2 = .ok (.lconst 0, 1) := by decide +kernel
theorem dX11_keep_3 : decode cX11_keep 3 = .ok (.lconst 1, 1) := by decide +kernel
theorem dX11_keep_4 : decode cX11_keep 4 = .ok (.invokestatic 68, 3) := by decide +kernel
theorem dX11_keep_7 : decode cX11_keep 7 = .ok (.ifCond .ne 6, 3) := by decide +kernel
theorem dX11_keep_10 : decode cX11_keep 10 = .ok (.bipush (-2), 2) := by decide +kernel
theorem dX11_keep_12 : decode cX11_keep 12 = .ok (.ireturn, 1) := by decide +kernel
theorem dX11_keep_13 : decode cX11_keep 13 = .ok (.aload_n 0, 1) := by decide +kernel
theorem dX11_keep_14 : decode cX11_keep 14 = .ok (.iconst 0, 1) := by decide +kernel
theorem dX11_keep_15 : decode cX11_keep 15 = .ok (.bipush 32, 2) := by decide +kernel
theorem dX11_keep_17 : decode cX11_keep 17 = .ok (.bipush 16, 2) := by decide +kernel
