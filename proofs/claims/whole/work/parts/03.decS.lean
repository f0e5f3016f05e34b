theorem dX0_init_0 : decode cX0_init 0 = .ok (.aload_n 0, 1) := by decide +kernel
theorem dX0_init_1 : decode cX0_init 1 = .ok (.invokespecial 1, 3) := by decide +kernel
theorem dX0_init_4 : decode cX0_init 4 = .ok (.aload_n 0, 1) := by decide +kernel
theorem dX0_init_5 : decode cX0_init 5 = .ok (.iload_n 1, 1) := by decide +kernel
theorem dX0_init_6 : decode cX0_init 6 = .ok (.putfield 7, 3) := by decide +kernel
theorem dX0_init_9 : decode cX0_init 9 = .ok (.aload_n 0, 1) := by decide +kernel
theorem dX0_init_10 : decode cX0_init 10 = .ok (.iload_n 2, 1) := by decide +kernel
theorem dX0_init_11 : decode cX0_init 11 = .ok (.putfield 13, 3) := by decide +kernel
theorem dX0_init_14 : decode cX0_init 14 = .ok (.aload_n 0, 1) := by decide +kernel
theorem dX0_init_15 : decode cX0_init 15 = .ok (.aload_n 3, 1) := by decide +kernel
theorem dX0_init_16 : decode cX0_init 16 = .ok (.putfield 16, 3) := by decide +kernel
theorem dX0_init_19 : decode cX0_init 19 = .ok (.aload_n 0, 1) := by decide +kernel
theorem dX0_init_20 : decode cX0_init 20 = .ok (.iconst 1, 1) := by decide +kernel
theorem dX0_init_21 : decode cX0_init 21 = .ok (.putfield 20, 3) := by decide +kernel
theorem dX0_init_24 : decode cX0_init 24 = .ok (.return_, 1) := by decide +kernel
theorem dX1_init_0 : decode cX1_init 0 = .ok (.aload_n 0, 1) := by decide +kernel
theorem dX1_init_1 : decode cX1_init 1 = .ok (.invokespecial 3, 3) := by decide +kernel
theorem dX1_init_4 : decode cX1_init 4 = .ok (.aload_n 0, 1) := by decide +kernel
theorem dX1_init_5 : decode cX1_init 5 = .ok (.aload_n 1, 1) := by decide +kernel
theorem dX1_init_6 : decode cX1_init 6 = .ok (.putfield 9, 3) := by decide +kernel
theorem dX1_init_9 : decode cX1_init 9 = .ok (.aload_n 0, 1) := by decide +kernel
theorem dX1_init_10 : decode cX1_init 10 = .ok (.sipush 1681, 3) := by decide +kernel
theorem dX1_init_13 : decode cX1_init 13 = .ok (.newarray .int, 2) := by decide +kernel
theorem dX1_init_15 : decode cX1_init 15 = .ok (.putfield 15, 3) := by decide +kernel
theorem dX1_init_18 : decode cX1_init 18 = .ok (.return_, 1) := by decide +kernel
theorem dX1_leastWithin_0 : decode cX1_leastWithin 0 = .ok (.aload_n 1, 1) := by decide +kernel
theorem dX1_leastWithin_1 : decode cX1_leastWithin 1 = .ok (.getfield 19, 3) := by decide +kernel
theorem dX1_leastWithin_4 : decode cX1_leastWithin 4 = .ok (.istore 4, 2) := by decide +kernel
theorem dX1_leastWithin_6 : decode cX1_leastWithin 6 = .ok (.aload_n 2, 1) := by decide +kernel
theorem dX1_leastWithin_7 : decode cX1_leastWithin 7 = .ok (.getfield 19, 3) := by decide +kernel
theorem dX1_leastWithin_10 : decode cX1_leastWithin 10 = .ok (.istore 5, 2) := by decide +kernel
theorem dX1_leastWithin_12 : decode cX1_leastWithin 12 = .ok (.iload 4, 2) := by decide +kernel
theorem dX1_leastWithin_14 : decode cX1_leastWithin 14 = .ok (.iconst 2, 1) := by decide +kernel
theorem dX1_leastWithin_15 : decode cX1_leastWithin 15 = .ok (.iload 5, 2) := by decide +kernel
theorem dX1_leastWithin_17 : decode cX1_leastWithin 17 = .ok (.imul, 1) := by decide +kernel
theorem dX1_leastWithin_18 : decode cX1_leastWithin 18 = .ok (.if_icmp .gt 12, 3) := by decide +kernel
theorem dX1_leastWithin_21 : decode cX1_leastWithin 21 = .ok (.iload 5, 2) := by decide +kernel
theorem dX1_leastWithin_23 : decode cX1_leastWithin 23 = .ok (.iconst 2, 1) := by decide +kernel
theorem dX1_leastWithin_24 : decode cX1_leastWithin 24 = .ok (.iload 4, 2) := by decide +kernel
theorem dX1_leastWithin_26 : decode cX1_leastWithin 26 = .ok (.imul, 1) := by decide +kernel
theorem dX1_leastWithin_27 : decode cX1_leastWithin 27 = .ok (.if_icmp .le 5, 3) := by decide +kernel
theorem dX1_leastWithin_30 : decode cX1_leastWithin 30 = .ok (.iconst (-1), 1) := by decide +kernel
theorem dX1_leastWithin_31 : decode cX1_leastWithin 31 = .ok (.ireturn, 1) := by decide +kernel
theorem dX1_leastWithin_32 : decode cX1_leastWithin 32 = .ok (.aload_n 0, 1) := by decide +kernel
theorem dX1_leastWithin_33 : decode cX1_leastWithin 33 = .ok (.getfield 15, 3) := by decide +kernel
theorem dX1_leastWithin_36 : decode cX1_leastWithin 36 = .ok (.iload 4, 2) := by decide +kernel
theorem dX1_leastWithin_38 : decode cX1_leastWithin 38 = .ok (.bipush 41, 2) := by decide +kernel
theorem dX1_leastWithin_40 : decode cX1_leastWithin 40 = .ok (.imul, 1) := by decide +kernel
theorem dX1_leastWithin_41 : decode cX1_leastWithin 41 = .ok (.iload 4, 2) := by decide +kernel
theorem dX1_leastWithin_43 : decode cX1_leastWithin 43 = .ok (.bipush 41, 2) := by decide +kernel
theorem dX1_leastWithin_45 : decode cX1_leastWithin 45 = .ok (.imul, 1) := by decide +kernel
theorem dX1_leastWithin_46 : decode cX1_leastWithin 46 = .ok (.iload 5, 2) := by decide +kernel
theorem dX1_leastWithin_48 : decode cX1_leastWithin 48 = .ok (.iadd, 1) := by decide +kernel
theorem dX1_leastWithin_49 : decode cX1_leastWithin 49 = .ok (.iconst 1, 1) := by decide +kernel
theorem dX1_leastWithin_50 : decode cX1_leastWithin 50 = .ok (.iadd, 1) := by decide +kernel
theorem dX1_leastWithin_51 : decode cX1_leastWithin 51 = .ok (.ldc 25, 2) := by decide +kernel
theorem dX1_leastWithin_53 : decode cX1_leastWithin 53 = .ok (.invokestatic 26, 3) := by decide +kernel
theorem dX1_leastWithin_56 : decode cX1_leastWithin 56 = .ok (.aload_n 0, 1) := by decide +kernel
theorem dX1_leastWithin_57 : decode cX1_leastWithin 57 = .ok (.getfield 15, 3) := by decide +kernel
theorem dX1_leastWithin_60 : decode cX1_leastWithin 60 = .ok (.iload 4, 2) := by decide +kernel
theorem dX1_leastWithin_62 : decode cX1_leastWithin 62 = .ok (.bipush 41, 2) := by decide +kernel
theorem dX1_leastWithin_64 : decode cX1_leastWithin 64 = .ok (.imul, 1) := by decide +kernel
theorem dX1_leastWithin_65 : decode cX1_leastWithin 65 = .ok (.iload 5, 2) := by decide +kernel
theorem dX1_leastWithin_67 : decode cX1_leastWithin 67 = .ok (.iadd, 1) := by decide +kernel
theorem dX1_leastWithin_68 : decode cX1_leastWithin 68 = .ok (.iconst 0, 1) := by decide +kernel
theorem dX1_leastWithin_69 : decode cX1_leastWithin 69 = .ok (.iastore, 1) := by decide +kernel
theorem dX1_leastWithin_70 : decode cX1_leastWithin 70 = .ok (.iconst 0, 1) := by decide +kernel
theorem dX1_leastWithin_71 : decode cX1_leastWithin 71 = .ok (.istore 6, 2) := by decide +kernel
theorem dX1_leastWithin_73 : decode cX1_leastWithin 73 = .ok (.iload 4, 2) := by decide +kernel
theorem dX1_leastWithin_75 : decode cX1_leastWithin 75 = .ok (.iconst 1, 1) := by decide +kernel
theorem dX1_leastWithin_76 : decode cX1_leastWithin 76 = .ok (.isub, 1) := by decide +kernel
theorem dX1_leastWithin_77 : decode cX1_leastWithin 77 = .ok (.istore 7, 2) := by decide +kernel
theorem dX1_leastWithin_79 : decode cX1_leastWithin 79 = .ok (.iload 7, 2) := by decide +kernel
theorem dX1_leastWithin_81 : decode cX1_leastWithin 81 = .ok (.ifCond .lt 37, 3) := by decide +kernel
theorem dX1_leastWithin_84 : decode cX1_leastWithin 84 = .ok (.aload_n 0, 1) := by decide +kernel
theorem dX1_leastWithin_85 : decode cX1_leastWithin 85 = .ok (.aload_n 1, 1) := by decide +kernel
theorem dX1_leastWithin_86 : decode cX1_leastWithin 86 = .ok (.iload 7, 2) := by decide +kernel
theorem dX1_leastWithin_88 : decode cX1_leastWithin 88 = .ok (.aload_n 2, 1) := by decide +kernel
theorem dX1_leastWithin_89 : decode cX1_leastWithin 89 = .ok (.invokevirtual 32, 3) := by decide +kernel
theorem dX1_leastWithin_92 : decode cX1_leastWithin 92 = .ok (.istore 8, 2) := by decide +kernel
theorem dX1_leastWithin_94 : decode cX1_leastWithin 94 = .ok (.iload 8, 2) := by decide +kernel
theorem dX1_leastWithin_96 : decode cX1_leastWithin 96 = .ok (.iload_n 3, 1) := by decide +kernel
theorem dX1_leastWithin_97 : decode cX1_leastWithin 97 = .ok (.if_icmp .le 11, 3) := by decide +kernel
theorem dX1_leastWithin_100 : decode cX1_leastWithin 100 = .ok (.iload 6, 2) := by decide +kernel
theorem dX1_leastWithin_102 : decode cX1_leastWithin 102 = .ok (.iload_n 3, 1) := by decide +kernel
theorem dX1_leastWithin_103 : decode cX1_leastWithin 103 = .ok (.if_icmp .le 5, 3) := by decide +kernel
theorem dX1_leastWithin_106 : decode cX1_leastWithin 106 = .ok (.iconst (-1), 1) := by decide +kernel
theorem dX1_leastWithin_107 : decode cX1_leastWithin 107 = .ok (.ireturn, 1) := by decide +kernel
theorem dX1_leastWithin_108 : decode cX1_leastWithin 108 = .ok (.iload 8, 2) := by decide +kernel
theorem dX1_leastWithin_110 : decode cX1_leastWithin 110 = .ok (.istore 6, 2) := by decide +kernel
theorem dX1_leastWithin_112 : decode cX1_leastWithin 112 = .ok (.iinc 7 (-1), 3) := by decide +kernel
theorem dX1_leastWithin_115 : decode cX1_leastWithin 115 = .ok (.goto (-36), 3) := by decide +kernel
theorem dX1_leastWithin_118 : decode cX1_leastWithin 118 = .ok (.aload_n 0, 1) := by decide +kernel
theorem dX1_leastWithin_119 : decode cX1_leastWithin 119 = .ok (.getfield 15, 3) := by decide +kernel
theorem dX1_leastWithin_122 : decode cX1_leastWithin 122 = .ok (.iconst 0, 1) := by decide +kernel
theorem dX1_leastWithin_123 : decode cX1_leastWithin 123 = .ok (.iaload, 1) := by decide +kernel
theorem dX1_leastWithin_124 : decode cX1_leastWithin 124 = .ok (.iload_n 3, 1) := by decide +kernel
theorem dX1_leastWithin_125 : decode cX1_leastWithin 125 = .ok (.if_icmp .gt 12, 3) := by decide +kernel
theorem dX1_leastWithin_128 : decode cX1_leastWithin 128 = .ok (.aload_n 0, 1) := by decide +kernel
theorem dX1_leastWithin_129 : decode cX1_leastWithin 129 = .ok (.getfield 15, 3) := by decide +kernel
theorem dX1_leastWithin_132 : decode cX1_leastWithin 132 = .ok (.iconst 0, 1) := by decide +kernel
theorem dX1_leastWithin_133 : decode cX1_leastWithin 133 = .ok (.iaload, 1) := by decide +kernel
theorem dX1_leastWithin_134 : decode cX1_leastWithin 134 = .ok (.goto 4, 3) := by decide +kernel
theorem dX1_leastWithin_137 : decode cX1_leastWithin 137 = .ok (.iconst (-1), 1) := by decide +kernel
theorem dX1_leastWithin_138 : decode cX1_leastWithin 138 = .ok (.ireturn, 1) := by decide +kernel
theorem dX1_fillRow_0 : decode cX1_fillRow 0 = .ok (.aload_n 3, 1) := by decide +kernel
theorem dX1_fillRow_1 : decode cX1_fillRow 1 = .ok (.getfield 19, 3) := by decide +kernel
theorem dX1_fillRow_4 : decode cX1_fillRow 4 = .ok (.istore 4, 2) := by decide +kernel
theorem dX1_fillRow_6 : decode cX1_fillRow 6 = .ok (.aload_n 1, 1) := by decide +kernel
theorem dX1_fillRow_7 : decode cX1_fillRow 7 = .ok (.getfield 19, 3) := by decide +kernel
theorem dX1_fillRow_10 : decode cX1_fillRow 10 = .ok (.iload_n 2, 1) := by decide +kernel
theorem dX1_fillRow_11 : decode cX1_fillRow 11 = .ok (.isub, 1) := by decide +kernel
theorem dX1_fillRow_12 : decode cX1_fillRow 12 = .ok (.istore 5, 2) := by decide +kernel
theorem dX1_fillRow_14 : decode cX1_fillRow 14 = .ok (.iload_n 2, 1) := by decide +kernel
theorem dX1_fillRow_15 : decode cX1_fillRow 15 = .ok (.iconst 1, 1) := by decide +kernel
theorem dX1_fillRow_16 : decode cX1_fillRow 16 = .ok (.iadd, 1) := by decide +kernel
theorem dX1_fillRow_17 : decode cX1_fillRow 17 = .ok (.iconst 2, 1) := by decide +kernel
theorem dX1_fillRow_18 : decode cX1_fillRow 18 = .ok (.idiv, 1) := by decide +kernel
theorem dX1_fillRow_19 : decode cX1_fillRow 19 = .ok (.iload 4, 2) := by decide +kernel
theorem dX1_fillRow_21 : decode cX1_fillRow 21 = .ok (.iconst 2, 1) := by decide +kernel
theorem dX1_fillRow_22 : decode cX1_fillRow 22 = .ok (.iload 5, 2) := by decide +kernel
theorem dX1_fillRow_24 : decode cX1_fillRow 24 = .ok (.imul, 1) := by decide +kernel
theorem dX1_fillRow_25 : decode cX1_fillRow 25 = .ok (.isub, 1) := by decide +kernel
theorem dX1_fillRow_26 : decode cX1_fillRow 26 = .ok (.invokestatic 36, 3) := by decide +kernel
theorem dX1_fillRow_29 : decode cX1_fillRow 29 = .ok (.istore 6, 2) := by decide +kernel
theorem dX1_fillRow_31 : decode cX1_fillRow 31 = .ok (.iconst 2, 1) := by decide +kernel
theorem dX1_fillRow_32 : decode cX1_fillRow 32 = .ok (.iload_n 2, 1) := by decide +kernel
theorem dX1_fillRow_33 : decode cX1_fillRow 33 = .ok (.imul, 1) := by decide +kernel
theorem dX1_fillRow_34 : decode cX1_fillRow 34 = .ok (.iload 4, 2) := by decide +kernel
theorem dX1_fillRow_36 : decode cX1_fillRow 36 = .ok (.iload 5, 2) := by decide +kernel
theorem dX1_fillRow_38 : decode cX1_fillRow 38 = .ok (.iconst 1, 1) := by decide +kernel
theorem dX1_fillRow_39 : decode cX1_fillRow 39 = .ok (.iadd, 1) := by decide +kernel
theorem dX1_fillRow_40 : decode cX1_fillRow 40 = .ok (.iconst 2, 1) := by decide +kernel
theorem dX1_fillRow_41 : decode cX1_fillRow 41 = .ok (.idiv, 1) := by decide +kernel
theorem dX1_fillRow_42 : decode cX1_fillRow 42 = .ok (.isub, 1) := by decide +kernel
theorem dX1_fillRow_43 : decode cX1_fillRow 43 = .ok (.invokestatic 42, 3) := by decide +kernel
theorem dX1_fillRow_46 : decode cX1_fillRow 46 = .ok (.istore 7, 2) := by decide +kernel
theorem dX1_fillRow_48 : decode cX1_fillRow 48 = .ok (.aload_n 0, 1) := by decide +kernel
theorem dX1_fillRow_49 : decode cX1_fillRow 49 = .ok (.getfield 15, 3) := by decide +kernel
theorem dX1_fillRow_52 : decode cX1_fillRow 52 = .ok (.iload_n 2, 1) := by decide +kernel
theorem dX1_fillRow_53 : decode cX1_fillRow 53 = .ok (.bipush 41, 2) := by decide +kernel
theorem dX1_fillRow_55 : decode cX1_fillRow 55 = .ok (.imul, 1) := by decide +kernel
theorem dX1_fillRow_56 : decode cX1_fillRow 56 = .ok (.iload_n 2, 1) := by decide +kernel
theorem dX1_fillRow_57 : decode cX1_fillRow 57 = .ok (.bipush 41, 2) := by decide +kernel
theorem dX1_fillRow_59 : decode cX1_fillRow 59 = .ok (.imul, 1) := by decide +kernel
theorem dX1_fillRow_60 : decode cX1_fillRow 60 = .ok (.iload 4, 2) := by decide +kernel
theorem dX1_fillRow_62 : decode cX1_fillRow 62 = .ok (.iadd, 1) := by decide +kernel
theorem dX1_fillRow_63 : decode cX1_fillRow 63 = .ok (.iconst 1, 1) := by decide +kernel
theorem dX1_fillRow_64 : decode cX1_fillRow 64 = .ok (.iadd, 1) := by decide +kernel
theorem dX1_fillRow_65 : decode cX1_fillRow 65 = .ok (.ldc 25, 2) := by decide +kernel
theorem dX1_fillRow_67 : decode cX1_fillRow 67 = .ok (.invokestatic 26, 3) := by decide +kernel
theorem dX1_fillRow_70 : decode cX1_fillRow 70 = .ok (.ldc 25, 2) := by decide +kernel
theorem dX1_fillRow_72 : decode cX1_fillRow 72 = .ok (.istore 8, 2) := by decide +kernel
theorem dX1_fillRow_74 : decode cX1_fillRow 74 = .ok (.iload 6, 2) := by decide +kernel
theorem dX1_fillRow_76 : decode cX1_fillRow 76 = .ok (.istore 9, 2) := by decide +kernel
theorem dX1_fillRow_78 : decode cX1_fillRow 78 = .ok (.iload 9, 2) := by decide +kernel
theorem dX1_fillRow_80 : decode cX1_fillRow 80 = .ok (.iload 7, 2) := by decide +kernel
theorem dX1_fillRow_82 : decode cX1_fillRow 82 = .ok (.if_icmp .gt 69, 3) := by decide +kernel
theorem dX1_fillRow_85 : decode cX1_fillRow 85 = .ok (.ldc 25, 2) := by decide +kernel
theorem dX1_fillRow_87 : decode cX1_fillRow 87 = .ok (.istore 10, 2) := by decide +kernel
theorem dX1_fillRow_89 : decode cX1_fillRow 89 = .ok (.iconst 0, 1) := by decide +kernel
theorem dX1_fillRow_90 : decode cX1_fillRow 90 = .ok (.istore 11, 2) := by decide +kernel
theorem dX1_fillRow_92 : decode cX1_fillRow 92 = .ok (.iload 11, 2) := by decide +kernel
theorem dX1_fillRow_94 : decode cX1_fillRow 94 = .ok (.iconst 4, 1) := by decide +kernel
theorem dX1_fillRow_95 : decode cX1_fillRow 95 = .ok (.if_icmp .ge 27, 3) := by decide +kernel
theorem dX1_fillRow_98 : decode cX1_fillRow 98 = .ok (.iload 10, 2) := by decide +kernel
theorem dX1_fillRow_100 : decode cX1_fillRow 100 = .ok (.aload_n 0, 1) := by decide +kernel
theorem dX1_fillRow_101 : decode cX1_fillRow 101 = .ok (.iload 11, 2) := by decide +kernel
theorem dX1_fillRow_103 : decode cX1_fillRow 103 = .ok (.aload_n 1, 1) := by decide +kernel
theorem dX1_fillRow_104 : decode cX1_fillRow 104 = .ok (.iload_n 2, 1) := by decide +kernel
theorem dX1_fillRow_105 : decode cX1_fillRow 105 = .ok (.aload_n 3, 1) := by decide +kernel
theorem dX1_fillRow_106 : decode cX1_fillRow 106 = .ok (.iload 9, 2) := by decide +kernel
theorem dX1_fillRow_108 : decode cX1_fillRow 108 = .ok (.invokevirtual 45, 3) := by decide +kernel
theorem dX1_fillRow_111 : decode cX1_fillRow 111 = .ok (.invokestatic 42, 3) := by decide +kernel
theorem dX1_fillRow_114 : decode cX1_fillRow 114 = .ok (.istore 10, 2) := by decide +kernel
theorem dX1_fillRow_116 : decode cX1_fillRow 116 = .ok (.iinc 11 1, 3) := by decide +kernel
theorem dX1_fillRow_119 : decode cX1_fillRow 119 = .ok (.goto (-27), 3) := by decide +kernel
theorem dX1_fillRow_122 : decode cX1_fillRow 122 = .ok (.aload_n 0, 1) := by decide +kernel
theorem dX1_fillRow_123 : decode cX1_fillRow 123 = .ok (.getfield 15, 3) := by decide +kernel
theorem dX1_fillRow_126 : decode cX1_fillRow 126 = .ok (.iload_n 2, 1) := by decide +kernel
theorem dX1_fillRow_127 : decode cX1_fillRow 127 = .ok (.bipush 41, 2) := by decide +kernel
theorem dX1_fillRow_129 : decode cX1_fillRow 129 = .ok (.imul, 1) := by decide +kernel
theorem dX1_fillRow_130 : decode cX1_fillRow 130 = .ok (.iload 9, 2) := by decide +kernel
theorem dX1_fillRow_132 : decode cX1_fillRow 132 = .ok (.iadd, 1) := by decide +kernel
theorem dX1_fillRow_133 : decode cX1_fillRow 133 = .ok (.iload 10, 2) := by decide +kernel
theorem dX1_fillRow_135 : decode cX1_fillRow 135 = .ok (.iastore, 1) := by decide +kernel
theorem dX1_fillRow_136 : decode cX1_fillRow 136 = .ok (.iload 8, 2) := by decide +kernel
theorem dX1_fillRow_138 : decode cX1_fillRow 138 = .ok (.iload 10, 2) := by decide +kernel
theorem dX1_fillRow_140 : decode cX1_fillRow 140 = .ok (.invokestatic 42, 3) := by decide +kernel
theorem dX1_fillRow_143 : decode cX1_fillRow 143 = .ok (.istore 8, 2) := by decide +kernel
theorem dX1_fillRow_145 : decode cX1_fillRow 145 = .ok (.iinc 9 1, 3) := by decide +kernel
theorem dX1_fillRow_148 : decode cX1_fillRow 148 = .ok (.goto (-70), 3) := by decide +kernel
theorem dX1_fillRow_151 : decode cX1_fillRow 151 = .ok (.iload 8, 2) := by decide +kernel
theorem dX1_fillRow_153 : decode cX1_fillRow 153 = .ok (.ireturn, 1) := by decide +kernel
theorem dX1_costBy_0 : decode cX1_costBy 0 = .ok (.getstatic 49, 3) := by decide +kernel
theorem dX1_costBy_3 : decode cX1_costBy 3 = .ok (.iload_n 1, 1) := by decide +kernel
theorem dX1_costBy_4 : decode cX1_costBy 4 = .ok (.iaload, 1) := by decide +kernel
theorem dX1_costBy_5 : decode cX1_costBy 5 = .ok (.istore 6, 2) := by decide +kernel
theorem dX1_costBy_7 : decode cX1_costBy 7 = .ok (.getstatic 52, 3) := by decide +kernel
theorem dX1_costBy_10 : decode cX1_costBy 10 = .ok (.iload_n 1, 1) := by decide +kernel
theorem dX1_costBy_11 : decode cX1_costBy 11 = .ok (.iaload, 1) := by decide +kernel
theorem dX1_costBy_12 : decode cX1_costBy 12 = .ok (.istore 7, 2) := by decide +kernel
theorem dX1_costBy_14 : decode cX1_costBy 14 = .ok (.iload_n 3, 1) := by decide +kernel
theorem dX1_costBy_15 : decode cX1_costBy 15 = .ok (.iload 6, 2) := by decide +kernel
theorem dX1_costBy_17 : decode cX1_costBy 17 = .ok (.iadd, 1) := by decide +kernel
theorem dX1_costBy_18 : decode cX1_costBy 18 = .ok (.aload_n 2, 1) := by decide +kernel
theorem dX1_costBy_19 : decode cX1_costBy 19 = .ok (.getfield 19, 3) := by decide +kernel
theorem dX1_costBy_22 : decode cX1_costBy 22 = .ok (.if_icmp .gt 16, 3) := by decide +kernel
theorem dX1_costBy_25 : decode cX1_costBy 25 = .ok (.iload 5, 2) := by decide +kernel
theorem dX1_costBy_27 : decode cX1_costBy 27 = .ok (.iload 7, 2) := by decide +kernel
theorem dX1_costBy_29 : decode cX1_costBy 29 = .ok (.iadd, 1) := by decide +kernel
theorem dX1_costBy_30 : decode cX1_costBy 30 = .ok (.aload 4, 2) := by decide +kernel
theorem dX1_costBy_32 : decode cX1_costBy 32 = .ok (.getfield 19, 3) := by decide +kernel
theorem dX1_costBy_35 : decode cX1_costBy 35 = .ok (.if_icmp .le 6, 3) := by decide +kernel
theorem dX1_costBy_38 : decode cX1_costBy 38 = .ok (.ldc 25, 2) := by decide +kernel
theorem dX1_costBy_40 : decode cX1_costBy 40 = .ok (.ireturn, 1) := by decide +kernel
theorem dX1_costBy_41 : decode cX1_costBy 41 = .ok (.aload_n 0, 1) := by decide +kernel
theorem dX1_costBy_42 : decode cX1_costBy 42 = .ok (.getfield 15, 3) := by decide +kernel
theorem dX1_costBy_45 : decode cX1_costBy 45 = .ok (.iload_n 3, 1) := by decide +kernel
theorem dX1_costBy_46 : decode cX1_costBy 46 = .ok (.iload 6, 2) := by decide +kernel
theorem dX1_costBy_48 : decode cX1_costBy 48 = .ok (.iadd, 1) := by decide +kernel
theorem dX1_costBy_49 : decode cX1_costBy 49 = .ok (.bipush 41, 2) := by decide +kernel
theorem dX1_costBy_51 : decode cX1_costBy 51 = .ok (.imul, 1) := by decide +kernel
theorem dX1_costBy_52 : decode cX1_costBy 52 = .ok (.iload 5, 2) := by decide +kernel
theorem dX1_costBy_54 : decode cX1_costBy 54 = .ok (.iadd, 1) := by decide +kernel
theorem dX1_costBy_55 : decode cX1_costBy 55 = .ok (.iload 7, 2) := by decide +kernel
theorem dX1_costBy_57 : decode cX1_costBy 57 = .ok (.iadd, 1) := by decide +kernel
theorem dX1_costBy_58 : decode cX1_costBy 58 = .ok (.iaload, 1) := by decide +kernel
theorem dX1_costBy_59 : decode cX1_costBy 59 = .ok (.istore 8, 2) := by decide +kernel
theorem dX1_costBy_61 : decode cX1_costBy 61 = .ok (.iload_n 1, 1) := by decide +kernel
theorem dX1_costBy_62 : decode cX1_costBy 62 = .ok (.ifCond .ne 21, 3) := by decide +kernel
theorem dX1_costBy_65 : decode cX1_costBy 65 = .ok (.aload_n 2, 1) := by decide +kernel
theorem dX1_costBy_66 : decode cX1_costBy 66 = .ok (.iload_n 3, 1) := by decide +kernel
theorem dX1_costBy_67 : decode cX1_costBy 67 = .ok (.invokevirtual 55, 3) := by decide +kernel
theorem dX1_costBy_70 : decode cX1_costBy 70 = .ok (.aload 4, 2) := by decide +kernel
theorem dX1_costBy_72 : decode cX1_costBy 72 = .ok (.iload 5, 2) := by decide +kernel
theorem dX1_costBy_74 : decode cX1_costBy 74 = .ok (.invokevirtual 55, 3) := by decide +kernel
theorem dX1_costBy_77 : decode cX1_costBy 77 = .ok (.if_icmp .ne 6, 3) := by decide +kernel
theorem dX1_costBy_80 : decode cX1_costBy 80 = .ok (.iload 8, 2) := by decide +kernel
theorem dX1_costBy_82 : decode cX1_costBy 82 = .ok (.ireturn, 1) := by decide +kernel
theorem dX1_costBy_83 : decode cX1_costBy 83 = .ok (.aload_n 0, 1) := by decide +kernel
theorem dX1_costBy_84 : decode cX1_costBy 84 = .ok (.getfield 9, 3) := by decide +kernel
theorem dX1_costBy_87 : decode cX1_costBy 87 = .ok (.aload_n 2, 1) := by decide +kernel
theorem dX1_costBy_88 : decode cX1_costBy 88 = .ok (.iload_n 3, 1) := by decide +kernel
theorem dX1_costBy_89 : decode cX1_costBy 89 = .ok (.iload 6, 2) := by decide +kernel
theorem dX1_costBy_91 : decode cX1_costBy 91 = .ok (.invokevirtual 59, 3) := by decide +kernel
theorem dX1_costBy_94 : decode cX1_costBy 94 = .ok (.aload 4, 2) := by decide +kernel
theorem dX1_costBy_96 : decode cX1_costBy 96 = .ok (.iload 5, 2) := by decide +kernel
theorem dX1_costBy_98 : decode cX1_costBy 98 = .ok (.iload 7, 2) := by decide +kernel
theorem dX1_costBy_100 : decode cX1_costBy 100 = .ok (.invokevirtual 59, 3) := by decide +kernel
theorem dX1_costBy_103 : decode cX1_costBy 103 = .ok (.invokevirtual 62, 3) := by decide +kernel
theorem dX1_costBy_106 : decode cX1_costBy 106 = .ok (.iload 8, 2) := by decide +kernel
theorem dX1_costBy_108 : decode cX1_costBy 108 = .ok (.iadd, 1) := by decide +kernel
theorem dX1_costBy_109 : decode cX1_costBy 109 = .ok (.ireturn, 1) := by decide +kernel
theorem dX1_writeWay_0 : decode cX1_writeWay 0 = .ok (.aload_n 3, 1) := by decide +kernel
theorem dX1_writeWay_1 : decode cX1_writeWay 1 = .ok (.iconst 0, 1) := by decide +kernel
theorem dX1_writeWay_2 : decode cX1_writeWay 2 = .ok (.putfield 67, 3) := by decide +kernel
theorem dX1_writeWay_5 : decode cX1_writeWay 5 = .ok (.iconst 0, 1) := by decide +kernel
theorem dX1_writeWay_6 : decode cX1_writeWay 6 = .ok (.istore 4, 2) := by decide +kernel
theorem dX1_writeWay_8 : decode cX1_writeWay 8 = .ok (.iconst 0, 1) := by decide +kernel
theorem dX1_writeWay_9 : decode cX1_writeWay 9 = .ok (.istore 5, 2) := by decide +kernel
theorem dX1_writeWay_11 : decode cX1_writeWay 11 = .ok (.iconst 0, 1) := by decide +kernel
theorem dX1_writeWay_12 : decode cX1_writeWay 12 = .ok (.istore 6, 2) := by decide +kernel
theorem dX1_writeWay_14 : decode cX1_writeWay 14 = .ok (.iload 6, 2) := by decide +kernel
theorem dX1_writeWay_16 : decode cX1_writeWay 16 = .ok (.bipush 40, 2) := by decide +kernel
theorem dX1_writeWay_18 : decode cX1_writeWay 18 = .ok (.if_icmp .ge 126, 3) := by decide +kernel
theorem dX1_writeWay_21 : decode cX1_writeWay 21 = .ok (.iload 4, 2) := by decide +kernel
theorem dX1_writeWay_23 : decode cX1_writeWay 23 = .ok (.aload_n 1, 1) := by decide +kernel
theorem dX1_writeWay_24 : decode cX1_writeWay 24 = .ok (.getfield 19, 3) := by decide +kernel
theorem dX1_writeWay_27 : decode cX1_writeWay 27 = .ok (.if_icmp .ge 117, 3) := by decide +kernel
theorem dX1_writeWay_30 : decode cX1_writeWay 30 = .ok (.iload 5, 2) := by decide +kernel
theorem dX1_writeWay_32 : decode cX1_writeWay 32 = .ok (.aload_n 2, 1) := by decide +kernel
theorem dX1_writeWay_33 : decode cX1_writeWay 33 = .ok (.getfield 19, 3) := by decide +kernel
theorem dX1_writeWay_36 : decode cX1_writeWay 36 = .ok (.if_icmp .ge 108, 3) := by decide +kernel
theorem dX1_writeWay_39 : decode cX1_writeWay 39 = .ok (.aload_n 0, 1) := by decide +kernel
theorem dX1_writeWay_40 : decode cX1_writeWay 40 = .ok (.aload_n 1, 1) := by decide +kernel
theorem dX1_writeWay_41 : decode cX1_writeWay 41 = .ok (.iload 4, 2) := by decide +kernel
theorem dX1_writeWay_43 : decode cX1_writeWay 43 = .ok (.aload_n 2, 1) := by decide +kernel
theorem dX1_writeWay_44 : decode cX1_writeWay 44 = .ok (.iload 5, 2) := by decide +kernel
theorem dX1_writeWay_46 : decode cX1_writeWay 46 = .ok (.invokevirtual 72, 3) := by decide +kernel
theorem dX1_writeWay_49 : decode cX1_writeWay 49 = .ok (.istore 7, 2) := by decide +kernel
theorem dX1_writeWay_51 : decode cX1_writeWay 51 = .ok (.getstatic 49, 3) := by decide +kernel
theorem dX1_writeWay_54 : decode cX1_writeWay 54 = .ok (.iload 7, 2) := by decide +kernel
theorem dX1_writeWay_56 : decode cX1_writeWay 56 = .ok (.iaload, 1) := by decide +kernel
theorem dX1_writeWay_57 : decode cX1_writeWay 57 = .ok (.istore 8, 2) := by decide +kernel
theorem dX1_writeWay_59 : decode cX1_writeWay 59 = .ok (.getstatic 52, 3) := by decide +kernel
theorem dX1_writeWay_62 : decode cX1_writeWay 62 = .ok (.iload 7, 2) := by decide +kernel
theorem dX1_writeWay_64 : decode cX1_writeWay 64 = .ok (.iaload, 1) := by decide +kernel
theorem dX1_writeWay_65 : decode cX1_writeWay 65 = .ok (.istore 9, 2) := by decide +kernel
theorem dX1_writeWay_67 : decode cX1_writeWay 67 = .ok (.aload_n 0, 1) := by decide +kernel
theorem dX1_writeWay_68 : decode cX1_writeWay 68 = .ok (.getfield 15, 3) := by decide +kernel
theorem dX1_writeWay_71 : decode cX1_writeWay 71 = .ok (.iload 4, 2) := by decide +kernel
theorem dX1_writeWay_73 : decode cX1_writeWay 73 = .ok (.bipush 41, 2) := by decide +kernel
theorem dX1_writeWay_75 : decode cX1_writeWay 75 = .ok (.imul, 1) := by decide +kernel
theorem dX1_writeWay_76 : decode cX1_writeWay 76 = .ok (.iload 5, 2) := by decide +kernel
theorem dX1_writeWay_78 : decode cX1_writeWay 78 = .ok (.iadd, 1) := by decide +kernel
theorem dX1_writeWay_79 : decode cX1_writeWay 79 = .ok (.iaload, 1) := by decide +kernel
theorem dX1_writeWay_80 : decode cX1_writeWay 80 = .ok (.aload_n 0, 1) := by decide +kernel
theorem dX1_writeWay_81 : decode cX1_writeWay 81 = .ok (.getfield 15, 3) := by decide +kernel
theorem dX1_writeWay_84 : decode cX1_writeWay 84 = .ok (.iload 4, 2) := by decide +kernel
theorem dX1_writeWay_86 : decode cX1_writeWay 86 = .ok (.iload 8, 2) := by decide +kernel
theorem dX1_writeWay_88 : decode cX1_writeWay 88 = .ok (.iadd, 1) := by decide +kernel
theorem dX1_writeWay_89 : decode cX1_writeWay 89 = .ok (.bipush 41, 2) := by decide +kernel
theorem dX1_writeWay_91 : decode cX1_writeWay 91 = .ok (.imul, 1) := by decide +kernel
theorem dX1_writeWay_92 : decode cX1_writeWay 92 = .ok (.iload 5, 2) := by decide +kernel
theorem dX1_writeWay_94 : decode cX1_writeWay 94 = .ok (.iadd, 1) := by decide +kernel
theorem dX1_writeWay_95 : decode cX1_writeWay 95 = .ok (.iload 9, 2) := by decide +kernel
theorem dX1_writeWay_97 : decode cX1_writeWay 97 = .ok (.iadd, 1) := by decide +kernel
theorem dX1_writeWay_98 : decode cX1_writeWay 98 = .ok (.iaload, 1) := by decide +kernel
theorem dX1_writeWay_99 : decode cX1_writeWay 99 = .ok (.isub, 1) := by decide +kernel
theorem dX1_writeWay_100 : decode cX1_writeWay 100 = .ok (.istore 10, 2) := by decide +kernel
theorem dX1_writeWay_102 : decode cX1_writeWay 102 = .ok (.aload_n 3, 1) := by decide +kernel
theorem dX1_writeWay_103 : decode cX1_writeWay 103 = .ok (.aload_n 1, 1) := by decide +kernel
theorem dX1_writeWay_104 : decode cX1_writeWay 104 = .ok (.iload 4, 2) := by decide +kernel
theorem dX1_writeWay_106 : decode cX1_writeWay 106 = .ok (.iload 8, 2) := by decide +kernel
theorem dX1_writeWay_108 : decode cX1_writeWay 108 = .ok (.invokevirtual 76, 3) := by decide +kernel
theorem dX1_writeWay_111 : decode cX1_writeWay 111 = .ok (.aload_n 2, 1) := by decide +kernel
theorem dX1_writeWay_112 : decode cX1_writeWay 112 = .ok (.iload 5, 2) := by decide +kernel
theorem dX1_writeWay_114 : decode cX1_writeWay 114 = .ok (.iload 9, 2) := by decide +kernel
theorem dX1_writeWay_116 : decode cX1_writeWay 116 = .ok (.invokevirtual 76, 3) := by decide +kernel
theorem dX1_writeWay_119 : decode cX1_writeWay 119 = .ok (.iload 10, 2) := by decide +kernel
theorem dX1_writeWay_121 : decode cX1_writeWay 121 = .ok (.invokevirtual 79, 3) := by decide +kernel
theorem dX1_writeWay_124 : decode cX1_writeWay 124 = .ok (.iload 4, 2) := by decide +kernel
theorem dX1_writeWay_126 : decode cX1_writeWay 126 = .ok (.iload 8, 2) := by decide +kernel
theorem dX1_writeWay_128 : decode cX1_writeWay 128 = .ok (.iadd, 1) := by decide +kernel
theorem dX1_writeWay_129 : decode cX1_writeWay 129 = .ok (.istore 4, 2) := by decide +kernel
theorem dX1_writeWay_131 : decode cX1_writeWay 131 = .ok (.iload 5, 2) := by decide +kernel
theorem dX1_writeWay_133 : decode cX1_writeWay 133 = .ok (.iload 9, 2) := by decide +kernel
theorem dX1_writeWay_135 : decode cX1_writeWay 135 = .ok (.iadd, 1) := by decide +kernel
theorem dX1_writeWay_136 : decode cX1_writeWay 136 = .ok (.istore 5, 2) := by decide +kernel
theorem dX1_writeWay_138 : decode cX1_writeWay 138 = .ok (.iinc 6 1, 3) := by decide +kernel
theorem dX1_writeWay_141 : decode cX1_writeWay 141 = .ok (.goto (-127), 3) := by decide +kernel
theorem dX1_writeWay_144 : decode cX1_writeWay 144 = .ok (.return_, 1) := by decide +kernel
theorem dX1_firstShape_0 : decode cX1_firstShape 0 = .ok (.iconst 0, 1) := by decide +kernel
theorem dX1_firstShape_1 : decode cX1_firstShape 1 = .ok (.istore 5, 2) := by decide +kernel
theorem dX1_firstShape_3 : decode cX1_firstShape 3 = .ok (.iload 5, 2) := by decide +kernel
theorem dX1_firstShape_5 : decode cX1_firstShape 5 = .ok (.iconst 4, 1) := by decide +kernel
theorem dX1_firstShape_6 : decode cX1_firstShape 6 = .ok (.if_icmp .ge 38, 3) := by decide +kernel
theorem dX1_firstShape_9 : decode cX1_firstShape 9 = .ok (.aload_n 0, 1) := by decide +kernel
theorem dX1_firstShape_10 : decode cX1_firstShape 10 = .ok (.iload 5, 2) := by decide +kernel
theorem dX1_firstShape_12 : decode cX1_firstShape 12 = .ok (.aload_n 1, 1) := by decide +kernel
theorem dX1_firstShape_13 : decode cX1_firstShape 13 = .ok (.iload_n 2, 1) := by decide +kernel
theorem dX1_firstShape_14 : decode cX1_firstShape 14 = .ok (.aload_n 3, 1) := by decide +kernel
theorem dX1_firstShape_15 : decode cX1_firstShape 15 = .ok (.iload 4, 2) := by decide +kernel
theorem dX1_firstShape_17 : decode cX1_firstShape 17 = .ok (.invokevirtual 45, 3) := by decide +kernel
theorem dX1_firstShape_20 : decode cX1_firstShape 20 = .ok (.aload_n 0, 1) := by decide +kernel
theorem dX1_firstShape_21 : decode cX1_firstShape 21 = .ok (.getfield 15, 3) := by decide +kernel
theorem dX1_firstShape_24 : decode cX1_firstShape 24 = .ok (.iload_n 2, 1) := by decide +kernel
theorem dX1_firstShape_25 : decode cX1_firstShape 25 = .ok (.bipush 41, 2) := by decide +kernel
theorem dX1_firstShape_27 : decode cX1_firstShape 27 = .ok (.imul, 1) := by decide +kernel
theorem dX1_firstShape_28 : decode cX1_firstShape 28 = .ok (.iload 4, 2) := by decide +kernel
theorem dX1_firstShape_30 : decode cX1_firstShape 30 = .ok (.iadd, 1) := by decide +kernel
theorem dX1_firstShape_31 : decode cX1_firstShape 31 = .ok (.iaload, 1) := by decide +kernel
theorem dX1_firstShape_32 : decode cX1_firstShape 32 = .ok (.if_icmp .ne 6, 3) := by decide +kernel
theorem dX1_firstShape_35 : decode cX1_firstShape 35 = .ok (.iload 5, 2) := by decide +kernel
theorem dX1_firstShape_37 : decode cX1_firstShape 37 = .ok (.ireturn, 1) := by decide +kernel
theorem dX1_firstShape_38 : decode cX1_firstShape 38 = .ok (.iinc 5 1, 3) := by decide +kernel
theorem dX1_firstShape_41 : decode cX1_firstShape 41 = .ok (.goto (-38), 3) := by decide +kernel
theorem dX1_firstShape_44 : decode cX1_firstShape 44 = .ok (.iconst 0, 1) := by decide +kernel
theorem dX1_firstShape_45 : decode cX1_firstShape 45 = .ok (.ireturn, 1) := by decide +kernel
theorem dX2_init_0 : decode cX2_init 0 = .ok (.aload_n 0, 1) := by decide +kernel
theorem dX2_init_1 : decode cX2_init 1 = .ok (.invokespecial 3, 3) := by decide +kernel
theorem dX2_init_4 : decode cX2_init 4 = .ok (.aload_n 0, 1) := by decide +kernel
theorem dX2_init_5 : decode cX2_init 5 = .ok (.sipush 200, 3) := by decide +kernel
theorem dX2_init_8 : decode cX2_init 8 = .ok (.newarray .int, 2) := by decide +kernel
theorem dX2_init_10 : decode cX2_init 10 = .ok (.putfield 9, 3) := by decide +kernel
theorem dX2_init_13 : decode cX2_init 13 = .ok (.aload_n 0, 1) := by decide +kernel
theorem dX2_init_14 : decode cX2_init 14 = .ok (.sipush 200, 3) := by decide +kernel
theorem dX2_init_17 : decode cX2_init 17 = .ok (.newarray .int, 2) := by decide +kernel
theorem dX2_init_19 : decode cX2_init 19 = .ok (.putfield 15, 3) := by decide +kernel
theorem dX2_init_22 : decode cX2_init 22 = .ok (.aload_n 0, 1) := by decide +kernel
theorem dX2_init_23 : decode cX2_init 23 = .ok (.iconst 0, 1) := by decide +kernel
theorem dX2_init_24 : decode cX2_init 24 = .ok (.putfield 18, 3) := by decide +kernel
theorem dX2_init_27 : decode cX2_init 27 = .ok (.return_, 1) := by decide +kernel
theorem dX2_insert_0 : decode cX2_insert 0 = .ok (.aload_n 0, 1) := by decide +kernel
theorem dX2_insert_1 : decode cX2_insert 1 = .ok (.getfield 18, 3) := by decide +kernel
theorem dX2_insert_4 : decode cX2_insert 4 = .ok (.sipush 200, 3) := by decide +kernel
theorem dX2_insert_7 : decode cX2_insert 7 = .ok (.if_icmp .lt 4, 3) := by decide +kernel
theorem dX2_insert_10 : decode cX2_insert 10 = .ok (.return_, 1) := by decide +kernel
theorem dX2_insert_11 : decode cX2_insert 11 = .ok (.aload_n 0, 1) := by decide +kernel
theorem dX2_insert_12 : decode cX2_insert 12 = .ok (.getfield 18, 3) := by decide +kernel
theorem dX2_insert_15 : decode cX2_insert 15 = .ok (.istore_n 3, 1) := by decide +kernel
theorem dX2_insert_16 : decode cX2_insert 16 = .ok (.iload_n 3, 1) := by decide +kernel
theorem dX2_insert_17 : decode cX2_insert 17 = .ok (.ifCond .le 49, 3) := by decide +kernel
theorem dX2_insert_20 : decode cX2_insert 20 = .ok (.aload_n 0, 1) := by decide +kernel
theorem dX2_insert_21 : decode cX2_insert 21 = .ok (.getfield 15, 3) := by decide +kernel
theorem dX2_insert_24 : decode cX2_insert 24 = .ok (.iload_n 3, 1) := by decide +kernel
theorem dX2_insert_25 : decode cX2_insert 25 = .ok (.iconst 1, 1) := by decide +kernel
theorem dX2_insert_26 : decode cX2_insert 26 = .ok (.isub, 1) := by decide +kernel
theorem dX2_insert_27 : decode cX2_insert 27 = .ok (.iaload, 1) := by decide +kernel
theorem dX2_insert_28 : decode cX2_insert 28 = .ok (.iload_n 2, 1) := by decide +kernel
theorem dX2_insert_29 : decode cX2_insert 29 = .ok (.if_icmp .le 37, 3) := by decide +kernel
theorem dX2_insert_32 : decode cX2_insert 32 = .ok (.aload_n 0, 1) := by decide +kernel
theorem dX2_insert_33 : decode cX2_insert 33 = .ok (.getfield 9, 3) := by decide +kernel
theorem dX2_insert_36 : decode cX2_insert 36 = .ok (.iload_n 3, 1) := by decide +kernel
theorem dX2_insert_37 : decode cX2_insert 37 = .ok (.aload_n 0, 1) := by decide +kernel
theorem dX2_insert_38 : decode cX2_insert 38 = .ok (.getfield 9, 3) := by decide +kernel
theorem dX2_insert_41 : decode cX2_insert 41 = .ok (.iload_n 3, 1) := by decide +kernel
theorem dX2_insert_42 : decode cX2_insert 42 = .ok (.iconst 1, 1) := by decide +kernel
theorem dX2_insert_43 : decode cX2_insert 43 = .ok (.isub, 1) := by decide +kernel
theorem dX2_insert_44 : decode cX2_insert 44 = .ok (.iaload, 1) := by decide +kernel
theorem dX2_insert_45 : decode cX2_insert 45 = .ok (.iastore, 1) := by decide +kernel
theorem dX2_insert_46 : decode cX2_insert 46 = .ok (.aload_n 0, 1) := by decide +kernel
theorem dX2_insert_47 : decode cX2_insert 47 = .ok (.getfield 15, 3) := by decide +kernel
theorem dX2_insert_50 : decode cX2_insert 50 = .ok (.iload_n 3, 1) := by decide +kernel
theorem dX2_insert_51 : decode cX2_insert 51 = .ok (.aload_n 0, 1) := by decide +kernel
theorem dX2_insert_52 : decode cX2_insert 52 = .ok (.getfield 15, 3) := by decide +kernel
theorem dX2_insert_55 : decode cX2_insert 55 = .ok (.iload_n 3, 1) := by decide +kernel
theorem dX2_insert_56 : decode cX2_insert 56 = .ok (.iconst 1, 1) := by decide +kernel
theorem dX2_insert_57 : decode cX2_insert 57 = .ok (.isub, 1) := by decide +kernel
theorem dX2_insert_58 : decode cX2_insert 58 = .ok (.iaload, 1) := by decide +kernel
theorem dX2_insert_59 : decode cX2_insert 59 = .ok (.iastore, 1) := by decide +kernel
theorem dX2_insert_60 : decode cX2_insert 60 = .ok (.iinc 3 (-1), 3) := by decide +kernel
theorem dX2_insert_63 : decode cX2_insert 63 = .ok (.goto (-47), 3) := by decide +kernel
theorem dX2_insert_66 : decode cX2_insert 66 = .ok (.aload_n 0, 1) := by decide +kernel
theorem dX2_insert_67 : decode cX2_insert 67 = .ok (.getfield 9, 3) := by decide +kernel
theorem dX2_insert_70 : decode cX2_insert 70 = .ok (.iload_n 3, 1) := by decide +kernel
theorem dX2_insert_71 : decode cX2_insert 71 = .ok (.iload_n 1, 1) := by decide +kernel
theorem dX2_insert_72 : decode cX2_insert 72 = .ok (.iastore, 1) := by decide +kernel
theorem dX2_insert_73 : decode cX2_insert 73 = .ok (.aload_n 0, 1) := by decide +kernel
theorem dX2_insert_74 : decode cX2_insert 74 = .ok (.getfield 15, 3) := by decide +kernel
theorem dX2_insert_77 : decode cX2_insert 77 = .ok (.iload_n 3, 1) := by decide +kernel
theorem dX2_insert_78 : decode cX2_insert 78 = .ok (.iload_n 2, 1) := by decide +kernel
theorem dX2_insert_79 : decode cX2_insert 79 = .ok (.iastore, 1) := by decide +kernel
theorem dX2_insert_80 : decode cX2_insert 80 = .ok (.aload_n 0, 1) := by decide +kernel
theorem dX2_insert_81 : decode cX2_insert 81 = .ok (.dup, 1) := by decide +kernel
theorem dX2_insert_82 : decode cX2_insert 82 = .ok (.getfield 18, 3) := by decide +kernel
theorem dX2_insert_85 : decode cX2_insert 85 = .ok (.iconst 1, 1) := by decide +kernel
theorem dX2_insert_86 : decode cX2_insert 86 = .ok (.iadd, 1) := by decide +kernel
theorem dX2_insert_87 : decode cX2_insert 87 = .ok (.putfield 18, 3) := by decide +kernel
theorem dX2_insert_90 : decode cX2_insert 90 = .ok (.return_, 1) := by decide +kernel
theorem dX2_tell_0 : decode cX2_tell 0 = .ok (.iload_n 1, 1) := by decide +kernel
theorem dX2_tell_1 : decode cX2_tell 1 = .ok (.ifCond .lt 11, 3) := by decide +kernel
theorem dX2_tell_4 : decode cX2_tell 4 = .ok (.iload_n 1, 1) := by decide +kernel
theorem dX2_tell_5 : decode cX2_tell 5 = .ok (.aload_n 0, 1) := by decide +kernel
theorem dX2_tell_6 : decode cX2_tell 6 = .ok (.getfield 18, 3) := by decide +kernel
theorem dX2_tell_9 : decode cX2_tell 9 = .ok (.if_icmp .lt 5, 3) := by decide +kernel
theorem dX2_tell_12 : decode cX2_tell 12 = .ok (.iconst (-1), 1) := by decide +kernel
theorem dX2_tell_13 : decode cX2_tell 13 = .ok (.ireturn, 1) := by decide +kernel
theorem dX2_tell_14 : decode cX2_tell 14 = .ok (.iload_n 2, 1) := by decide +kernel
theorem dX2_tell_15 : decode cX2_tell 15 = .ok (.lookupswitch 39 #[(0, 25), (1, 32)], 25) := by decide +kernel
theorem dX2_tell_40 : decode cX2_tell 40 = .ok (.aload_n 0, 1) := by decide +kernel
theorem dX2_tell_41 : decode cX2_tell 41 = .ok (.getfield 9, 3) := by decide +kernel
theorem dX2_tell_44 : decode cX2_tell 44 = .ok (.iload_n 1, 1) := by decide +kernel
theorem dX2_tell_45 : decode cX2_tell 45 = .ok (.iaload, 1) := by decide +kernel
theorem dX2_tell_46 : decode cX2_tell 46 = .ok (.ireturn, 1) := by decide +kernel
theorem dX2_tell_47 : decode cX2_tell 47 = .ok (.aload_n 0, 1) := by decide +kernel
theorem dX2_tell_48 : decode cX2_tell 48 = .ok (.getfield 15, 3) := by decide +kernel
theorem dX2_tell_51 : decode cX2_tell 51 = .ok (.iload_n 1, 1) := by decide +kernel
theorem dX2_tell_52 : decode cX2_tell 52 = .ok (.iaload, 1) := by decide +kernel
theorem dX2_tell_53 : decode cX2_tell 53 = .ok (.ireturn, 1) := by decide +kernel
theorem dX2_tell_54 : decode cX2_tell 54 = .ok (.iconst (-1), 1) := by decide +kernel
theorem dX2_tell_55 : decode cX2_tell 55 = .ok (.ireturn, 1) := by decide +kernel
theorem dX3_init_0 : decode cX3_init 0 = .ok (.aload_n 0, 1) := by decide +kernel
theorem dX3_init_1 : decode cX3_init 1 = .ok (.invokespecial 3, 3) := by decide +kernel
theorem dX3_init_4 : decode cX3_init 4 = .ok (.aload_n 0, 1) := by decide +kernel
theorem dX3_init_5 : decode cX3_init 5 = .ok (.sipush 1000, 3) := by decide +kernel
theorem dX3_init_8 : decode cX3_init 8 = .ok (.newarray .int, 2) := by decide +kernel
theorem dX3_init_10 : decode cX3_init 10 = .ok (.putfield 9, 3) := by decide +kernel
theorem dX3_init_13 : decode cX3_init 13 = .ok (.aload_n 0, 1) := by decide +kernel
theorem dX3_init_14 : decode cX3_init 14 = .ok (.iconst 0, 1) := by decide +kernel
theorem dX3_init_15 : decode cX3_init 15 = .ok (.putfield 15, 3) := by decide +kernel
theorem dX3_init_18 : decode cX3_init 18 = .ok (.return_, 1) := by decide +kernel
theorem dX3_add_0 : decode cX3_add 0 = .ok (.aload_n 0, 1) := by decide +kernel
theorem dX3_add_1 : decode cX3_add 1 = .ok (.getfield 15, 3) := by decide +kernel
theorem dX3_add_4 : decode cX3_add 4 = .ok (.sipush 1000, 3) := by decide +kernel
theorem dX3_add_7 : decode cX3_add 7 = .ok (.if_icmp .ge 23, 3) := by decide +kernel
theorem dX3_add_10 : decode cX3_add 10 = .ok (.aload_n 0, 1) := by decide +kernel
theorem dX3_add_11 : decode cX3_add 11 = .ok (.getfield 9, 3) := by decide +kernel
theorem dX3_add_14 : decode cX3_add 14 = .ok (.aload_n 0, 1) := by decide +kernel
theorem dX3_add_15 : decode cX3_add 15 = .ok (.getfield 15, 3) := by decide +kernel
theorem dX3_add_18 : decode cX3_add 18 = .ok (.iload_n 1, 1) := by decide +kernel
theorem dX3_add_19 : decode cX3_add 19 = .ok (.bipush 16, 2) := by decide +kernel
theorem dX3_add_21 : decode cX3_add 21 = .ok (.ishl, 1) := by decide +kernel
theorem dX3_add_22 : decode cX3_add 22 = .ok (.iload_n 2, 1) := by decide +kernel
theorem dX3_add_23 : decode cX3_add 23 = .ok (.bipush 8, 2) := by decide +kernel
theorem dX3_add_25 : decode cX3_add 25 = .ok (.ishl, 1) := by decide +kernel
theorem dX3_add_26 : decode cX3_add 26 = .ok (.ior, 1) := by decide +kernel
theorem dX3_add_27 : decode cX3_add 27 = .ok (.iload_n 3, 1) := by decide +kernel
theorem dX3_add_28 : decode cX3_add 28 = .ok (.ior, 1) := by decide +kernel
theorem dX3_add_29 : decode cX3_add 29 = .ok (.iastore, 1) := by decide +kernel
theorem dX3_add_30 : decode cX3_add 30 = .ok (.aload_n 0, 1) := by decide +kernel
theorem dX3_add_31 : decode cX3_add 31 = .ok (.dup, 1) := by decide +kernel
theorem dX3_add_32 : decode cX3_add 32 = .ok (.getfield 15, 3) := by decide +kernel
theorem dX3_add_35 : decode cX3_add 35 = .ok (.iconst 1, 1) := by decide +kernel
theorem dX3_add_36 : decode cX3_add 36 = .ok (.iadd, 1) := by decide +kernel
theorem dX3_add_37 : decode cX3_add 37 = .ok (.putfield 15, 3) := by decide +kernel
theorem dX3_add_40 : decode cX3_add 40 = .ok (.return_, 1) := by decide +kernel
theorem dX3_tell_0 : decode cX3_tell 0 = .ok (.iload_n 1, 1) := by decide +kernel
theorem dX3_tell_1 : decode cX3_tell 1 = .ok (.ifCond .lt 18, 3) := by decide +kernel
theorem dX3_tell_4 : decode cX3_tell 4 = .ok (.iload_n 1, 1) := by decide +kernel
theorem dX3_tell_5 : decode cX3_tell 5 = .ok (.aload_n 0, 1) := by decide +kernel
theorem dX3_tell_6 : decode cX3_tell 6 = .ok (.getfield 15, 3) := by decide +kernel
theorem dX3_tell_9 : decode cX3_tell 9 = .ok (.if_icmp .ge 10, 3) := by decide +kernel
theorem dX3_tell_12 : decode cX3_tell 12 = .ok (.iload_n 1, 1) := by decide +kernel
theorem dX3_tell_13 : decode cX3_tell 13 = .ok (.sipush 1000, 3) := by decide +kernel
theorem dX3_tell_16 : decode cX3_tell 16 = .ok (.if_icmp .lt 5, 3) := by decide +kernel
theorem dX3_tell_19 : decode cX3_tell 19 = .ok (.iconst (-1), 1) := by decide +kernel
theorem dX3_tell_20 : decode cX3_tell 20 = .ok (.ireturn, 1) := by decide +kernel
theorem dX3_tell_21 : decode cX3_tell 21 = .ok (.iload_n 2, 1) := by decide +kernel
theorem dX3_tell_22 : decode cX3_tell 22 = .ok (.tableswitch 61 0 2 #[26, 36, 50], 26) := by decide +kernel
theorem dX3_tell_48 : decode cX3_tell 48 = .ok (.aload_n 0, 1) := by decide +kernel
theorem dX3_tell_49 : decode cX3_tell 49 = .ok (.getfield 9, 3) := by decide +kernel
theorem dX3_tell_52 : decode cX3_tell 52 = .ok (.iload_n 1, 1) := by decide +kernel
theorem dX3_tell_53 : decode cX3_tell 53 = .ok (.iaload, 1) := by decide +kernel
theorem dX3_tell_54 : decode cX3_tell 54 = .ok (.bipush 16, 2) := by decide +kernel
theorem dX3_tell_56 : decode cX3_tell 56 = .ok (.ishr, 1) := by decide +kernel
theorem dX3_tell_57 : decode cX3_tell 57 = .ok (.ireturn, 1) := by decide +kernel
theorem dX3_tell_58 : decode cX3_tell 58 = .ok (.aload_n 0, 1) := by decide +kernel
theorem dX3_tell_59 : decode cX3_tell 59 = .ok (.getfield 9, 3) := by decide +kernel
theorem dX3_tell_62 : decode cX3_tell 62 = .ok (.iload_n 1, 1) := by decide +kernel
theorem dX3_tell_63 : decode cX3_tell 63 = .ok (.iaload, 1) := by decide +kernel
theorem dX3_tell_64 : decode cX3_tell 64 = .ok (.bipush 8, 2) := by decide +kernel
theorem dX3_tell_66 : decode cX3_tell 66 = .ok (.ishr, 1) := by decide +kernel
theorem dX3_tell_67 : decode cX3_tell 67 = .ok (.sipush 255, 3) := by decide +kernel
theorem dX3_tell_70 : decode cX3_tell 70 = .ok (.iand, 1) := by decide +kernel
theorem dX3_tell_71 : decode cX3_tell 71 = .ok (.ireturn, 1) := by decide +kernel
theorem dX3_tell_72 : decode cX3_tell 72 = .ok (.aload_n 0, 1) := by decide +kernel
theorem dX3_tell_73 : decode cX3_tell 73 = .ok (.getfield 9, 3) := by decide +kernel
theorem dX3_tell_76 : decode cX3_tell 76 = .ok (.iload_n 1, 1) := by decide +kernel
theorem dX3_tell_77 : decode cX3_tell 77 = .ok (.iaload, 1) := by decide +kernel
theorem dX3_tell_78 : decode cX3_tell 78 = .ok (.sipush 255, 3) := by decide +kernel
theorem dX3_tell_81 : decode cX3_tell 81 = .ok (.iand, 1) := by decide +kernel
theorem dX3_tell_82 : decode cX3_tell 82 = .ok (.ireturn, 1) := by decide +kernel
theorem dX3_tell_83 : decode cX3_tell 83 = .ok (.iconst (-1), 1) := by decide +kernel
theorem dX3_tell_84 : decode cX3_tell 84 = .ok (.ireturn, 1) := by decide +kernel
theorem dX4_init_0 : decode cX4_init 0 = .ok (.aload_n 0, 1) := by decide +kernel
theorem dX4_init_1 : decode cX4_init 1 = .ok (.invokespecial 3, 3) := by decide +kernel
theorem dX4_init_4 : decode cX4_init 4 = .ok (.aload_n 0, 1) := by decide +kernel
theorem dX4_init_5 : decode cX4_init 5 = .ok (.bipush 60, 2) := by decide +kernel
theorem dX4_init_7 : decode cX4_init 7 = .ok (.newarray .int, 2) := by decide +kernel
theorem dX4_init_9 : decode cX4_init 9 = .ok (.putfield 9, 3) := by decide +kernel
theorem dX4_init_12 : decode cX4_init 12 = .ok (.aload_n 0, 1) := by decide +kernel
theorem dX4_init_13 : decode cX4_init 13 = .ok (.bipush 60, 2) := by decide +kernel
theorem dX4_init_15 : decode cX4_init 15 = .ok (.newarray .int, 2) := by decide +kernel
theorem dX4_init_17 : decode cX4_init 17 = .ok (.putfield 15, 3) := by decide +kernel
theorem dX4_init_20 : decode cX4_init 20 = .ok (.aload_n 0, 1) := by decide +kernel
theorem dX4_init_21 : decode cX4_init 21 = .ok (.bipush 60, 2) := by decide +kernel
theorem dX4_init_23 : decode cX4_init 23 = .ok (.newarray .int, 2) := by decide +kernel
theorem dX4_init_25 : decode cX4_init 25 = .ok (.putfield 18, 3) := by decide +kernel
theorem dX4_init_28 : decode cX4_init 28 = .ok (.aload_n 0, 1) := by decide +kernel
theorem dX4_init_29 : decode cX4_init 29 = .ok (.iconst 0, 1) := by decide +kernel
theorem dX4_init_30 : decode cX4_init 30 = .ok (.putfield 21, 3) := by decide +kernel
theorem dX4_init_33 : decode cX4_init 33 = .ok (.aload_n 0, 1) := by decide +kernel
theorem dX4_init_34 : decode cX4_init 34 = .ok (.iconst 0, 1) := by decide +kernel
theorem dX4_init_35 : decode cX4_init 35 = .ok (.putfield 25, 3) := by decide +kernel
theorem dX4_init_38 : decode cX4_init 38 = .ok (.aload_n 0, 1) := by decide +kernel
theorem dX4_init_39 : decode cX4_init 39 = .ok (.iconst (-1), 1) := by decide +kernel
theorem dX4_init_40 : decode cX4_init 40 = .ok (.putfield 28, 3) := by decide +kernel
theorem dX4_init_43 : decode cX4_init 43 = .ok (.aload_n 0, 1) := by decide +kernel
theorem dX4_init_44 : decode cX4_init 44 = .ok (.bipush 120, 2) := by decide +kernel
theorem dX4_init_46 : decode cX4_init 46 = .ok (.newarray .int, 2) := by decide +kernel
theorem dX4_init_48 : decode cX4_init 48 = .ok (.putfield 31, 3) := by decide +kernel
theorem dX4_init_51 : decode cX4_init 51 = .ok (.aload_n 0, 1) := by decide +kernel
theorem dX4_init_52 : decode cX4_init 52 = .ok (.iconst 0, 1) := by decide +kernel
theorem dX4_init_53 : decode cX4_init 53 = .ok (.putfield 34, 3) := by decide +kernel
theorem dX4_init_56 : decode cX4_init 56 = .ok (.aload_n 0, 1) := by decide +kernel
theorem dX4_init_57 : decode cX4_init 57 = .ok (.bipush 127, 2) := by decide +kernel
theorem dX4_init_59 : decode cX4_init 59 = .ok (.newarray .int, 2) := by decide +kernel
theorem dX4_init_61 : decode cX4_init 61 = .ok (.putfield 37, 3) := by decide +kernel
theorem dX4_init_64 : decode cX4_init 64 = .ok (.aload_n 0, 1) := by decide +kernel
theorem dX4_init_65 : decode cX4_init 65 = .ok (.bipush 120, 2) := by decide +kernel
theorem dX4_init_67 : decode cX4_init 67 = .ok (.newarray .int, 2) := by decide +kernel
theorem dX4_init_69 : decode cX4_init 69 = .ok (.putfield 40, 3) := by decide +kernel
theorem dX4_init_72 : decode cX4_init 72 = .ok (.aload_n 0, 1) := by decide +kernel
theorem dX4_init_73 : decode cX4_init 73 = .ok (.iconst 0, 1) := by decide +kernel
theorem dX4_init_74 : decode cX4_init 74 = .ok (.newarray .int, 2) := by decide +kernel
theorem dX4_init_76 : decode cX4_init 76 = .ok (.putfield 43, 3) := by decide +kernel
theorem dX4_init_79 : decode cX4_init 79 = .ok (.return_, 1) := by decide +kernel
theorem dX4_tell_0 : decode cX4_tell 0 = .ok (.aload_n 0, 1) := by decide +kernel
theorem dX4_tell_1 : decode cX4_tell 1 = .ok (.iload_n 1, 1) := by decide +kernel
theorem dX4_tell_2 : decode cX4_tell 2 = .ok (.iload_n 2, 1) := by decide +kernel
theorem dX4_tell_3 : decode cX4_tell 3 = .ok (.invokevirtual 46, 3) := by decide +kernel
theorem dX4_tell_6 : decode cX4_tell 6 = .ok (.istore 4, 2) := by decide +kernel
theorem dX4_tell_8 : decode cX4_tell 8 = .ok (.iload 4, 2) := by decide +kernel
theorem dX4_tell_10 : decode cX4_tell 10 = .ok (.iconst (-1), 1) := by decide +kernel
theorem dX4_tell_11 : decode cX4_tell 11 = .ok (.if_icmp .eq 33, 3) := by decide +kernel
theorem dX4_tell_14 : decode cX4_tell 14 = .ok (.aload_n 0, 1) := by decide +kernel
theorem dX4_tell_15 : decode cX4_tell 15 = .ok (.getfield 18, 3) := by decide +kernel
theorem dX4_tell_18 : decode cX4_tell 18 = .ok (.iload 4, 2) := by decide +kernel
theorem dX4_tell_20 : decode cX4_tell 20 = .ok (.iaload, 1) := by decide +kernel
theorem dX4_tell_21 : decode cX4_tell 21 = .ok (.istore 5, 2) := by decide +kernel
theorem dX4_tell_23 : decode cX4_tell 23 = .ok (.aload_n 0, 1) := by decide +kernel
theorem dX4_tell_24 : decode cX4_tell 24 = .ok (.getfield 18, 3) := by decide +kernel
theorem dX4_tell_27 : decode cX4_tell 27 = .ok (.iload 4, 2) := by decide +kernel
theorem dX4_tell_29 : decode cX4_tell 29 = .ok (.iload_n 3, 1) := by decide +kernel
theorem dX4_tell_30 : decode cX4_tell 30 = .ok (.iastore, 1) := by decide +kernel
theorem dX4_tell_31 : decode cX4_tell 31 = .ok (.aload_n 0, 1) := by decide +kernel
theorem dX4_tell_32 : decode cX4_tell 32 = .ok (.dup, 1) := by decide +kernel
theorem dX4_tell_33 : decode cX4_tell 33 = .ok (.getfield 25, 3) := by decide +kernel
theorem dX4_tell_36 : decode cX4_tell 36 = .ok (.iconst 1, 1) := by decide +kernel
theorem dX4_tell_37 : decode cX4_tell 37 = .ok (.iadd, 1) := by decide +kernel
theorem dX4_tell_38 : decode cX4_tell 38 = .ok (.putfield 25, 3) := by decide +kernel
theorem dX4_tell_41 : decode cX4_tell 41 = .ok (.iload 5, 2) := by decide +kernel
theorem dX4_tell_43 : decode cX4_tell 43 = .ok (.ireturn, 1) := by decide +kernel
theorem dX4_tell_44 : decode cX4_tell 44 = .ok (.aload_n 0, 1) := by decide +kernel
theorem dX4_tell_45 : decode cX4_tell 45 = .ok (.getfield 21, 3) := by decide +kernel
theorem dX4_tell_48 : decode cX4_tell 48 = .ok (.bipush 60, 2) := by decide +kernel
theorem dX4_tell_50 : decode cX4_tell 50 = .ok (.if_icmp .lt 6, 3) := by decide +kernel
theorem dX4_tell_53 : decode cX4_tell 53 = .ok (.bipush (-3), 2) := by decide +kernel
theorem dX4_tell_55 : decode cX4_tell 55 = .ok (.ireturn, 1) := by decide +kernel
theorem dX4_tell_56 : decode cX4_tell 56 = .ok (.aload_n 0, 1) := by decide +kernel
theorem dX4_tell_57 : decode cX4_tell 57 = .ok (.getfield 9, 3) := by decide +kernel
theorem dX4_tell_60 : decode cX4_tell 60 = .ok (.aload_n 0, 1) := by decide +kernel
theorem dX4_tell_61 : decode cX4_tell 61 = .ok (.getfield 21, 3) := by decide +kernel
theorem dX4_tell_64 : decode cX4_tell 64 = .ok (.iload_n 1, 1) := by decide +kernel
theorem dX4_tell_65 : decode cX4_tell 65 = .ok (.iastore, 1) := by decide +kernel
theorem dX4_tell_66 : decode cX4_tell 66 = .ok (.aload_n 0, 1) := by decide +kernel
theorem dX4_tell_67 : decode cX4_tell 67 = .ok (.getfield 15, 3) := by decide +kernel
theorem dX4_tell_70 : decode cX4_tell 70 = .ok (.aload_n 0, 1) := by decide +kernel
theorem dX4_tell_71 : decode cX4_tell 71 = .ok (.getfield 21, 3) := by decide +kernel
theorem dX4_tell_74 : decode cX4_tell 74 = .ok (.iload_n 2, 1) := by decide +kernel
theorem dX4_tell_75 : decode cX4_tell 75 = .ok (.iastore, 1) := by decide +kernel
theorem dX4_tell_76 : decode cX4_tell 76 = .ok (.aload_n 0, 1) := by decide +kernel
theorem dX4_tell_77 : decode cX4_tell 77 = .ok (.getfield 18, 3) := by decide +kernel
theorem dX4_tell_80 : decode cX4_tell 80 = .ok (.aload_n 0, 1) := by decide +kernel
theorem dX4_tell_81 : decode cX4_tell 81 = .ok (.getfield 21, 3) := by decide +kernel
theorem dX4_tell_84 : decode cX4_tell 84 = .ok (.iload_n 3, 1) := by decide +kernel
theorem dX4_tell_85 : decode cX4_tell 85 = .ok (.iastore, 1) := by decide +kernel
theorem dX4_tell_86 : decode cX4_tell 86 = .ok (.aload_n 0, 1) := by decide +kernel
theorem dX4_tell_87 : decode cX4_tell 87 = .ok (.dup, 1) := by decide +kernel
theorem dX4_tell_88 : decode cX4_tell 88 = .ok (.getfield 21, 3) := by decide +kernel
theorem dX4_tell_91 : decode cX4_tell 91 = .ok (.iconst 1, 1) := by decide +kernel
theorem dX4_tell_92 : decode cX4_tell 92 = .ok (.iadd, 1) := by decide +kernel
theorem dX4_tell_93 : decode cX4_tell 93 = .ok (.putfield 21, 3) := by decide +kernel
theorem dX4_tell_96 : decode cX4_tell 96 = .ok (.aload_n 0, 1) := by decide +kernel
theorem dX4_tell_97 : decode cX4_tell 97 = .ok (.dup, 1) := by decide +kernel
theorem dX4_tell_98 : decode cX4_tell 98 = .ok (.getfield 25, 3) := by decide +kernel
theorem dX4_tell_101 : decode cX4_tell 101 = .ok (.iconst 1, 1) := by decide +kernel
theorem dX4_tell_102 : decode cX4_tell 102 = .ok (.iadd, 1) := by decide +kernel
theorem dX4_tell_103 : decode cX4_tell 103 = .ok (.putfield 25, 3) := by decide +kernel
theorem dX4_tell_106 : decode cX4_tell 106 = .ok (.iconst (-1), 1) := by decide +kernel
theorem dX4_tell_107 : decode cX4_tell 107 = .ok (.ireturn, 1) := by decide +kernel
theorem dX4_forget_0 : decode cX4_forget 0 = .ok (.aload_n 0, 1) := by decide +kernel
theorem dX4_forget_1 : decode cX4_forget 1 = .ok (.iload_n 1, 1) := by decide +kernel
theorem dX4_forget_2 : decode cX4_forget 2 = .ok (.iload_n 2, 1) := by decide +kernel
theorem dX4_forget_3 : decode cX4_forget 3 = .ok (.invokevirtual 46, 3) := by decide +kernel
theorem dX4_forget_6 : decode cX4_forget 6 = .ok (.istore_n 3, 1) := by decide +kernel
theorem dX4_forget_7 : decode cX4_forget 7 = .ok (.iload_n 3, 1) := by decide +kernel
theorem dX4_forget_8 : decode cX4_forget 8 = .ok (.iconst (-1), 1) := by decide +kernel
theorem dX4_forget_9 : decode cX4_forget 9 = .ok (.if_icmp .ne 5, 3) := by decide +kernel
theorem dX4_forget_12 : decode cX4_forget 12 = .ok (.iconst (-1), 1) := by decide +kernel
theorem dX4_forget_13 : decode cX4_forget 13 = .ok (.ireturn, 1) := by decide +kernel
theorem dX4_forget_14 : decode cX4_forget 14 = .ok (.aload_n 0, 1) := by decide +kernel
theorem dX4_forget_15 : decode cX4_forget 15 = .ok (.getfield 18, 3) := by decide +kernel
theorem dX4_forget_18 : decode cX4_forget 18 = .ok (.iload_n 3, 1) := by decide +kernel
theorem dX4_forget_19 : decode cX4_forget 19 = .ok (.iaload, 1) := by decide +kernel
theorem dX4_forget_20 : decode cX4_forget 20 = .ok (.istore 4, 2) := by decide +kernel
theorem dX4_forget_22 : decode cX4_forget 22 = .ok (.aload_n 0, 1) := by decide +kernel
theorem dX4_forget_23 : decode cX4_forget 23 = .ok (.dup, 1) := by decide +kernel
theorem dX4_forget_24 : decode cX4_forget 24 = .ok (.getfield 21, 3) := by decide +kernel
theorem dX4_forget_27 : decode cX4_forget 27 = .ok (.iconst 1, 1) := by decide +kernel
theorem dX4_forget_28 : decode cX4_forget 28 = .ok (.isub, 1) := by decide +kernel
theorem dX4_forget_29 : decode cX4_forget 29 = .ok (.putfield 21, 3) := by decide +kernel
theorem dX4_forget_32 : decode cX4_forget 32 = .ok (.aload_n 0, 1) := by decide +kernel
theorem dX4_forget_33 : decode cX4_forget 33 = .ok (.getfield 9, 3) := by decide +kernel
theorem dX4_forget_36 : decode cX4_forget 36 = .ok (.iload_n 3, 1) := by decide +kernel
theorem dX4_forget_37 : decode cX4_forget 37 = .ok (.aload_n 0, 1) := by decide +kernel
theorem dX4_forget_38 : decode cX4_forget 38 = .ok (.getfield 9, 3) := by decide +kernel
theorem dX4_forget_41 : decode cX4_forget 41 = .ok (.aload_n 0, 1) := by decide +kernel
theorem dX4_forget_42 : decode cX4_forget 42 = .ok (.getfield 21, 3) := by decide +kernel
theorem dX4_forget_45 : decode cX4_forget 45 = .ok (.iaload, 1) := by decide +kernel
theorem dX4_forget_46 : decode cX4_forget 46 = .ok (.iastore, 1) := by decide +kernel
theorem dX4_forget_47 : decode cX4_forget 47 = .ok (.aload_n 0, 1) := by decide +kernel
theorem dX4_forget_48 : decode cX4_forget 48 = .ok (.getfield 15, 3) := by decide +kernel
theorem dX4_forget_51 : decode cX4_forget 51 = .ok (.iload_n 3, 1) := by decide +kernel
theorem dX4_forget_52 : decode cX4_forget 52 = .ok (.aload_n 0, 1) := by decide +kernel
theorem dX4_forget_53 : decode cX4_forget 53 = .ok (.getfield 15, 3) := by decide +kernel
theorem dX4_forget_56 : decode cX4_forget 56 = .ok (.aload_n 0, 1) := by decide +kernel
theorem dX4_forget_57 : decode cX4_forget 57 = .ok (.getfield 21, 3) := by decide +kernel
theorem dX4_forget_60 : decode cX4_forget 60 = .ok (.iaload, 1) := by decide +kernel
theorem dX4_forget_61 : decode cX4_forget 61 = .ok (.iastore, 1) := by decide +kernel
theorem dX4_forget_62 : decode cX4_forget 62 = .ok (.aload_n 0, 1) := by decide +kernel
theorem dX4_forget_63 : decode cX4_forget 63 = .ok (.getfield 18, 3) := by decide +kernel
theorem dX4_forget_66 : decode cX4_forget 66 = .ok (.iload_n 3, 1) := by decide +kernel
theorem dX4_forget_67 : decode cX4_forget 67 = .ok (.aload_n 0, 1) := by decide +kernel
theorem dX4_forget_68 : decode cX4_forget 68 = .ok (.getfield 18, 3) := by decide +kernel
theorem dX4_forget_71 : decode cX4_forget 71 = .ok (.aload_n 0, 1) := by decide +kernel
theorem dX4_forget_72 : decode cX4_forget 72 = .ok (.getfield 21, 3) := by decide +kernel
theorem dX4_forget_75 : decode cX4_forget 75 = .ok (.iaload, 1) := by decide +kernel
theorem dX4_forget_76 : decode cX4_forget 76 = .ok (.iastore, 1) := by decide +kernel
theorem dX4_forget_77 : decode cX4_forget 77 = .ok (.aload_n 0, 1) := by decide +kernel
theorem dX4_forget_78 : decode cX4_forget 78 = .ok (.dup, 1) := by decide +kernel
theorem dX4_forget_79 : decode cX4_forget 79 = .ok (.getfield 25, 3) := by decide +kernel
theorem dX4_forget_82 : decode cX4_forget 82 = .ok (.iconst 1, 1) := by decide +kernel
theorem dX4_forget_83 : decode cX4_forget 83 = .ok (.iadd, 1) := by decide +kernel
theorem dX4_forget_84 : decode cX4_forget 84 = .ok (.putfield 25, 3) := by decide +kernel
theorem dX4_forget_87 : decode cX4_forget 87 = .ok (.iload 4, 2) := by decide +kernel
theorem dX4_forget_89 : decode cX4_forget 89 = .ok (.ireturn, 1) := by decide +kernel
theorem dX4_placeOf_0 : decode cX4_placeOf 0 = .ok (.iconst 0, 1) := by decide +kernel
theorem dX4_placeOf_1 : decode cX4_placeOf 1 = .ok (.istore_n 3, 1) := by decide +kernel
theorem dX4_placeOf_2 : decode cX4_placeOf 2 = .ok (.iload_n 3, 1) := by decide +kernel
theorem dX4_placeOf_3 : decode cX4_placeOf 3 = .ok (.aload_n 0, 1) := by decide +kernel
theorem dX4_placeOf_4 : decode cX4_placeOf 4 = .ok (.getfield 21, 3) := by decide +kernel
theorem dX4_placeOf_7 : decode cX4_placeOf 7 = .ok (.if_icmp .ge 51, 3) := by decide +kernel
theorem dX4_placeOf_10 : decode cX4_placeOf 10 = .ok (.aload_n 0, 1) := by decide +kernel
theorem dX4_placeOf_11 : decode cX4_placeOf 11 = .ok (.getfield 9, 3) := by decide +kernel
theorem dX4_placeOf_14 : decode cX4_placeOf 14 = .ok (.iload_n 3, 1) := by decide +kernel
theorem dX4_placeOf_15 : decode cX4_placeOf 15 = .ok (.iaload, 1) := by decide +kernel
theorem dX4_placeOf_16 : decode cX4_placeOf 16 = .ok (.iload_n 1, 1) := by decide +kernel
theorem dX4_placeOf_17 : decode cX4_placeOf 17 = .ok (.if_icmp .ne 13, 3) := by decide +kernel
theorem dX4_placeOf_20 : decode cX4_placeOf 20 = .ok (.aload_n 0, 1) := by decide +kernel
theorem dX4_placeOf_21 : decode cX4_placeOf 21 = .ok (.getfield 15, 3) := by decide +kernel
theorem dX4_placeOf_24 : decode cX4_placeOf 24 = .ok (.iload_n 3, 1) := by decide +kernel
theorem dX4_placeOf_25 : decode cX4_placeOf 25 = .ok (.iaload, 1) := by decide +kernel
theorem dX4_placeOf_26 : decode cX4_placeOf 26 = .ok (.iload_n 2, 1) := by decide +kernel
theorem dX4_placeOf_27 : decode cX4_placeOf 27 = .ok (.if_icmp .eq 23, 3) := by decide +kernel
theorem dX4_placeOf_30 : decode cX4_placeOf 30 = .ok (.aload_n 0, 1) := by decide +kernel
theorem dX4_placeOf_31 : decode cX4_placeOf 31 = .ok (.getfield 9, 3) := by decide +kernel
theorem dX4_placeOf_34 : decode cX4_placeOf 34 = .ok (.iload_n 3, 1) := by decide +kernel
theorem dX4_placeOf_35 : decode cX4_placeOf 35 = .ok (.iaload, 1) := by decide +kernel
theorem dX4_placeOf_36 : decode cX4_placeOf 36 = .ok (.iload_n 2, 1) := by decide +kernel
theorem dX4_placeOf_37 : decode cX4_placeOf 37 = .ok (.if_icmp .ne 15, 3) := by decide +kernel
theorem dX4_placeOf_40 : decode cX4_placeOf 40 = .ok (.aload_n 0, 1) := by decide +kernel
theorem dX4_placeOf_41 : decode cX4_placeOf 41 = .ok (.getfield 15, 3) := by decide +kernel
theorem dX4_placeOf_44 : decode cX4_placeOf 44 = .ok (.iload_n 3, 1) := by decide +kernel
theorem dX4_placeOf_45 : decode cX4_placeOf 45 = .ok (.iaload, 1) := by decide +kernel
theorem dX4_placeOf_46 : decode cX4_placeOf 46 = .ok (.iload_n 1, 1) := by decide +kernel
theorem dX4_placeOf_47 : decode cX4_placeOf 47 = .ok (.if_icmp .ne 5, 3) := by decide +kernel
theorem dX4_placeOf_50 : decode cX4_placeOf 50 = .ok (.iload_n 3, 1) := by decide +kernel
theorem dX4_placeOf_51 : decode cX4_placeOf 51 = .ok (.ireturn, 1) := by decide +kernel
theorem dX4_placeOf_52 : decode cX4_placeOf 52 = .ok (.iinc 3 1, 3) := by decide +kernel
theorem dX4_placeOf_55 : decode cX4_placeOf 55 = .ok (.goto (-53), 3) := by decide +kernel
theorem dX4_placeOf_58 : decode cX4_placeOf 58 = .ok (.iconst (-1), 1) := by decide +kernel
theorem dX4_placeOf_59 : decode cX4_placeOf 59 = .ok (.ireturn, 1) := by decide +kernel
theorem dX4_countPieces_0 : decode cX4_countPieces 0 = .ok (.aload_n 0, 1) := by decide +kernel
theorem dX4_countPieces_1 : decode cX4_countPieces 1 = .ok (.invokevirtual 50, 3) := by decide +kernel
theorem dX4_countPieces_4 : decode cX4_countPieces 4 = .ok (.aload_n 0, 1) := by decide +kernel
theorem dX4_countPieces_5 : decode cX4_countPieces 5 = .ok (.getfield 34, 3) := by decide +kernel
theorem dX4_countPieces_8 : decode cX4_countPieces 8 = .ok (.ireturn, 1) := by decide +kernel
theorem dX4_closeChains_0 : decode cX4_closeChains 0 = .ok (.aload_n 0, 1) := by decide +kernel
theorem dX4_closeChains_1 : decode cX4_closeChains 1 = .ok (.getfield 28, 3) := by decide +kernel
theorem dX4_closeChains_4 : decode cX4_closeChains 4 = .ok (.aload_n 0, 1) := by decide +kernel
theorem dX4_closeChains_5 : decode cX4_closeChains 5 = .ok (.getfield 25, 3) := by decide +kernel
theorem dX4_closeChains_8 : decode cX4_closeChains 8 = .ok (.if_icmp .ne 4, 3) := by decide +kernel
theorem dX4_closeChains_11 : decode cX4_closeChains 11 = .ok (.return_, 1) := by decide +kernel
theorem dX4_closeChains_12 : decode cX4_closeChains 12 = .ok (.aload_n 0, 1) := by decide +kernel
theorem dX4_closeChains_13 : decode cX4_closeChains 13 = .ok (.aload_n 0, 1) := by decide +kernel
theorem dX4_closeChains_14 : decode cX4_closeChains 14 = .ok (.getfield 25, 3) := by decide +kernel
theorem dX4_closeChains_17 : decode cX4_closeChains 17 = .ok (.putfield 28, 3) := by decide +kernel
theorem dX4_closeChains_20 : decode cX4_closeChains 20 = .ok (.aload_n 0, 1) := by decide +kernel
theorem dX4_closeChains_21 : decode cX4_closeChains 21 = .ok (.iconst 0, 1) := by decide +kernel
theorem dX4_closeChains_22 : decode cX4_closeChains 22 = .ok (.putfield 34, 3) := by decide +kernel
theorem dX4_closeChains_25 : decode cX4_closeChains 25 = .ok (.aload_n 0, 1) := by decide +kernel
theorem dX4_closeChains_26 : decode cX4_closeChains 26 = .ok (.getfield 37, 3) := by decide +kernel
theorem dX4_closeChains_29 : decode cX4_closeChains 29 = .ok (.iconst (-1), 1) := by decide +kernel
theorem dX4_closeChains_30 : decode cX4_closeChains 30 = .ok (.invokestatic 53, 3) := by decide +kernel
theorem dX4_closeChains_33 : decode cX4_closeChains 33 = .ok (.iconst 0, 1) := by decide +kernel
theorem dX4_closeChains_34 : decode cX4_closeChains 34 = .ok (.istore_n 1, 1) := by decide +kernel
theorem dX4_closeChains_35 : decode cX4_closeChains 35 = .ok (.iload_n 1, 1) := by decide +kernel
theorem dX4_closeChains_36 : decode cX4_closeChains 36 = .ok (.aload_n 0, 1) := by decide +kernel
theorem dX4_closeChains_37 : decode cX4_closeChains 37 = .ok (.getfield 21, 3) := by decide +kernel
theorem dX4_closeChains_40 : decode cX4_closeChains 40 = .ok (.if_icmp .ge 29, 3) := by decide +kernel
theorem dX4_closeChains_43 : decode cX4_closeChains 43 = .ok (.aload_n 0, 1) := by decide +kernel
theorem dX4_closeChains_44 : decode cX4_closeChains 44 = .ok (.aload_n 0, 1) := by decide +kernel
theorem dX4_closeChains_45 : decode cX4_closeChains 45 = .ok (.getfield 9, 3) := by decide +kernel
theorem dX4_closeChains_48 : decode cX4_closeChains 48 = .ok (.iload_n 1, 1) := by decide +kernel
theorem dX4_closeChains_49 : decode cX4_closeChains 49 = .ok (.iaload, 1) := by decide +kernel
theorem dX4_closeChains_50 : decode cX4_closeChains 50 = .ok (.invokevirtual 59, 3) := by decide +kernel
theorem dX4_closeChains_53 : decode cX4_closeChains 53 = .ok (.aload_n 0, 1) := by decide +kernel
theorem dX4_closeChains_54 : decode cX4_closeChains 54 = .ok (.aload_n 0, 1) := by decide +kernel
theorem dX4_closeChains_55 : decode cX4_closeChains 55 = .ok (.getfield 15, 3) := by decide +kernel
theorem dX4_closeChains_58 : decode cX4_closeChains 58 = .ok (.iload_n 1, 1) := by decide +kernel
theorem dX4_closeChains_59 : decode cX4_closeChains 59 = .ok (.iaload, 1) := by decide +kernel
theorem dX4_closeChains_60 : decode cX4_closeChains 60 = .ok (.invokevirtual 59, 3) := by decide +kernel
theorem dX4_closeChains_63 : decode cX4_closeChains 63 = .ok (.iinc 1 1, 3) := by decide +kernel
theorem dX4_closeChains_66 : decode cX4_closeChains 66 = .ok (.goto (-31), 3) := by decide +kernel
theorem dX4_closeChains_69 : decode cX4_closeChains 69 = .ok (.aload_n 0, 1) := by decide +kernel
theorem dX4_closeChains_70 : decode cX4_closeChains 70 = .ok (.invokevirtual 63, 3) := by decide +kernel
theorem dX4_closeChains_73 : decode cX4_closeChains 73 = .ok (.iconst 0, 1) := by decide +kernel
theorem dX4_closeChains_74 : decode cX4_closeChains 74 = .ok (.istore_n 1, 1) := by decide +kernel
theorem dX4_closeChains_75 : decode cX4_closeChains 75 = .ok (.iload_n 1, 1) := by decide +kernel
theorem dX4_closeChains_76 : decode cX4_closeChains 76 = .ok (.aload_n 0, 1) := by decide +kernel
theorem dX4_closeChains_77 : decode cX4_closeChains 77 = .ok (.getfield 34, 3) := by decide +kernel
theorem dX4_closeChains_80 : decode cX4_closeChains 80 = .ok (.if_icmp .ge 14, 3) := by decide +kernel
theorem dX4_closeChains_83 : decode cX4_closeChains 83 = .ok (.aload_n 0, 1) := by decide +kernel
theorem dX4_closeChains_84 : decode cX4_closeChains 84 = .ok (.iload_n 1, 1) := by decide +kernel
theorem dX4_closeChains_85 : decode cX4_closeChains 85 = .ok (.invokevirtual 66, 3) := by decide +kernel
theorem dX4_closeChains_88 : decode cX4_closeChains 88 = .ok (.iinc 1 1, 3) := by decide +kernel
theorem dX4_closeChains_91 : decode cX4_closeChains 91 = .ok (.goto (-16), 3) := by decide +kernel
theorem dX4_closeChains_94 : decode cX4_closeChains 94 = .ok (.return_, 1) := by decide +kernel
theorem dX4_addPiece_0 : decode cX4_addPiece 0 = .ok (.iload_n 1, 1) := by decide +kernel
theorem dX4_addPiece_1 : decode cX4_addPiece 1 = .ok (.invokestatic 69, 3) := by decide +kernel
theorem dX4_addPiece_4 : decode cX4_addPiece 4 = .ok (.istore_n 2, 1) := by decide +kernel
theorem dX4_addPiece_5 : decode cX4_addPiece 5 = .ok (.iload_n 2, 1) := by decide +kernel
theorem dX4_addPiece_6 : decode cX4_addPiece 6 = .ok (.invokestatic 73, 3) := by decide +kernel
theorem dX4_addPiece_9 : decode cX4_addPiece 9 = .ok (.ifCond .eq 21, 3) := by decide +kernel
theorem dX4_addPiece_12 : decode cX4_addPiece 12 = .ok (.aload_n 0, 1) := by decide +kernel
theorem dX4_addPiece_13 : decode cX4_addPiece 13 = .ok (.getfield 34, 3) := by decide +kernel
theorem dX4_addPiece_16 : decode cX4_addPiece 16 = .ok (.bipush 120, 2) := by decide +kernel
theorem dX4_addPiece_18 : decode cX4_addPiece 18 = .ok (.if_icmp .ge 12, 3) := by decide +kernel
theorem dX4_addPiece_21 : decode cX4_addPiece 21 = .ok (.aload_n 0, 1) := by decide +kernel
theorem dX4_addPiece_22 : decode cX4_addPiece 22 = .ok (.iload_n 1, 1) := by decide +kernel
theorem dX4_addPiece_23 : decode cX4_addPiece 23 = .ok (.invokevirtual 77, 3) := by decide +kernel
theorem dX4_addPiece_26 : decode cX4_addPiece 26 = .ok (.iconst (-1), 1) := by decide +kernel
theorem dX4_addPiece_27 : decode cX4_addPiece 27 = .ok (.if_icmp .eq 4, 3) := by decide +kernel
theorem dX4_addPiece_30 : decode cX4_addPiece 30 = .ok (.return_, 1) := by decide +kernel
theorem dX4_addPiece_31 : decode cX4_addPiece 31 = .ok (.aload_n 0, 1) := by decide +kernel
theorem dX4_addPiece_32 : decode cX4_addPiece 32 = .ok (.getfield 31, 3) := by decide +kernel
theorem dX4_addPiece_35 : decode cX4_addPiece 35 = .ok (.aload_n 0, 1) := by decide +kernel
theorem dX4_addPiece_36 : decode cX4_addPiece 36 = .ok (.getfield 34, 3) := by decide +kernel
theorem dX4_addPiece_39 : decode cX4_addPiece 39 = .ok (.iload_n 1, 1) := by decide +kernel
theorem dX4_addPiece_40 : decode cX4_addPiece 40 = .ok (.iastore, 1) := by decide +kernel
theorem dX4_addPiece_41 : decode cX4_addPiece 41 = .ok (.aload_n 0, 1) := by decide +kernel
theorem dX4_addPiece_42 : decode cX4_addPiece 42 = .ok (.getfield 40, 3) := by decide +kernel
theorem dX4_addPiece_45 : decode cX4_addPiece 45 = .ok (.aload_n 0, 1) := by decide +kernel
theorem dX4_addPiece_46 : decode cX4_addPiece 46 = .ok (.getfield 34, 3) := by decide +kernel
theorem dX4_addPiece_49 : decode cX4_addPiece 49 = .ok (.aload_n 0, 1) := by decide +kernel
theorem dX4_addPiece_50 : decode cX4_addPiece 50 = .ok (.getfield 37, 3) := by decide +kernel
theorem dX4_addPiece_53 : decode cX4_addPiece 53 = .ok (.iload_n 2, 1) := by decide +kernel
theorem dX4_addPiece_54 : decode cX4_addPiece 54 = .ok (.iaload, 1) := by decide +kernel
theorem dX4_addPiece_55 : decode cX4_addPiece 55 = .ok (.iastore, 1) := by decide +kernel
theorem dX4_addPiece_56 : decode cX4_addPiece 56 = .ok (.aload_n 0, 1) := by decide +kernel
theorem dX4_addPiece_57 : decode cX4_addPiece 57 = .ok (.getfield 37, 3) := by decide +kernel
theorem dX4_addPiece_60 : decode cX4_addPiece 60 = .ok (.iload_n 2, 1) := by decide +kernel
theorem dX4_addPiece_61 : decode cX4_addPiece 61 = .ok (.aload_n 0, 1) := by decide +kernel
theorem dX4_addPiece_62 : decode cX4_addPiece 62 = .ok (.getfield 34, 3) := by decide +kernel
theorem dX4_addPiece_65 : decode cX4_addPiece 65 = .ok (.iastore, 1) := by decide +kernel
theorem dX4_addPiece_66 : decode cX4_addPiece 66 = .ok (.aload_n 0, 1) := by decide +kernel
theorem dX4_addPiece_67 : decode cX4_addPiece 67 = .ok (.dup, 1) := by decide +kernel
theorem dX4_addPiece_68 : decode cX4_addPiece 68 = .ok (.getfield 34, 3) := by decide +kernel
theorem dX4_addPiece_71 : decode cX4_addPiece 71 = .ok (.iconst 1, 1) := by decide +kernel
theorem dX4_addPiece_72 : decode cX4_addPiece 72 = .ok (.iadd, 1) := by decide +kernel
theorem dX4_addPiece_73 : decode cX4_addPiece 73 = .ok (.putfield 34, 3) := by decide +kernel
theorem dX4_addPiece_76 : decode cX4_addPiece 76 = .ok (.return_, 1) := by decide +kernel
theorem dX4_indexOf_0 : decode cX4_indexOf 0 = .ok (.iload_n 1, 1) := by decide +kernel
theorem dX4_indexOf_1 : decode cX4_indexOf 1 = .ok (.invokestatic 69, 3) := by decide +kernel
theorem dX4_indexOf_4 : decode cX4_indexOf 4 = .ok (.istore_n 2, 1) := by decide +kernel
theorem dX4_indexOf_5 : decode cX4_indexOf 5 = .ok (.iload_n 2, 1) := by decide +kernel
theorem dX4_indexOf_6 : decode cX4_indexOf 6 = .ok (.invokestatic 73, 3) := by decide +kernel
theorem dX4_indexOf_9 : decode cX4_indexOf 9 = .ok (.ifCond .eq 12, 3) := by decide +kernel
theorem dX4_indexOf_12 : decode cX4_indexOf 12 = .ok (.aload_n 0, 1) := by decide +kernel
theorem dX4_indexOf_13 : decode cX4_indexOf 13 = .ok (.getfield 37, 3) := by decide +kernel
theorem dX4_indexOf_16 : decode cX4_indexOf 16 = .ok (.iload_n 2, 1) := by decide +kernel
theorem dX4_indexOf_17 : decode cX4_indexOf 17 = .ok (.iaload, 1) := by decide +kernel
theorem dX4_indexOf_18 : decode cX4_indexOf 18 = .ok (.goto 4, 3) := by decide +kernel
theorem dX4_indexOf_21 : decode cX4_indexOf 21 = .ok (.iconst (-1), 1) := by decide +kernel
theorem dX4_indexOf_22 : decode cX4_indexOf 22 = .ok (.istore_n 3, 1) := by decide +kernel
theorem dX4_indexOf_23 : decode cX4_indexOf 23 = .ok (.iconst 0, 1) := by decide +kernel
theorem dX4_indexOf_24 : decode cX4_indexOf 24 = .ok (.istore 4, 2) := by decide +kernel
theorem dX4_indexOf_26 : decode cX4_indexOf 26 = .ok (.iload 4, 2) := by decide +kernel
theorem dX4_indexOf_28 : decode cX4_indexOf 28 = .ok (.aload_n 0, 1) := by decide +kernel
theorem dX4_indexOf_29 : decode cX4_indexOf 29 = .ok (.getfield 34, 3) := by decide +kernel
theorem dX4_indexOf_32 : decode cX4_indexOf 32 = .ok (.if_icmp .ge 40, 3) := by decide +kernel
theorem dX4_indexOf_35 : decode cX4_indexOf 35 = .ok (.iload_n 3, 1) := by decide +kernel
theorem dX4_indexOf_36 : decode cX4_indexOf 36 = .ok (.ifCond .lt 36, 3) := by decide +kernel
theorem dX4_indexOf_39 : decode cX4_indexOf 39 = .ok (.iload_n 3, 1) := by decide +kernel
theorem dX4_indexOf_40 : decode cX4_indexOf 40 = .ok (.aload_n 0, 1) := by decide +kernel
theorem dX4_indexOf_41 : decode cX4_indexOf 41 = .ok (.getfield 34, 3) := by decide +kernel
theorem dX4_indexOf_44 : decode cX4_indexOf 44 = .ok (.if_icmp .ge 28, 3) := by decide +kernel
theorem dX4_indexOf_47 : decode cX4_indexOf 47 = .ok (.aload_n 0, 1) := by decide +kernel
theorem dX4_indexOf_48 : decode cX4_indexOf 48 = .ok (.getfield 31, 3) := by decide +kernel
theorem dX4_indexOf_51 : decode cX4_indexOf 51 = .ok (.iload_n 3, 1) := by decide +kernel
theorem dX4_indexOf_52 : decode cX4_indexOf 52 = .ok (.iaload, 1) := by decide +kernel
theorem dX4_indexOf_53 : decode cX4_indexOf 53 = .ok (.iload_n 1, 1) := by decide +kernel
theorem dX4_indexOf_54 : decode cX4_indexOf 54 = .ok (.if_icmp .ne 5, 3) := by decide +kernel
theorem dX4_indexOf_57 : decode cX4_indexOf 57 = .ok (.iload_n 3, 1) := by decide +kernel
theorem dX4_indexOf_58 : decode cX4_indexOf 58 = .ok (.ireturn, 1) := by decide +kernel
theorem dX4_indexOf_59 : decode cX4_indexOf 59 = .ok (.aload_n 0, 1) := by decide +kernel
theorem dX4_indexOf_60 : decode cX4_indexOf 60 = .ok (.getfield 40, 3) := by decide +kernel
theorem dX4_indexOf_63 : decode cX4_indexOf 63 = .ok (.iload_n 3, 1) := by decide +kernel
theorem dX4_indexOf_64 : decode cX4_indexOf 64 = .ok (.iaload, 1) := by decide +kernel
theorem dX4_indexOf_65 : decode cX4_indexOf 65 = .ok (.istore_n 3, 1) := by decide +kernel
theorem dX4_indexOf_66 : decode cX4_indexOf 66 = .ok (.iinc 4 1, 3) := by decide +kernel
theorem dX4_indexOf_69 : decode cX4_indexOf 69 = .ok (.goto (-43), 3) := by decide +kernel
theorem dX4_indexOf_72 : decode cX4_indexOf 72 = .ok (.iconst (-1), 1) := by decide +kernel
theorem dX4_indexOf_73 : decode cX4_indexOf 73 = .ok (.ireturn, 1) := by decide +kernel
theorem dX4_leastBetween_0 : decode cX4_leastBetween 0 = .ok (.iload_n 1, 1) := by decide +kernel
theorem dX4_leastBetween_1 : decode cX4_leastBetween 1 = .ok (.ifCond .lt 23, 3) := by decide +kernel
theorem dX4_leastBetween_4 : decode cX4_leastBetween 4 = .ok (.iload_n 2, 1) := by decide +kernel
theorem dX4_leastBetween_5 : decode cX4_leastBetween 5 = .ok (.ifCond .lt 19, 3) := by decide +kernel
theorem dX4_leastBetween_8 : decode cX4_leastBetween 8 = .ok (.iload_n 1, 1) := by decide +kernel
theorem dX4_leastBetween_9 : decode cX4_leastBetween 9 = .ok (.aload_n 0, 1) := by decide +kernel
theorem dX4_leastBetween_10 : decode cX4_leastBetween 10 = .ok (.getfield 34, 3) := by decide +kernel
theorem dX4_leastBetween_13 : decode cX4_leastBetween 13 = .ok (.if_icmp .ge 11, 3) := by decide +kernel
theorem dX4_leastBetween_16 : decode cX4_leastBetween 16 = .ok (.iload_n 2, 1) := by decide +kernel
theorem dX4_leastBetween_17 : decode cX4_leastBetween 17 = .ok (.aload_n 0, 1) := by decide +kernel
theorem dX4_leastBetween_18 : decode cX4_leastBetween 18 = .ok (.getfield 34, 3) := by decide +kernel
theorem dX4_leastBetween_21 : decode cX4_leastBetween 21 = .ok (.if_icmp .lt 6, 3) := by decide +kernel
theorem dX4_leastBetween_24 : decode cX4_leastBetween 24 = .ok (.ldc 80, 2) := by decide +kernel
theorem dX4_leastBetween_26 : decode cX4_leastBetween 26 = .ok (.ireturn, 1) := by decide +kernel
theorem dX4_leastBetween_27 : decode cX4_leastBetween 27 = .ok (.aload_n 0, 1) := by decide +kernel
theorem dX4_leastBetween_28 : decode cX4_leastBetween 28 = .ok (.getfield 43, 3) := by decide +kernel
theorem dX4_leastBetween_31 : decode cX4_leastBetween 31 = .ok (.iload_n 1, 1) := by decide +kernel
theorem dX4_leastBetween_32 : decode cX4_leastBetween 32 = .ok (.aload_n 0, 1) := by decide +kernel
theorem dX4_leastBetween_33 : decode cX4_leastBetween 33 = .ok (.getfield 34, 3) := by decide +kernel
theorem dX4_leastBetween_36 : decode cX4_leastBetween 36 = .ok (.imul, 1) := by decide +kernel
theorem dX4_leastBetween_37 : decode cX4_leastBetween 37 = .ok (.iload_n 2, 1) := by decide +kernel
theorem dX4_leastBetween_38 : decode cX4_leastBetween 38 = .ok (.iadd, 1) := by decide +kernel
theorem dX4_leastBetween_39 : decode cX4_leastBetween 39 = .ok (.iaload, 1) := by decide +kernel
theorem dX4_leastBetween_40 : decode cX4_leastBetween 40 = .ok (.ireturn, 1) := by decide +kernel
theorem dX4_leadingSign_0 : decode cX4_leadingSign 0 = .ok (.iload_n 0, 1) := by decide +kernel
theorem dX4_leadingSign_1 : decode cX4_leadingSign 1 = .ok (.sipush 255, 3) := by decide +kernel
theorem dX4_leadingSign_4 : decode cX4_leadingSign 4 = .ok (.if_icmp .le 10, 3) := by decide +kernel
theorem dX4_leadingSign_7 : decode cX4_leadingSign 7 = .ok (.iload_n 0, 1) := by decide +kernel
theorem dX4_leadingSign_8 : decode cX4_leadingSign 8 = .ok (.bipush 8, 2) := by decide +kernel
theorem dX4_leadingSign_10 : decode cX4_leadingSign 10 = .ok (.ishr, 1) := by decide +kernel
theorem dX4_leadingSign_11 : decode cX4_leadingSign 11 = .ok (.goto 4, 3) := by decide +kernel
theorem dX4_leadingSign_14 : decode cX4_leadingSign 14 = .ok (.iload_n 0, 1) := by decide +kernel
theorem dX4_leadingSign_15 : decode cX4_leadingSign 15 = .ok (.ireturn, 1) := by decide +kernel
theorem dX4_writeSteps_0 : decode cX4_writeSteps 0 = .ok (.aload_n 0, 1) := by decide +kernel
theorem dX4_writeSteps_1 : decode cX4_writeSteps 1 = .ok (.getfield 34, 3) := by decide +kernel
theorem dX4_writeSteps_4 : decode cX4_writeSteps 4 = .ok (.istore_n 1, 1) := by decide +kernel
theorem dX4_writeSteps_5 : decode cX4_writeSteps 5 = .ok (.aload_n 0, 1) := by decide +kernel
theorem dX4_writeSteps_6 : decode cX4_writeSteps 6 = .ok (.getfield 43, 3) := by decide +kernel
theorem dX4_writeSteps_9 : decode cX4_writeSteps 9 = .ok (.arraylength, 1) := by decide +kernel
theorem dX4_writeSteps_10 : decode cX4_writeSteps 10 = .ok (.iload_n 1, 1) := by decide +kernel
theorem dX4_writeSteps_11 : decode cX4_writeSteps 11 = .ok (.iload_n 1, 1) := by decide +kernel
theorem dX4_writeSteps_12 : decode cX4_writeSteps 12 = .ok (.imul, 1) := by decide +kernel
theorem dX4_writeSteps_13 : decode cX4_writeSteps 13 = .ok (.if_icmp .ge 28, 3) := by decide +kernel
theorem dX4_writeSteps_16 : decode cX4_writeSteps 16 = .ok (.aload_n 0, 1) := by decide +kernel
theorem dX4_writeSteps_17 : decode cX4_writeSteps 17 = .ok (.iload_n 1, 1) := by decide +kernel
theorem dX4_writeSteps_18 : decode cX4_writeSteps 18 = .ok (.iload_n 1, 1) := by decide +kernel
theorem dX4_writeSteps_19 : decode cX4_writeSteps 19 = .ok (.imul, 1) := by decide +kernel
theorem dX4_writeSteps_20 : decode cX4_writeSteps 20 = .ok (.iconst 2, 1) := by decide +kernel
theorem dX4_writeSteps_21 : decode cX4_writeSteps 21 = .ok (.aload_n 0, 1) := by decide +kernel
theorem dX4_writeSteps_22 : decode cX4_writeSteps 22 = .ok (.getfield 43, 3) := by decide +kernel
theorem dX4_writeSteps_25 : decode cX4_writeSteps 25 = .ok (.arraylength, 1) := by decide +kernel
theorem dX4_writeSteps_26 : decode cX4_writeSteps 26 = .ok (.imul, 1) := by decide +kernel
theorem dX4_writeSteps_27 : decode cX4_writeSteps 27 = .ok (.sipush 14400, 3) := by decide +kernel
theorem dX4_writeSteps_30 : decode cX4_writeSteps 30 = .ok (.invokestatic 81, 3) := by decide +kernel
theorem dX4_writeSteps_33 : decode cX4_writeSteps 33 = .ok (.invokestatic 86, 3) := by decide +kernel
theorem dX4_writeSteps_36 : decode cX4_writeSteps 36 = .ok (.newarray .int, 2) := by decide +kernel
theorem dX4_writeSteps_38 : decode cX4_writeSteps 38 = .ok (.putfield 43, 3) := by decide +kernel
theorem dX4_writeSteps_41 : decode cX4_writeSteps 41 = .ok (.aload_n 0, 1) := by decide +kernel
theorem dX4_writeSteps_42 : decode cX4_writeSteps 42 = .ok (.getfield 43, 3) := by decide +kernel
theorem dX4_writeSteps_45 : decode cX4_writeSteps 45 = .ok (.iconst 0, 1) := by decide +kernel
theorem dX4_writeSteps_46 : decode cX4_writeSteps 46 = .ok (.iload_n 1, 1) := by decide +kernel
theorem dX4_writeSteps_47 : decode cX4_writeSteps 47 = .ok (.iload_n 1, 1) := by decide +kernel
theorem dX4_writeSteps_48 : decode cX4_writeSteps 48 = .ok (.imul, 1) := by decide +kernel
theorem dX4_writeSteps_49 : decode cX4_writeSteps 49 = .ok (.ldc 80, 2) := by decide +kernel
theorem dX4_writeSteps_51 : decode cX4_writeSteps 51 = .ok (.invokestatic 89, 3) := by decide +kernel
theorem dX4_writeSteps_54 : decode cX4_writeSteps 54 = .ok (.iconst 0, 1) := by decide +kernel
theorem dX4_writeSteps_55 : decode cX4_writeSteps 55 = .ok (.istore_n 2, 1) := by decide +kernel
theorem dX4_writeSteps_56 : decode cX4_writeSteps 56 = .ok (.iload_n 2, 1) := by decide +kernel
theorem dX4_writeSteps_57 : decode cX4_writeSteps 57 = .ok (.iload_n 1, 1) := by decide +kernel
theorem dX4_writeSteps_58 : decode cX4_writeSteps 58 = .ok (.if_icmp .ge 20, 3) := by decide +kernel
theorem dX4_writeSteps_61 : decode cX4_writeSteps 61 = .ok (.aload_n 0, 1) := by decide +kernel
theorem dX4_writeSteps_62 : decode cX4_writeSteps 62 = .ok (.getfield 43, 3) := by decide +kernel
theorem dX4_writeSteps_65 : decode cX4_writeSteps 65 = .ok (.iload_n 2, 1) := by decide +kernel
theorem dX4_writeSteps_66 : decode cX4_writeSteps 66 = .ok (.iload_n 1, 1) := by decide +kernel
theorem dX4_writeSteps_67 : decode cX4_writeSteps 67 = .ok (.imul, 1) := by decide +kernel
theorem dX4_writeSteps_68 : decode cX4_writeSteps 68 = .ok (.iload_n 2, 1) := by decide +kernel
theorem dX4_writeSteps_69 : decode cX4_writeSteps 69 = .ok (.iadd, 1) := by decide +kernel
theorem dX4_writeSteps_70 : decode cX4_writeSteps 70 = .ok (.iconst 0, 1) := by decide +kernel
theorem dX4_writeSteps_71 : decode cX4_writeSteps 71 = .ok (.iastore, 1) := by decide +kernel
theorem dX4_writeSteps_72 : decode cX4_writeSteps 72 = .ok (.iinc 2 1, 3) := by decide +kernel
theorem dX4_writeSteps_75 : decode cX4_writeSteps 75 = .ok (.goto (-19), 3) := by decide +kernel
theorem dX4_writeSteps_78 : decode cX4_writeSteps 78 = .ok (.iconst 0, 1) := by decide +kernel
theorem dX4_writeSteps_79 : decode cX4_writeSteps 79 = .ok (.istore_n 2, 1) := by decide +kernel
theorem dX4_writeSteps_80 : decode cX4_writeSteps 80 = .ok (.iload_n 2, 1) := by decide +kernel
theorem dX4_writeSteps_81 : decode cX4_writeSteps 81 = .ok (.aload_n 0, 1) := by decide +kernel
theorem dX4_writeSteps_82 : decode cX4_writeSteps 82 = .ok (.getfield 21, 3) := by decide +kernel
theorem dX4_writeSteps_85 : decode cX4_writeSteps 85 = .ok (.if_icmp .ge 77, 3) := by decide +kernel
theorem dX4_writeSteps_88 : decode cX4_writeSteps 88 = .ok (.aload_n 0, 1) := by decide +kernel
theorem dX4_writeSteps_89 : decode cX4_writeSteps 89 = .ok (.aload_n 0, 1) := by decide +kernel
theorem dX4_writeSteps_90 : decode cX4_writeSteps 90 = .ok (.getfield 9, 3) := by decide +kernel
theorem dX4_writeSteps_93 : decode cX4_writeSteps 93 = .ok (.iload_n 2, 1) := by decide +kernel
theorem dX4_writeSteps_94 : decode cX4_writeSteps 94 = .ok (.iaload, 1) := by decide +kernel
theorem dX4_writeSteps_95 : decode cX4_writeSteps 95 = .ok (.invokevirtual 77, 3) := by decide +kernel
theorem dX4_writeSteps_98 : decode cX4_writeSteps 98 = .ok (.istore_n 3, 1) := by decide +kernel
theorem dX4_writeSteps_99 : decode cX4_writeSteps 99 = .ok (.aload_n 0, 1) := by decide +kernel
theorem dX4_writeSteps_100 : decode cX4_writeSteps 100 = .ok (.aload_n 0, 1) := by decide +kernel
theorem dX4_writeSteps_101 : decode cX4_writeSteps 101 = .ok (.getfield 15, 3) := by decide +kernel
theorem dX4_writeSteps_104 : decode cX4_writeSteps 104 = .ok (.iload_n 2, 1) := by decide +kernel
theorem dX4_writeSteps_105 : decode cX4_writeSteps 105 = .ok (.iaload, 1) := by decide +kernel
theorem dX4_writeSteps_106 : decode cX4_writeSteps 106 = .ok (.invokevirtual 77, 3) := by decide +kernel
theorem dX4_writeSteps_109 : decode cX4_writeSteps 109 = .ok (.istore 4, 2) := by decide +kernel
theorem dX4_writeSteps_111 : decode cX4_writeSteps 111 = .ok (.iload_n 3, 1) := by decide +kernel
theorem dX4_writeSteps_112 : decode cX4_writeSteps 112 = .ok (.iconst (-1), 1) := by decide +kernel
theorem dX4_writeSteps_113 : decode cX4_writeSteps 113 = .ok (.if_icmp .eq 43, 3) := by decide +kernel
theorem dX4_writeSteps_116 : decode cX4_writeSteps 116 = .ok (.iload 4, 2) := by decide +kernel
theorem dX4_writeSteps_118 : decode cX4_writeSteps 118 = .ok (.iconst (-1), 1) := by decide +kernel
theorem dX4_writeSteps_119 : decode cX4_writeSteps 119 = .ok (.if_icmp .eq 37, 3) := by decide +kernel
theorem dX4_writeSteps_122 : decode cX4_writeSteps 122 = .ok (.aload_n 0, 1) := by decide +kernel
theorem dX4_writeSteps_123 : decode cX4_writeSteps 123 = .ok (.getfield 43, 3) := by decide +kernel
theorem dX4_writeSteps_126 : decode cX4_writeSteps 126 = .ok (.iload_n 3, 1) := by decide +kernel
theorem dX4_writeSteps_127 : decode cX4_writeSteps 127 = .ok (.iload_n 1, 1) := by decide +kernel
theorem dX4_writeSteps_128 : decode cX4_writeSteps 128 = .ok (.imul, 1) := by decide +kernel
theorem dX4_writeSteps_129 : decode cX4_writeSteps 129 = .ok (.iload 4, 2) := by decide +kernel
theorem dX4_writeSteps_131 : decode cX4_writeSteps 131 = .ok (.iadd, 1) := by decide +kernel
theorem dX4_writeSteps_132 : decode cX4_writeSteps 132 = .ok (.aload_n 0, 1) := by decide +kernel
theorem dX4_writeSteps_133 : decode cX4_writeSteps 133 = .ok (.getfield 18, 3) := by decide +kernel
theorem dX4_writeSteps_136 : decode cX4_writeSteps 136 = .ok (.iload_n 2, 1) := by decide +kernel
theorem dX4_writeSteps_137 : decode cX4_writeSteps 137 = .ok (.iaload, 1) := by decide +kernel
theorem dX4_writeSteps_138 : decode cX4_writeSteps 138 = .ok (.iastore, 1) := by decide +kernel
theorem dX4_writeSteps_139 : decode cX4_writeSteps 139 = .ok (.aload_n 0, 1) := by decide +kernel
theorem dX4_writeSteps_140 : decode cX4_writeSteps 140 = .ok (.getfield 43, 3) := by decide +kernel
theorem dX4_writeSteps_143 : decode cX4_writeSteps 143 = .ok (.iload 4, 2) := by decide +kernel
theorem dX4_writeSteps_145 : decode cX4_writeSteps 145 = .ok (.iload_n 1, 1) := by decide +kernel
theorem dX4_writeSteps_146 : decode cX4_writeSteps 146 = .ok (.imul, 1) := by decide +kernel
theorem dX4_writeSteps_147 : decode cX4_writeSteps 147 = .ok (.iload_n 3, 1) := by decide +kernel
theorem dX4_writeSteps_148 : decode cX4_writeSteps 148 = .ok (.iadd, 1) := by decide +kernel
theorem dX4_writeSteps_149 : decode cX4_writeSteps 149 = .ok (.aload_n 0, 1) := by decide +kernel
theorem dX4_writeSteps_150 : decode cX4_writeSteps 150 = .ok (.getfield 18, 3) := by decide +kernel
theorem dX4_writeSteps_153 : decode cX4_writeSteps 153 = .ok (.iload_n 2, 1) := by decide +kernel
theorem dX4_writeSteps_154 : decode cX4_writeSteps 154 = .ok (.iaload, 1) := by decide +kernel
theorem dX4_writeSteps_155 : decode cX4_writeSteps 155 = .ok (.iastore, 1) := by decide +kernel
theorem dX4_writeSteps_156 : decode cX4_writeSteps 156 = .ok (.iinc 2 1, 3) := by decide +kernel
theorem dX4_writeSteps_159 : decode cX4_writeSteps 159 = .ok (.goto (-79), 3) := by decide +kernel
theorem dX4_writeSteps_162 : decode cX4_writeSteps 162 = .ok (.return_, 1) := by decide +kernel
theorem dX4_goOver_0 : decode cX4_goOver 0 = .ok (.aload_n 0, 1) := by decide +kernel
theorem dX4_goOver_1 : decode cX4_goOver 1 = .ok (.getfield 34, 3) := by decide +kernel
theorem dX4_goOver_4 : decode cX4_goOver 4 = .ok (.istore_n 2, 1) := by decide +kernel
theorem dX4_goOver_5 : decode cX4_goOver 5 = .ok (.iconst 0, 1) := by decide +kernel
theorem dX4_goOver_6 : decode cX4_goOver 6 = .ok (.istore_n 3, 1) := by decide +kernel
theorem dX4_goOver_7 : decode cX4_goOver 7 = .ok (.iload_n 3, 1) := by decide +kernel
theorem dX4_goOver_8 : decode cX4_goOver 8 = .ok (.iload_n 2, 1) := by decide +kernel
theorem dX4_goOver_9 : decode cX4_goOver 9 = .ok (.if_icmp .ge 93, 3) := by decide +kernel
theorem dX4_goOver_12 : decode cX4_goOver 12 = .ok (.aload_n 0, 1) := by decide +kernel
theorem dX4_goOver_13 : decode cX4_goOver 13 = .ok (.getfield 43, 3) := by decide +kernel
theorem dX4_goOver_16 : decode cX4_goOver 16 = .ok (.iload_n 3, 1) := by decide +kernel
theorem dX4_goOver_17 : decode cX4_goOver 17 = .ok (.iload_n 2, 1) := by decide +kernel
theorem dX4_goOver_18 : decode cX4_goOver 18 = .ok (.imul, 1) := by decide +kernel
theorem dX4_goOver_19 : decode cX4_goOver 19 = .ok (.iload_n 1, 1) := by decide +kernel
theorem dX4_goOver_20 : decode cX4_goOver 20 = .ok (.iadd, 1) := by decide +kernel
theorem dX4_goOver_21 : decode cX4_goOver 21 = .ok (.iaload, 1) := by decide +kernel
theorem dX4_goOver_22 : decode cX4_goOver 22 = .ok (.istore 4, 2) := by decide +kernel
theorem dX4_goOver_24 : decode cX4_goOver 24 = .ok (.iload 4, 2) := by decide +kernel
theorem dX4_goOver_26 : decode cX4_goOver 26 = .ok (.ldc 80, 2) := by decide +kernel
theorem dX4_goOver_28 : decode cX4_goOver 28 = .ok (.if_icmp .ge 68, 3) := by decide +kernel
theorem dX4_goOver_31 : decode cX4_goOver 31 = .ok (.iload_n 3, 1) := by decide +kernel
theorem dX4_goOver_32 : decode cX4_goOver 32 = .ok (.iload_n 1, 1) := by decide +kernel
theorem dX4_goOver_33 : decode cX4_goOver 33 = .ok (.if_icmp .eq 63, 3) := by decide +kernel
theorem dX4_goOver_36 : decode cX4_goOver 36 = .ok (.iconst 0, 1) := by decide +kernel
theorem dX4_goOver_37 : decode cX4_goOver 37 = .ok (.istore 5, 2) := by decide +kernel
theorem dX4_goOver_39 : decode cX4_goOver 39 = .ok (.iload 5, 2) := by decide +kernel
theorem dX4_goOver_41 : decode cX4_goOver 41 = .ok (.iload_n 2, 1) := by decide +kernel
theorem dX4_goOver_42 : decode cX4_goOver 42 = .ok (.if_icmp .ge 54, 3) := by decide +kernel
theorem dX4_goOver_45 : decode cX4_goOver 45 = .ok (.iload 4, 2) := by decide +kernel
theorem dX4_goOver_47 : decode cX4_goOver 47 = .ok (.aload_n 0, 1) := by decide +kernel
theorem dX4_goOver_48 : decode cX4_goOver 48 = .ok (.getfield 43, 3) := by decide +kernel
theorem dX4_goOver_51 : decode cX4_goOver 51 = .ok (.iload_n 1, 1) := by decide +kernel
theorem dX4_goOver_52 : decode cX4_goOver 52 = .ok (.iload_n 2, 1) := by decide +kernel
theorem dX4_goOver_53 : decode cX4_goOver 53 = .ok (.imul, 1) := by decide +kernel
theorem dX4_goOver_54 : decode cX4_goOver 54 = .ok (.iload 5, 2) := by decide +kernel
theorem dX4_goOver_56 : decode cX4_goOver 56 = .ok (.iadd, 1) := by decide +kernel
theorem dX4_goOver_57 : decode cX4_goOver 57 = .ok (.iaload, 1) := by decide +kernel
theorem dX4_goOver_58 : decode cX4_goOver 58 = .ok (.iadd, 1) := by decide +kernel
theorem dX4_goOver_59 : decode cX4_goOver 59 = .ok (.istore 6, 2) := by decide +kernel
theorem dX4_goOver_61 : decode cX4_goOver 61 = .ok (.iload 6, 2) := by decide +kernel
theorem dX4_goOver_63 : decode cX4_goOver 63 = .ok (.aload_n 0, 1) := by decide +kernel
theorem dX4_goOver_64 : decode cX4_goOver 64 = .ok (.getfield 43, 3) := by decide +kernel
theorem dX4_goOver_67 : decode cX4_goOver 67 = .ok (.iload_n 3, 1) := by decide +kernel
theorem dX4_goOver_68 : decode cX4_goOver 68 = .ok (.iload_n 2, 1) := by decide +kernel
theorem dX4_goOver_69 : decode cX4_goOver 69 = .ok (.imul, 1) := by decide +kernel
theorem dX4_goOver_70 : decode cX4_goOver 70 = .ok (.iload 5, 2) := by decide +kernel
theorem dX4_goOver_72 : decode cX4_goOver 72 = .ok (.iadd, 1) := by decide +kernel
theorem dX4_goOver_73 : decode cX4_goOver 73 = .ok (.iaload, 1) := by decide +kernel
theorem dX4_goOver_74 : decode cX4_goOver 74 = .ok (.if_icmp .ge 16, 3) := by decide +kernel
theorem dX4_goOver_77 : decode cX4_goOver 77 = .ok (.aload_n 0, 1) := by decide +kernel
theorem dX4_goOver_78 : decode cX4_goOver 78 = .ok (.getfield 43, 3) := by decide +kernel
theorem dX4_goOver_81 : decode cX4_goOver 81 = .ok (.iload_n 3, 1) := by decide +kernel
theorem dX4_goOver_82 : decode cX4_goOver 82 = .ok (.iload_n 2, 1) := by decide +kernel
theorem dX4_goOver_83 : decode cX4_goOver 83 = .ok (.imul, 1) := by decide +kernel
theorem dX4_goOver_84 : decode cX4_goOver 84 = .ok (.iload 5, 2) := by decide +kernel
theorem dX4_goOver_86 : decode cX4_goOver 86 = .ok (.iadd, 1) := by decide +kernel
theorem dX4_goOver_87 : decode cX4_goOver 87 = .ok (.iload 6, 2) := by decide +kernel
theorem dX4_goOver_89 : decode cX4_goOver 89 = .ok (.iastore, 1) := by decide +kernel
theorem dX4_goOver_90 : decode cX4_goOver 90 = .ok (.iinc 5 1, 3) := by decide +kernel
theorem dX4_goOver_93 : decode cX4_goOver 93 = .ok (.goto (-54), 3) := by decide +kernel
theorem dX4_goOver_96 : decode cX4_goOver 96 = .ok (.iinc 3 1, 3) := by decide +kernel
theorem dX4_goOver_99 : decode cX4_goOver 99 = .ok (.goto (-92), 3) := by decide +kernel
theorem dX4_goOver_102 : decode cX4_goOver 102 = .ok (.return_, 1) := by decide +kernel
theorem dX5_init_0 : decode cX5_init 0 = .ok (.aload_n 0, 1) := by decide +kernel
theorem dX5_init_1 : decode cX5_init 1 = .ok (.invokespecial 1, 3) := by decide +kernel
theorem dX5_init_4 : decode cX5_init 4 = .ok (.aload_n 0, 1) := by decide +kernel
theorem dX5_init_5 : decode cX5_init 5 = .ok (.iconst 4, 1) := by decide +kernel
theorem dX5_init_6 : decode cX5_init 6 = .ok (.putfield 7, 3) := by decide +kernel
theorem dX5_init_9 : decode cX5_init 9 = .ok (.aload_n 0, 1) := by decide +kernel
theorem dX5_init_10 : decode cX5_init 10 = .ok (.bipush 8, 2) := by decide +kernel
theorem dX5_init_12 : decode cX5_init 12 = .ok (.putfield 13, 3) := by decide +kernel
theorem dX5_init_15 : decode cX5_init 15 = .ok (.aload_n 0, 1) := by decide +kernel
theorem dX5_init_16 : decode cX5_init 16 = .ok (.iconst 0, 1) := by decide +kernel
theorem dX5_init_17 : decode cX5_init 17 = .ok (.putfield 16, 3) := by decide +kernel
theorem dX5_init_20 : decode cX5_init 20 = .ok (.return_, 1) := by decide +kernel
theorem dX6_init_0 : decode cX6_init 0 = .ok (.aload_n 0, 1) := by decide +kernel
theorem dX6_init_1 : decode cX6_init 1 = .ok (.invokespecial 3, 3) := by decide +kernel
theorem dX6_init_4 : decode cX6_init 4 = .ok (.aload_n 0, 1) := by decide +kernel
theorem dX6_init_5 : decode cX6_init 5 = .ok (.bipush 8, 2) := by decide +kernel
theorem dX6_init_7 : decode cX6_init 7 = .ok (.newarray .int, 2) := by decide +kernel
theorem dX6_init_9 : decode cX6_init 9 = .ok (.putfield 9, 3) := by decide +kernel
theorem dX6_init_12 : decode cX6_init 12 = .ok (.aload_n 0, 1) := by decide +kernel
theorem dX6_init_13 : decode cX6_init 13 = .ok (.iconst 0, 1) := by decide +kernel
theorem dX6_init_14 : decode cX6_init 14 = .ok (.putfield 15, 3) := by decide +kernel
theorem dX6_init_17 : decode cX6_init 17 = .ok (.return_, 1) := by decide +kernel
theorem dX6_add_0 : decode cX6_add 0 = .ok (.iconst 0, 1) := by decide +kernel
theorem dX6_add_1 : decode cX6_add 1 = .ok (.istore_n 2, 1) := by decide +kernel
theorem dX6_add_2 : decode cX6_add 2 = .ok (.iload_n 2, 1) := by decide +kernel
theorem dX6_add_3 : decode cX6_add 3 = .ok (.aload_n 0, 1) := by decide +kernel
theorem dX6_add_4 : decode cX6_add 4 = .ok (.getfield 15, 3) := by decide +kernel
theorem dX6_add_7 : decode cX6_add 7 = .ok (.if_icmp .ge 24, 3) := by decide +kernel
theorem dX6_add_10 : decode cX6_add 10 = .ok (.aload_n 0, 1) := by decide +kernel
theorem dX6_add_11 : decode cX6_add 11 = .ok (.getfield 9, 3) := by decide +kernel
theorem dX6_add_14 : decode cX6_add 14 = .ok (.iload_n 2, 1) := by decide +kernel
theorem dX6_add_15 : decode cX6_add 15 = .ok (.iaload, 1) := by decide +kernel
theorem dX6_add_16 : decode cX6_add 16 = .ok (.iload_n 1, 1) := by decide +kernel
theorem dX6_add_17 : decode cX6_add 17 = .ok (.if_icmp .ne 8, 3) := by decide +kernel
theorem dX6_add_20 : decode cX6_add 20 = .ok (.aload_n 0, 1) := by decide +kernel
theorem dX6_add_21 : decode cX6_add 21 = .ok (.getfield 15, 3) := by decide +kernel
theorem dX6_add_24 : decode cX6_add 24 = .ok (.ireturn, 1) := by decide +kernel
theorem dX6_add_25 : decode cX6_add 25 = .ok (.iinc 2 1, 3) := by decide +kernel
theorem dX6_add_28 : decode cX6_add 28 = .ok (.goto (-26), 3) := by decide +kernel
theorem dX6_add_31 : decode cX6_add 31 = .ok (.aload_n 0, 1) := by decide +kernel
theorem dX6_add_32 : decode cX6_add 32 = .ok (.getfield 15, 3) := by decide +kernel
theorem dX6_add_35 : decode cX6_add 35 = .ok (.bipush 8, 2) := by decide +kernel
theorem dX6_add_37 : decode cX6_add 37 = .ok (.if_icmp .lt 6, 3) := by decide +kernel
theorem dX6_add_40 : decode cX6_add 40 = .ok (.bipush (-3), 2) := by decide +kernel
theorem dX6_add_42 : decode cX6_add 42 = .ok (.ireturn, 1) := by decide +kernel
theorem dX6_add_43 : decode cX6_add 43 = .ok (.aload_n 0, 1) := by decide +kernel
theorem dX6_add_44 : decode cX6_add 44 = .ok (.getfield 9, 3) := by decide +kernel
theorem dX6_add_47 : decode cX6_add 47 = .ok (.aload_n 0, 1) := by decide +kernel
theorem dX6_add_48 : decode cX6_add 48 = .ok (.getfield 15, 3) := by decide +kernel
theorem dX6_add_51 : decode cX6_add 51 = .ok (.iload_n 1, 1) := by decide +kernel
theorem dX6_add_52 : decode cX6_add 52 = .ok (.iastore, 1) := by decide +kernel
theorem dX6_add_53 : decode cX6_add 53 = .ok (.aload_n 0, 1) := by decide +kernel
theorem dX6_add_54 : decode cX6_add 54 = .ok (.dup, 1) := by decide +kernel
theorem dX6_add_55 : decode cX6_add 55 = .ok (.getfield 15, 3) := by decide +kernel
theorem dX6_add_58 : decode cX6_add 58 = .ok (.iconst 1, 1) := by decide +kernel
theorem dX6_add_59 : decode cX6_add 59 = .ok (.iadd, 1) := by decide +kernel
theorem dX6_add_60 : decode cX6_add 60 = .ok (.putfield 15, 3) := by decide +kernel
theorem dX6_add_63 : decode cX6_add 63 = .ok (.aload_n 0, 1) := by decide +kernel
theorem dX6_add_64 : decode cX6_add 64 = .ok (.getfield 15, 3) := by decide +kernel
theorem dX6_add_67 : decode cX6_add 67 = .ok (.ireturn, 1) := by decide +kernel
theorem dX6_holdTogether_0 : decode cX6_holdTogether 0 = .ok (.iconst 0, 1) := by decide +kernel
theorem dX6_holdTogether_1 : decode cX6_holdTogether 1 = .ok (.istore_n 2, 1) := by decide +kernel
theorem dX6_holdTogether_2 : decode cX6_holdTogether 2 = .ok (.iload_n 2, 1) := by decide +kernel
theorem dX6_holdTogether_3 : decode cX6_holdTogether 3 = .ok (.aload_n 0, 1) := by decide +kernel
theorem dX6_holdTogether_4 : decode cX6_holdTogether 4 = .ok (.getfield 15, 3) := by decide +kernel
theorem dX6_holdTogether_7 : decode cX6_holdTogether 7 = .ok (.if_icmp .ge 24, 3) := by decide +kernel
theorem dX6_holdTogether_10 : decode cX6_holdTogether 10 = .ok (.iload_n 1, 1) := by decide +kernel
theorem dX6_holdTogether_11 : decode cX6_holdTogether 11 = .ok (.aload_n 0, 1) := by decide +kernel
theorem dX6_holdTogether_12 : decode cX6_holdTogether 12 = .ok (.getfield 9, 3) := by decide +kernel
theorem dX6_holdTogether_15 : decode cX6_holdTogether 15 = .ok (.iload_n 2, 1) := by decide +kernel
theorem dX6_holdTogether_16 : decode cX6_holdTogether 16 = .ok (.iaload, 1) := by decide +kernel
theorem dX6_holdTogether_17 : decode cX6_holdTogether 17 = .ok (.iconst (-1), 1) := by decide +kernel
theorem dX6_holdTogether_18 : decode cX6_holdTogether 18 = .ok (.ixor, 1) := by decide +kernel
theorem dX6_holdTogether_19 : decode cX6_holdTogether 19 = .ok (.iand, 1) := by decide +kernel
theorem dX6_holdTogether_20 : decode cX6_holdTogether 20 = .ok (.ifCond .ne 5, 3) := by decide +kernel
theorem dX6_holdTogether_23 : decode cX6_holdTogether 23 = .ok (.iconst 1, 1) := by decide +kernel
theorem dX6_holdTogether_24 : decode cX6_holdTogether 24 = .ok (.ireturn, 1) := by decide +kernel
theorem dX6_holdTogether_25 : decode cX6_holdTogether 25 = .ok (.iinc 2 1, 3) := by decide +kernel
theorem dX6_holdTogether_28 : decode cX6_holdTogether 28 = .ok (.goto (-26), 3) := by decide +kernel
theorem dX6_holdTogether_31 : decode cX6_holdTogether 31 = .ok (.iconst 0, 1) := by decide +kernel
theorem dX6_holdTogether_32 : decode cX6_holdTogether 32 = .ok (.ireturn, 1) := by decide +kernel
theorem dX7_init_0 : decode cX7_init 0 = .ok (.aload_n 0, 1) := by decide +kernel
theorem dX7_init_1 : decode cX7_init 1 = .ok (.invokespecial 3, 3) := by decide +kernel
theorem dX7_init_4 : decode cX7_init 4 = .ok (.aload_n 0, 1) := by decide +kernel
theorem dX7_init_5 : decode cX7_init 5 = .ok (.bipush 127, 2) := by decide +kernel
theorem dX7_init_7 : decode cX7_init 7 = .ok (.newarray .int, 2) := by decide +kernel
theorem dX7_init_9 : decode cX7_init 9 = .ok (.putfield 9, 3) := by decide +kernel
theorem dX7_init_12 : decode cX7_init 12 = .ok (.aload_n 0, 1) := by decide +kernel
theorem dX7_init_13 : decode cX7_init 13 = .ok (.bipush 127, 2) := by decide +kernel
theorem dX7_init_15 : decode cX7_init 15 = .ok (.newarray .int, 2) := by decide +kernel
theorem dX7_init_17 : decode cX7_init 17 = .ok (.putfield 15, 3) := by decide +kernel
theorem dX7_init_20 : decode cX7_init 20 = .ok (.aload_n 0, 1) := by decide +kernel
theorem dX7_init_21 : decode cX7_init 21 = .ok (.iconst 0, 1) := by decide +kernel
theorem dX7_init_22 : decode cX7_init 22 = .ok (.putfield 18, 3) := by decide +kernel
theorem dX7_init_25 : decode cX7_init 25 = .ok (.aload_n 0, 1) := by decide +kernel
theorem dX7_init_26 : decode cX7_init 26 = .ok (.getfield 9, 3) := by decide +kernel
theorem dX7_init_29 : decode cX7_init 29 = .ok (.bipush 65, 2) := by decide +kernel
theorem dX7_init_31 : decode cX7_init 31 = .ok (.bipush 91, 2) := by decide +kernel
theorem dX7_init_33 : decode cX7_init 33 = .ok (.iconst 1, 1) := by decide +kernel
theorem dX7_init_34 : decode cX7_init 34 = .ok (.invokestatic 22, 3) := by decide +kernel
theorem dX7_init_37 : decode cX7_init 37 = .ok (.aload_n 0, 1) := by decide +kernel
theorem dX7_init_38 : decode cX7_init 38 = .ok (.getfield 9, 3) := by decide +kernel
theorem dX7_init_41 : decode cX7_init 41 = .ok (.bipush 97, 2) := by decide +kernel
theorem dX7_init_43 : decode cX7_init 43 = .ok (.bipush 123, 2) := by decide +kernel
theorem dX7_init_45 : decode cX7_init 45 = .ok (.iconst 1, 1) := by decide +kernel
theorem dX7_init_46 : decode cX7_init 46 = .ok (.invokestatic 22, 3) := by decide +kernel
theorem dX7_init_49 : decode cX7_init 49 = .ok (.return_, 1) := by decide +kernel
theorem dX7_scriptOf_0 : decode cX7_scriptOf 0 = .ok (.iload_n 1, 1) := by decide +kernel
theorem dX7_scriptOf_1 : decode cX7_scriptOf 1 = .ok (.invokestatic 28, 3) := by decide +kernel
theorem dX7_scriptOf_4 : decode cX7_scriptOf 4 = .ok (.ifCond .eq 12, 3) := by decide +kernel
theorem dX7_scriptOf_7 : decode cX7_scriptOf 7 = .ok (.aload_n 0, 1) := by decide +kernel
theorem dX7_scriptOf_8 : decode cX7_scriptOf 8 = .ok (.getfield 9, 3) := by decide +kernel
theorem dX7_scriptOf_11 : decode cX7_scriptOf 11 = .ok (.iload_n 1, 1) := by decide +kernel
theorem dX7_scriptOf_12 : decode cX7_scriptOf 12 = .ok (.iaload, 1) := by decide +kernel
theorem dX7_scriptOf_13 : decode cX7_scriptOf 13 = .ok (.goto 4, 3) := by decide +kernel
theorem dX7_scriptOf_16 : decode cX7_scriptOf 16 = .ok (.iconst 0, 1) := by decide +kernel
theorem dX7_scriptOf_17 : decode cX7_scriptOf 17 = .ok (.ireturn, 1) := by decide +kernel
theorem dX7_howOf_0 : decode cX7_howOf 0 = .ok (.iload_n 1, 1) := by decide +kernel
theorem dX7_howOf_1 : decode cX7_howOf 1 = .ok (.invokestatic 28, 3) := by decide +kernel
theorem dX7_howOf_4 : decode cX7_howOf 4 = .ok (.ifCond .eq 12, 3) := by decide +kernel
theorem dX7_howOf_7 : decode cX7_howOf 7 = .ok (.aload_n 0, 1) := by decide +kernel
theorem dX7_howOf_8 : decode cX7_howOf 8 = .ok (.getfield 15, 3) := by decide +kernel
theorem dX7_howOf_11 : decode cX7_howOf 11 = .ok (.iload_n 1, 1) := by decide +kernel
theorem dX7_howOf_12 : decode cX7_howOf 12 = .ok (.iaload, 1) := by decide +kernel
theorem dX7_howOf_13 : decode cX7_howOf 13 = .ok (.goto 4, 3) := by decide +kernel
theorem dX7_howOf_16 : decode cX7_howOf 16 = .ok (.iconst 1, 1) := by decide +kernel
theorem dX7_howOf_17 : decode cX7_howOf 17 = .ok (.ireturn, 1) := by decide +kernel
theorem dX7_changeScript_0 : decode cX7_changeScript 0 = .ok (.aload_n 0, 1) := by decide +kernel
theorem dX7_changeScript_1 : decode cX7_changeScript 1 = .ok (.iload_n 1, 1) := by decide +kernel
theorem dX7_changeScript_2 : decode cX7_changeScript 2 = .ok (.invokevirtual 32, 3) := by decide +kernel
theorem dX7_changeScript_5 : decode cX7_changeScript 5 = .ok (.istore_n 3, 1) := by decide +kernel
theorem dX7_changeScript_6 : decode cX7_changeScript 6 = .ok (.iload_n 1, 1) := by decide +kernel
theorem dX7_changeScript_7 : decode cX7_changeScript 7 = .ok (.invokestatic 28, 3) := by decide +kernel
theorem dX7_changeScript_10 : decode cX7_changeScript 10 = .ok (.ifCond .eq 10, 3) := by decide +kernel
theorem dX7_changeScript_13 : decode cX7_changeScript 13 = .ok (.aload_n 0, 1) := by decide +kernel
theorem dX7_changeScript_14 : decode cX7_changeScript 14 = .ok (.getfield 9, 3) := by decide +kernel
theorem dX7_changeScript_17 : decode cX7_changeScript 17 = .ok (.iload_n 1, 1) := by decide +kernel
theorem dX7_changeScript_18 : decode cX7_changeScript 18 = .ok (.iload_n 2, 1) := by decide +kernel
theorem dX7_changeScript_19 : decode cX7_changeScript 19 = .ok (.iastore, 1) := by decide +kernel
theorem dX7_changeScript_20 : decode cX7_changeScript 20 = .ok (.iload_n 3, 1) := by decide +kernel
theorem dX7_changeScript_21 : decode cX7_changeScript 21 = .ok (.ireturn, 1) := by decide +kernel
theorem dX7_changeHow_0 : decode cX7_changeHow 0 = .ok (.aload_n 0, 1) := by decide +kernel
theorem dX7_changeHow_1 : decode cX7_changeHow 1 = .ok (.iload_n 1, 1) := by decide +kernel
theorem dX7_changeHow_2 : decode cX7_changeHow 2 = .ok (.invokevirtual 36, 3) := by decide +kernel
theorem dX7_changeHow_5 : decode cX7_changeHow 5 = .ok (.istore_n 3, 1) := by decide +kernel
theorem dX7_changeHow_6 : decode cX7_changeHow 6 = .ok (.iload_n 1, 1) := by decide +kernel
theorem dX7_changeHow_7 : decode cX7_changeHow 7 = .ok (.invokestatic 28, 3) := by decide +kernel
theorem dX7_changeHow_10 : decode cX7_changeHow 10 = .ok (.ifCond .eq 25, 3) := by decide +kernel
theorem dX7_changeHow_13 : decode cX7_changeHow 13 = .ok (.iload_n 3, 1) := by decide +kernel
theorem dX7_changeHow_14 : decode cX7_changeHow 14 = .ok (.iload_n 2, 1) := by decide +kernel
theorem dX7_changeHow_15 : decode cX7_changeHow 15 = .ok (.if_icmp .eq 20, 3) := by decide +kernel
theorem dX7_changeHow_18 : decode cX7_changeHow 18 = .ok (.aload_n 0, 1) := by decide +kernel
theorem dX7_changeHow_19 : decode cX7_changeHow 19 = .ok (.getfield 15, 3) := by decide +kernel
theorem dX7_changeHow_22 : decode cX7_changeHow 22 = .ok (.iload_n 1, 1) := by decide +kernel
theorem dX7_changeHow_23 : decode cX7_changeHow 23 = .ok (.iload_n 2, 1) := by decide +kernel
theorem dX7_changeHow_24 : decode cX7_changeHow 24 = .ok (.iastore, 1) := by decide +kernel
theorem dX7_changeHow_25 : decode cX7_changeHow 25 = .ok (.aload_n 0, 1) := by decide +kernel
theorem dX7_changeHow_26 : decode cX7_changeHow 26 = .ok (.dup, 1) := by decide +kernel
theorem dX7_changeHow_27 : decode cX7_changeHow 27 = .ok (.getfield 18, 3) := by decide +kernel
theorem dX7_changeHow_30 : decode cX7_changeHow 30 = .ok (.iconst 1, 1) := by decide +kernel
theorem dX7_changeHow_31 : decode cX7_changeHow 31 = .ok (.iadd, 1) := by decide +kernel
theorem dX7_changeHow_32 : decode cX7_changeHow 32 = .ok (.putfield 18, 3) := by decide +kernel
theorem dX7_changeHow_35 : decode cX7_changeHow 35 = .ok (.iload_n 3, 1) := by decide +kernel
theorem dX7_changeHow_36 : decode cX7_changeHow 36 = .ok (.ireturn, 1) := by decide +kernel
theorem dX8_init_0 : decode cX8_init 0 = .ok (.aload_n 0, 1) := by decide +kernel
theorem dX8_init_1 : decode cX8_init 1 = .ok (.invokespecial 3, 3) := by decide +kernel
theorem dX8_init_4 : decode cX8_init 4 = .ok (.aload_n 0, 1) := by decide +kernel
theorem dX8_init_5 : decode cX8_init 5 = .ok (.iconst 0, 1) := by decide +kernel
theorem dX8_init_6 : decode cX8_init 6 = .ok (.iload_n 2, 1) := by decide +kernel
theorem dX8_init_7 : decode cX8_init 7 = .ok (.aload_n 1, 1) := by decide +kernel
theorem dX8_init_8 : decode cX8_init 8 = .ok (.arraylength, 1) := by decide +kernel
theorem dX8_init_9 : decode cX8_init 9 = .ok (.bipush 40, 2) := by decide +kernel
theorem dX8_init_11 : decode cX8_init 11 = .ok (.invokestatic 9, 3) := by decide +kernel
theorem dX8_init_14 : decode cX8_init 14 = .ok (.invokestatic 9, 3) := by decide +kernel
theorem dX8_init_17 : decode cX8_init 17 = .ok (.invokestatic 15, 3) := by decide +kernel
theorem dX8_init_20 : decode cX8_init 20 = .ok (.putfield 18, 3) := by decide +kernel
theorem dX8_init_23 : decode cX8_init 23 = .ok (.aload_n 0, 1) := by decide +kernel
theorem dX8_init_24 : decode cX8_init 24 = .ok (.aload_n 1, 1) := by decide +kernel
theorem dX8_init_25 : decode cX8_init 25 = .ok (.aload_n 0, 1) := by decide +kernel
theorem dX8_init_26 : decode cX8_init 26 = .ok (.getfield 18, 3) := by decide +kernel
theorem dX8_init_29 : decode cX8_init 29 = .ok (.invokestatic 24, 3) := by decide +kernel
theorem dX8_init_32 : decode cX8_init 32 = .ok (.putfield 30, 3) := by decide +kernel
theorem dX8_init_35 : decode cX8_init 35 = .ok (.aload_n 0, 1) := by decide +kernel
theorem dX8_init_36 : decode cX8_init 36 = .ok (.aload_n 0, 1) := by decide +kernel
theorem dX8_init_37 : decode cX8_init 37 = .ok (.getfield 18, 3) := by decide +kernel
theorem dX8_init_40 : decode cX8_init 40 = .ok (.newarray .int, 2) := by decide +kernel
theorem dX8_init_42 : decode cX8_init 42 = .ok (.putfield 34, 3) := by decide +kernel
theorem dX8_init_45 : decode cX8_init 45 = .ok (.aload_n 0, 1) := by decide +kernel
theorem dX8_init_46 : decode cX8_init 46 = .ok (.aload_n 0, 1) := by decide +kernel
theorem dX8_init_47 : decode cX8_init 47 = .ok (.getfield 18, 3) := by decide +kernel
theorem dX8_init_50 : decode cX8_init 50 = .ok (.newarray .int, 2) := by decide +kernel
theorem dX8_init_52 : decode cX8_init 52 = .ok (.putfield 37, 3) := by decide +kernel
theorem dX8_init_55 : decode cX8_init 55 = .ok (.aload_n 0, 1) := by decide +kernel
theorem dX8_init_56 : decode cX8_init 56 = .ok (.aload_n 0, 1) := by decide +kernel
theorem dX8_init_57 : decode cX8_init 57 = .ok (.getfield 18, 3) := by decide +kernel
theorem dX8_init_60 : decode cX8_init 60 = .ok (.newarray .int, 2) := by decide +kernel
theorem dX8_init_62 : decode cX8_init 62 = .ok (.putfield 40, 3) := by decide +kernel
theorem dX8_init_65 : decode cX8_init 65 = .ok (.aload_n 0, 1) := by decide +kernel
theorem dX8_init_66 : decode cX8_init 66 = .ok (.iconst 0, 1) := by decide +kernel
theorem dX8_init_67 : decode cX8_init 67 = .ok (.putfield 43, 3) := by decide +kernel
theorem dX8_init_70 : decode cX8_init 70 = .ok (.aload_n 0, 1) := by decide +kernel
theorem dX8_init_71 : decode cX8_init 71 = .ok (.iconst (-1), 1) := by decide +kernel
theorem dX8_init_72 : decode cX8_init 72 = .ok (.putfield 46, 3) := by decide +kernel
theorem dX8_init_75 : decode cX8_init 75 = .ok (.aload_n 0, 1) := by decide +kernel
theorem dX8_init_76 : decode cX8_init 76 = .ok (.iconst (-1), 1) := by decide +kernel
theorem dX8_init_77 : decode cX8_init 77 = .ok (.putfield 49, 3) := by decide +kernel
theorem dX8_init_80 : decode cX8_init 80 = .ok (.return_, 1) := by decide +kernel
theorem dX8_toldAt_0 : decode cX8_toldAt 0 = .ok (.iload_n 1, 1) := by decide +kernel
theorem dX8_toldAt_1 : decode cX8_toldAt 1 = .ok (.ifCond .lt 20, 3) := by decide +kernel
theorem dX8_toldAt_4 : decode cX8_toldAt 4 = .ok (.iload_n 1, 1) := by decide +kernel
theorem dX8_toldAt_5 : decode cX8_toldAt 5 = .ok (.aload_n 0, 1) := by decide +kernel
theorem dX8_toldAt_6 : decode cX8_toldAt 6 = .ok (.getfield 18, 3) := by decide +kernel
theorem dX8_toldAt_9 : decode cX8_toldAt 9 = .ok (.if_icmp .ge 12, 3) := by decide +kernel
theorem dX8_toldAt_12 : decode cX8_toldAt 12 = .ok (.aload_n 0, 1) := by decide +kernel
theorem dX8_toldAt_13 : decode cX8_toldAt 13 = .ok (.getfield 30, 3) := by decide +kernel
theorem dX8_toldAt_16 : decode cX8_toldAt 16 = .ok (.iload_n 1, 1) := by decide +kernel
theorem dX8_toldAt_17 : decode cX8_toldAt 17 = .ok (.iaload, 1) := by decide +kernel
theorem dX8_toldAt_18 : decode cX8_toldAt 18 = .ok (.goto 4, 3) := by decide +kernel
theorem dX8_toldAt_21 : decode cX8_toldAt 21 = .ok (.iconst (-1), 1) := by decide +kernel
theorem dX8_toldAt_22 : decode cX8_toldAt 22 = .ok (.ireturn, 1) := by decide +kernel
theorem dX8_seenAt_0 : decode cX8_seenAt 0 = .ok (.iload_n 1, 1) := by decide +kernel
theorem dX8_seenAt_1 : decode cX8_seenAt 1 = .ok (.ifCond .lt 20, 3) := by decide +kernel
theorem dX8_seenAt_4 : decode cX8_seenAt 4 = .ok (.iload_n 1, 1) := by decide +kernel
theorem dX8_seenAt_5 : decode cX8_seenAt 5 = .ok (.aload_n 0, 1) := by decide +kernel
theorem dX8_seenAt_6 : decode cX8_seenAt 6 = .ok (.getfield 43, 3) := by decide +kernel
theorem dX8_seenAt_9 : decode cX8_seenAt 9 = .ok (.if_icmp .ge 12, 3) := by decide +kernel
theorem dX8_seenAt_12 : decode cX8_seenAt 12 = .ok (.aload_n 0, 1) := by decide +kernel
theorem dX8_seenAt_13 : decode cX8_seenAt 13 = .ok (.getfield 34, 3) := by decide +kernel
theorem dX8_seenAt_16 : decode cX8_seenAt 16 = .ok (.iload_n 1, 1) := by decide +kernel
theorem dX8_seenAt_17 : decode cX8_seenAt 17 = .ok (.iaload, 1) := by decide +kernel
theorem dX8_seenAt_18 : decode cX8_seenAt 18 = .ok (.goto 4, 3) := by decide +kernel
theorem dX8_seenAt_21 : decode cX8_seenAt 21 = .ok (.iconst (-1), 1) := by decide +kernel
theorem dX8_seenAt_22 : decode cX8_seenAt 22 = .ok (.ireturn, 1) := by decide +kernel
theorem dX8_look_0 : decode cX8_look 0 = .ok (.aload_n 0, 1) := by decide +kernel
theorem dX8_look_1 : decode cX8_look 1 = .ok (.getfield 46, 3) := by decide +kernel
theorem dX8_look_4 : decode cX8_look 4 = .ok (.aload_n 1, 1) := by decide +kernel
theorem dX8_look_5 : decode cX8_look 5 = .ok (.getfield 52, 3) := by decide +kernel
theorem dX8_look_8 : decode cX8_look 8 = .ok (.if_icmp .ne 4, 3) := by decide +kernel
theorem dX8_look_11 : decode cX8_look 11 = .ok (.return_, 1) := by decide +kernel
theorem dX8_look_12 : decode cX8_look 12 = .ok (.aload_n 0, 1) := by decide +kernel
theorem dX8_look_13 : decode cX8_look 13 = .ok (.aload_n 1, 1) := by decide +kernel
theorem dX8_look_14 : decode cX8_look 14 = .ok (.getfield 52, 3) := by decide +kernel
theorem dX8_look_17 : decode cX8_look 17 = .ok (.putfield 46, 3) := by decide +kernel
theorem dX8_look_20 : decode cX8_look 20 = .ok (.aload_n 0, 1) := by decide +kernel
theorem dX8_look_21 : decode cX8_look 21 = .ok (.iconst (-1), 1) := by decide +kernel
theorem dX8_look_22 : decode cX8_look 22 = .ok (.putfield 49, 3) := by decide +kernel
theorem dX8_look_25 : decode cX8_look 25 = .ok (.aload_n 0, 1) := by decide +kernel
theorem dX8_look_26 : decode cX8_look 26 = .ok (.iconst 0, 1) := by decide +kernel
theorem dX8_look_27 : decode cX8_look 27 = .ok (.putfield 43, 3) := by decide +kernel
theorem dX8_look_30 : decode cX8_look 30 = .ok (.iconst 0, 1) := by decide +kernel
theorem dX8_look_31 : decode cX8_look 31 = .ok (.istore_n 2, 1) := by decide +kernel
theorem dX8_look_32 : decode cX8_look 32 = .ok (.iconst 0, 1) := by decide +kernel
theorem dX8_look_33 : decode cX8_look 33 = .ok (.istore_n 3, 1) := by decide +kernel
theorem dX8_look_34 : decode cX8_look 34 = .ok (.iconst 0, 1) := by decide +kernel
theorem dX8_look_35 : decode cX8_look 35 = .ok (.istore 4, 2) := by decide +kernel
theorem dX8_look_37 : decode cX8_look 37 = .ok (.iload 4, 2) := by decide +kernel
theorem dX8_look_39 : decode cX8_look 39 = .ok (.aload_n 0, 1) := by decide +kernel
theorem dX8_look_40 : decode cX8_look 40 = .ok (.getfield 18, 3) := by decide +kernel
theorem dX8_look_43 : decode cX8_look 43 = .ok (.if_icmp .ge 86, 3) := by decide +kernel
theorem dX8_look_46 : decode cX8_look 46 = .ok (.aload_n 1, 1) := by decide +kernel
theorem dX8_look_47 : decode cX8_look 47 = .ok (.aload_n 0, 1) := by decide +kernel
theorem dX8_look_48 : decode cX8_look 48 = .ok (.getfield 30, 3) := by decide +kernel
theorem dX8_look_51 : decode cX8_look 51 = .ok (.iload 4, 2) := by decide +kernel
theorem dX8_look_53 : decode cX8_look 53 = .ok (.iaload, 1) := by decide +kernel
theorem dX8_look_54 : decode cX8_look 54 = .ok (.invokevirtual 57, 3) := by decide +kernel
theorem dX8_look_57 : decode cX8_look 57 = .ok (.istore 5, 2) := by decide +kernel
theorem dX8_look_59 : decode cX8_look 59 = .ok (.iload 5, 2) := by decide +kernel
theorem dX8_look_61 : decode cX8_look 61 = .ok (.ifCond .ne 32, 3) := by decide +kernel
theorem dX8_look_64 : decode cX8_look 64 = .ok (.aload_n 0, 1) := by decide +kernel
theorem dX8_look_65 : decode cX8_look 65 = .ok (.getfield 34, 3) := by decide +kernel
theorem dX8_look_68 : decode cX8_look 68 = .ok (.aload_n 0, 1) := by decide +kernel
theorem dX8_look_69 : decode cX8_look 69 = .ok (.getfield 43, 3) := by decide +kernel
theorem dX8_look_72 : decode cX8_look 72 = .ok (.aload_n 0, 1) := by decide +kernel
theorem dX8_look_73 : decode cX8_look 73 = .ok (.getfield 30, 3) := by decide +kernel
theorem dX8_look_76 : decode cX8_look 76 = .ok (.iload 4, 2) := by decide +kernel
theorem dX8_look_78 : decode cX8_look 78 = .ok (.iaload, 1) := by decide +kernel
theorem dX8_look_79 : decode cX8_look 79 = .ok (.iastore, 1) := by decide +kernel
theorem dX8_look_80 : decode cX8_look 80 = .ok (.aload_n 0, 1) := by decide +kernel
theorem dX8_look_81 : decode cX8_look 81 = .ok (.dup, 1) := by decide +kernel
theorem dX8_look_82 : decode cX8_look 82 = .ok (.getfield 43, 3) := by decide +kernel
theorem dX8_look_85 : decode cX8_look 85 = .ok (.iconst 1, 1) := by decide +kernel
theorem dX8_look_86 : decode cX8_look 86 = .ok (.iadd, 1) := by decide +kernel
theorem dX8_look_87 : decode cX8_look 87 = .ok (.putfield 43, 3) := by decide +kernel
theorem dX8_look_90 : decode cX8_look 90 = .ok (.goto 33, 3) := by decide +kernel
theorem dX8_look_93 : decode cX8_look 93 = .ok (.iload 5, 2) := by decide +kernel
theorem dX8_look_95 : decode cX8_look 95 = .ok (.iconst 2, 1) := by decide +kernel
theorem dX8_look_96 : decode cX8_look 96 = .ok (.if_icmp .ne 27, 3) := by decide +kernel
theorem dX8_look_99 : decode cX8_look 99 = .ok (.iload_n 2, 1) := by decide +kernel
theorem dX8_look_100 : decode cX8_look 100 = .ok (.ifCond .eq 8, 3) := by decide +kernel
theorem dX8_look_103 : decode cX8_look 103 = .ok (.aload_n 0, 1) := by decide +kernel
theorem dX8_look_104 : decode cX8_look 104 = .ok (.iload_n 3, 1) := by decide +kernel
theorem dX8_look_105 : decode cX8_look 105 = .ok (.invokevirtual 61, 3) := by decide +kernel
theorem dX8_look_108 : decode cX8_look 108 = .ok (.iload_n 2, 1) := by decide +kernel
theorem dX8_look_109 : decode cX8_look 109 = .ok (.ifCond .ne 7, 3) := by decide +kernel
theorem dX8_look_112 : decode cX8_look 112 = .ok (.iconst 1, 1) := by decide +kernel
theorem dX8_look_113 : decode cX8_look 113 = .ok (.goto 4, 3) := by decide +kernel
theorem dX8_look_116 : decode cX8_look 116 = .ok (.iconst 0, 1) := by decide +kernel
theorem dX8_look_117 : decode cX8_look 117 = .ok (.istore_n 2, 1) := by decide +kernel
theorem dX8_look_118 : decode cX8_look 118 = .ok (.aload_n 0, 1) := by decide +kernel
theorem dX8_look_119 : decode cX8_look 119 = .ok (.getfield 43, 3) := by decide +kernel
theorem dX8_look_122 : decode cX8_look 122 = .ok (.istore_n 3, 1) := by decide +kernel
theorem dX8_look_123 : decode cX8_look 123 = .ok (.iinc 4 1, 3) := by decide +kernel
theorem dX8_look_126 : decode cX8_look 126 = .ok (.goto (-89), 3) := by decide +kernel
theorem dX8_look_129 : decode cX8_look 129 = .ok (.iload_n 2, 1) := by decide +kernel
theorem dX8_look_130 : decode cX8_look 130 = .ok (.ifCond .eq 8, 3) := by decide +kernel
theorem dX8_look_133 : decode cX8_look 133 = .ok (.aload_n 0, 1) := by decide +kernel
theorem dX8_look_134 : decode cX8_look 134 = .ok (.iload_n 3, 1) := by decide +kernel
theorem dX8_look_135 : decode cX8_look 135 = .ok (.invokevirtual 61, 3) := by decide +kernel
theorem dX8_look_138 : decode cX8_look 138 = .ok (.return_, 1) := by decide +kernel
theorem dX8_turnFrom_0 : decode cX8_turnFrom 0 = .ok (.aload_n 0, 1) := by decide +kernel
theorem dX8_turnFrom_1 : decode cX8_turnFrom 1 = .ok (.getfield 43, 3) := by decide +kernel
theorem dX8_turnFrom_4 : decode cX8_turnFrom 4 = .ok (.iconst 1, 1) := by decide +kernel
theorem dX8_turnFrom_5 : decode cX8_turnFrom 5 = .ok (.isub, 1) := by decide +kernel
theorem dX8_turnFrom_6 : decode cX8_turnFrom 6 = .ok (.istore_n 2, 1) := by decide +kernel
theorem dX8_turnFrom_7 : decode cX8_turnFrom 7 = .ok (.iconst 0, 1) := by decide +kernel
theorem dX8_turnFrom_8 : decode cX8_turnFrom 8 = .ok (.iload_n 1, 1) := by decide +kernel
theorem dX8_turnFrom_9 : decode cX8_turnFrom 9 = .ok (.invokestatic 15, 3) := by decide +kernel
theorem dX8_turnFrom_12 : decode cX8_turnFrom 12 = .ok (.istore_n 3, 1) := by decide +kernel
theorem dX8_turnFrom_13 : decode cX8_turnFrom 13 = .ok (.iload_n 3, 1) := by decide +kernel
theorem dX8_turnFrom_14 : decode cX8_turnFrom 14 = .ok (.iload_n 2, 1) := by decide +kernel
theorem dX8_turnFrom_15 : decode cX8_turnFrom 15 = .ok (.if_icmp .ge 40, 3) := by decide +kernel
theorem dX8_turnFrom_18 : decode cX8_turnFrom 18 = .ok (.aload_n 0, 1) := by decide +kernel
theorem dX8_turnFrom_19 : decode cX8_turnFrom 19 = .ok (.getfield 34, 3) := by decide +kernel
theorem dX8_turnFrom_22 : decode cX8_turnFrom 22 = .ok (.iload_n 3, 1) := by decide +kernel
theorem dX8_turnFrom_23 : decode cX8_turnFrom 23 = .ok (.iaload, 1) := by decide +kernel
theorem dX8_turnFrom_24 : decode cX8_turnFrom 24 = .ok (.istore 4, 2) := by decide +kernel
theorem dX8_turnFrom_26 : decode cX8_turnFrom 26 = .ok (.aload_n 0, 1) := by decide +kernel
theorem dX8_turnFrom_27 : decode cX8_turnFrom 27 = .ok (.getfield 34, 3) := by decide +kernel
theorem dX8_turnFrom_30 : decode cX8_turnFrom 30 = .ok (.iload_n 3, 1) := by decide +kernel
theorem dX8_turnFrom_31 : decode cX8_turnFrom 31 = .ok (.aload_n 0, 1) := by decide +kernel
theorem dX8_turnFrom_32 : decode cX8_turnFrom 32 = .ok (.getfield 34, 3) := by decide +kernel
theorem dX8_turnFrom_35 : decode cX8_turnFrom 35 = .ok (.iload_n 2, 1) := by decide +kernel
theorem dX8_turnFrom_36 : decode cX8_turnFrom 36 = .ok (.iaload, 1) := by decide +kernel
theorem dX8_turnFrom_37 : decode cX8_turnFrom 37 = .ok (.iastore, 1) := by decide +kernel
theorem dX8_turnFrom_38 : decode cX8_turnFrom 38 = .ok (.aload_n 0, 1) := by decide +kernel
theorem dX8_turnFrom_39 : decode cX8_turnFrom 39 = .ok (.getfield 34, 3) := by decide +kernel
theorem dX8_turnFrom_42 : decode cX8_turnFrom 42 = .ok (.iload_n 2, 1) := by decide +kernel
theorem dX8_turnFrom_43 : decode cX8_turnFrom 43 = .ok (.iload 4, 2) := by decide +kernel
theorem dX8_turnFrom_45 : decode cX8_turnFrom 45 = .ok (.iastore, 1) := by decide +kernel
theorem dX8_turnFrom_46 : decode cX8_turnFrom 46 = .ok (.iinc 2 (-1), 3) := by decide +kernel
theorem dX8_turnFrom_49 : decode cX8_turnFrom 49 = .ok (.iinc 3 1, 3) := by decide +kernel
theorem dX8_turnFrom_52 : decode cX8_turnFrom 52 = .ok (.goto (-39), 3) := by decide +kernel
theorem dX8_turnFrom_55 : decode cX8_turnFrom 55 = .ok (.return_, 1) := by decide +kernel
theorem dX8_findPieces_0 : decode cX8_findPieces 0 = .ok (.aload_n 0, 1) := by decide +kernel
theorem dX8_findPieces_1 : decode cX8_findPieces 1 = .ok (.getfield 49, 3) := by decide +kernel
theorem dX8_findPieces_4 : decode cX8_findPieces 4 = .ok (.aload_n 1, 1) := by decide +kernel
theorem dX8_findPieces_5 : decode cX8_findPieces 5 = .ok (.getfield 65, 3) := by decide +kernel
theorem dX8_findPieces_8 : decode cX8_findPieces 8 = .ok (.if_icmp .ne 4, 3) := by decide +kernel
theorem dX8_findPieces_11 : decode cX8_findPieces 11 = .ok (.return_, 1) := by decide +kernel
theorem dX8_findPieces_12 : decode cX8_findPieces 12 = .ok (.aload_n 0, 1) := by decide +kernel
theorem dX8_findPieces_13 : decode cX8_findPieces 13 = .ok (.aload_n 1, 1) := by decide +kernel
theorem dX8_findPieces_14 : decode cX8_findPieces 14 = .ok (.getfield 65, 3) := by decide +kernel
theorem dX8_findPieces_17 : decode cX8_findPieces 17 = .ok (.putfield 49, 3) := by decide +kernel
theorem dX8_findPieces_20 : decode cX8_findPieces 20 = .ok (.iconst 0, 1) := by decide +kernel
theorem dX8_findPieces_21 : decode cX8_findPieces 21 = .ok (.istore_n 2, 1) := by decide +kernel
theorem dX8_findPieces_22 : decode cX8_findPieces 22 = .ok (.iload_n 2, 1) := by decide +kernel
theorem dX8_findPieces_23 : decode cX8_findPieces 23 = .ok (.aload_n 0, 1) := by decide +kernel
theorem dX8_findPieces_24 : decode cX8_findPieces 24 = .ok (.getfield 43, 3) := by decide +kernel
theorem dX8_findPieces_27 : decode cX8_findPieces 27 = .ok (.if_icmp .ge 55, 3) := by decide +kernel
theorem dX8_findPieces_30 : decode cX8_findPieces 30 = .ok (.aload_n 0, 1) := by decide +kernel
theorem dX8_findPieces_31 : decode cX8_findPieces 31 = .ok (.getfield 37, 3) := by decide +kernel
theorem dX8_findPieces_34 : decode cX8_findPieces 34 = .ok (.iload_n 2, 1) := by decide +kernel
theorem dX8_findPieces_35 : decode cX8_findPieces 35 = .ok (.aload_n 1, 1) := by decide +kernel
theorem dX8_findPieces_36 : decode cX8_findPieces 36 = .ok (.aload_n 0, 1) := by decide +kernel
theorem dX8_findPieces_37 : decode cX8_findPieces 37 = .ok (.getfield 34, 3) := by decide +kernel
theorem dX8_findPieces_40 : decode cX8_findPieces 40 = .ok (.iload_n 2, 1) := by decide +kernel
theorem dX8_findPieces_41 : decode cX8_findPieces 41 = .ok (.iaload, 1) := by decide +kernel
theorem dX8_findPieces_42 : decode cX8_findPieces 42 = .ok (.invokevirtual 68, 3) := by decide +kernel
theorem dX8_findPieces_45 : decode cX8_findPieces 45 = .ok (.iastore, 1) := by decide +kernel
theorem dX8_findPieces_46 : decode cX8_findPieces 46 = .ok (.aload_n 0, 1) := by decide +kernel
theorem dX8_findPieces_47 : decode cX8_findPieces 47 = .ok (.getfield 40, 3) := by decide +kernel
theorem dX8_findPieces_50 : decode cX8_findPieces 50 = .ok (.iload_n 2, 1) := by decide +kernel
theorem dX8_findPieces_51 : decode cX8_findPieces 51 = .ok (.iload_n 2, 1) := by decide +kernel
theorem dX8_findPieces_52 : decode cX8_findPieces 52 = .ok (.iconst 1, 1) := by decide +kernel
theorem dX8_findPieces_53 : decode cX8_findPieces 53 = .ok (.iadd, 1) := by decide +kernel
theorem dX8_findPieces_54 : decode cX8_findPieces 54 = .ok (.aload_n 0, 1) := by decide +kernel
theorem dX8_findPieces_55 : decode cX8_findPieces 55 = .ok (.getfield 43, 3) := by decide +kernel
theorem dX8_findPieces_58 : decode cX8_findPieces 58 = .ok (.if_icmp .ge 16, 3) := by decide +kernel
theorem dX8_findPieces_61 : decode cX8_findPieces 61 = .ok (.aload_n 1, 1) := by decide +kernel
theorem dX8_findPieces_62 : decode cX8_findPieces 62 = .ok (.aload_n 0, 1) := by decide +kernel
theorem dX8_findPieces_63 : decode cX8_findPieces 63 = .ok (.iload_n 2, 1) := by decide +kernel
theorem dX8_findPieces_64 : decode cX8_findPieces 64 = .ok (.iconst 2, 1) := by decide +kernel
theorem dX8_findPieces_65 : decode cX8_findPieces 65 = .ok (.invokevirtual 71, 3) := by decide +kernel
theorem dX8_findPieces_68 : decode cX8_findPieces 68 = .ok (.invokevirtual 68, 3) := by decide +kernel
theorem dX8_findPieces_71 : decode cX8_findPieces 71 = .ok (.goto 4, 3) := by decide +kernel
theorem dX8_findPieces_74 : decode cX8_findPieces 74 = .ok (.iconst (-1), 1) := by decide +kernel
theorem dX8_findPieces_75 : decode cX8_findPieces 75 = .ok (.iastore, 1) := by decide +kernel
theorem dX8_findPieces_76 : decode cX8_findPieces 76 = .ok (.iinc 2 1, 3) := by decide +kernel
theorem dX8_findPieces_79 : decode cX8_findPieces 79 = .ok (.goto (-57), 3) := by decide +kernel
theorem dX8_findPieces_82 : decode cX8_findPieces 82 = .ok (.return_, 1) := by decide +kernel
theorem dX8_pieceAt_0 : decode cX8_pieceAt 0 = .ok (.iload_n 2, 1) := by decide +kernel
theorem dX8_pieceAt_1 : decode cX8_pieceAt 1 = .ok (.iconst 1, 1) := by decide +kernel
theorem dX8_pieceAt_2 : decode cX8_pieceAt 2 = .ok (.if_icmp .ne 11, 3) := by decide +kernel
theorem dX8_pieceAt_5 : decode cX8_pieceAt 5 = .ok (.aload_n 0, 1) := by decide +kernel
theorem dX8_pieceAt_6 : decode cX8_pieceAt 6 = .ok (.iload_n 1, 1) := by decide +kernel
theorem dX8_pieceAt_7 : decode cX8_pieceAt 7 = .ok (.invokevirtual 74, 3) := by decide +kernel
theorem dX8_pieceAt_10 : decode cX8_pieceAt 10 = .ok (.goto 20, 3) := by decide +kernel
theorem dX8_pieceAt_13 : decode cX8_pieceAt 13 = .ok (.sipush 256, 3) := by decide +kernel
theorem dX8_pieceAt_16 : decode cX8_pieceAt 16 = .ok (.aload_n 0, 1) := by decide +kernel
theorem dX8_pieceAt_17 : decode cX8_pieceAt 17 = .ok (.iload_n 1, 1) := by decide +kernel
theorem dX8_pieceAt_18 : decode cX8_pieceAt 18 = .ok (.invokevirtual 74, 3) := by decide +kernel
theorem dX8_pieceAt_21 : decode cX8_pieceAt 21 = .ok (.imul, 1) := by decide +kernel
theorem dX8_pieceAt_22 : decode cX8_pieceAt 22 = .ok (.aload_n 0, 1) := by decide +kernel
theorem dX8_pieceAt_23 : decode cX8_pieceAt 23 = .ok (.iload_n 1, 1) := by decide +kernel
theorem dX8_pieceAt_24 : decode cX8_pieceAt 24 = .ok (.iconst 1, 1) := by decide +kernel
theorem dX8_pieceAt_25 : decode cX8_pieceAt 25 = .ok (.iadd, 1) := by decide +kernel
theorem dX8_pieceAt_26 : decode cX8_pieceAt 26 = .ok (.invokevirtual 74, 3) := by decide +kernel
theorem dX8_pieceAt_29 : decode cX8_pieceAt 29 = .ok (.iadd, 1) := by decide +kernel
theorem dX8_pieceAt_30 : decode cX8_pieceAt 30 = .ok (.ireturn, 1) := by decide +kernel
theorem dX8_pieceIndexAt_0 : decode cX8_pieceIndexAt 0 = .ok (.iload_n 1, 1) := by decide +kernel
theorem dX8_pieceIndexAt_1 : decode cX8_pieceIndexAt 1 = .ok (.ifCond .lt 11, 3) := by decide +kernel
theorem dX8_pieceIndexAt_4 : decode cX8_pieceIndexAt 4 = .ok (.iload_n 1, 1) := by decide +kernel
theorem dX8_pieceIndexAt_5 : decode cX8_pieceIndexAt 5 = .ok (.aload_n 0, 1) := by decide +kernel
theorem dX8_pieceIndexAt_6 : decode cX8_pieceIndexAt 6 = .ok (.getfield 43, 3) := by decide +kernel
theorem dX8_pieceIndexAt_9 : decode cX8_pieceIndexAt 9 = .ok (.if_icmp .lt 5, 3) := by decide +kernel
theorem dX8_pieceIndexAt_12 : decode cX8_pieceIndexAt 12 = .ok (.iconst (-1), 1) := by decide +kernel
theorem dX8_pieceIndexAt_13 : decode cX8_pieceIndexAt 13 = .ok (.ireturn, 1) := by decide +kernel
theorem dX8_pieceIndexAt_14 : decode cX8_pieceIndexAt 14 = .ok (.iload_n 2, 1) := by decide +kernel
theorem dX8_pieceIndexAt_15 : decode cX8_pieceIndexAt 15 = .ok (.iconst 1, 1) := by decide +kernel
theorem dX8_pieceIndexAt_16 : decode cX8_pieceIndexAt 16 = .ok (.if_icmp .ne 12, 3) := by decide +kernel
theorem dX8_pieceIndexAt_19 : decode cX8_pieceIndexAt 19 = .ok (.aload_n 0, 1) := by decide +kernel
theorem dX8_pieceIndexAt_20 : decode cX8_pieceIndexAt 20 = .ok (.getfield 37, 3) := by decide +kernel
theorem dX8_pieceIndexAt_23 : decode cX8_pieceIndexAt 23 = .ok (.iload_n 1, 1) := by decide +kernel
theorem dX8_pieceIndexAt_24 : decode cX8_pieceIndexAt 24 = .ok (.iaload, 1) := by decide +kernel
theorem dX8_pieceIndexAt_25 : decode cX8_pieceIndexAt 25 = .ok (.goto 9, 3) := by decide +kernel
theorem dX8_pieceIndexAt_28 : decode cX8_pieceIndexAt 28 = .ok (.aload_n 0, 1) := by decide +kernel
theorem dX8_pieceIndexAt_29 : decode cX8_pieceIndexAt 29 = .ok (.getfield 40, 3) := by decide +kernel
theorem dX8_pieceIndexAt_32 : decode cX8_pieceIndexAt 32 = .ok (.iload_n 1, 1) := by decide +kernel
theorem dX8_pieceIndexAt_33 : decode cX8_pieceIndexAt 33 = .ok (.iaload, 1) := by decide +kernel
theorem dX8_pieceIndexAt_34 : decode cX8_pieceIndexAt 34 = .ok (.ireturn, 1) := by decide +kernel
theorem dX8_isSeenAs_0 : decode cX8_isSeenAs 0 = .ok (.aload_n 0, 1) := by decide +kernel
theorem dX8_isSeenAs_1 : decode cX8_isSeenAs 1 = .ok (.getfield 43, 3) := by decide +kernel
theorem dX8_isSeenAs_4 : decode cX8_isSeenAs 4 = .ok (.aload_n 1, 1) := by decide +kernel
theorem dX8_isSeenAs_5 : decode cX8_isSeenAs 5 = .ok (.getfield 43, 3) := by decide +kernel
theorem dX8_isSeenAs_8 : decode cX8_isSeenAs 8 = .ok (.if_icmp .eq 5, 3) := by decide +kernel
theorem dX8_isSeenAs_11 : decode cX8_isSeenAs 11 = .ok (.iconst 0, 1) := by decide +kernel
theorem dX8_isSeenAs_12 : decode cX8_isSeenAs 12 = .ok (.ireturn, 1) := by decide +kernel
theorem dX8_isSeenAs_13 : decode cX8_isSeenAs 13 = .ok (.iconst 0, 1) := by decide +kernel
theorem dX8_isSeenAs_14 : decode cX8_isSeenAs 14 = .ok (.istore_n 2, 1) := by decide +kernel
theorem dX8_isSeenAs_15 : decode cX8_isSeenAs 15 = .ok (.iload_n 2, 1) := by decide +kernel
theorem dX8_isSeenAs_16 : decode cX8_isSeenAs 16 = .ok (.aload_n 0, 1) := by decide +kernel
theorem dX8_isSeenAs_17 : decode cX8_isSeenAs 17 = .ok (.getfield 43, 3) := by decide +kernel
theorem dX8_isSeenAs_20 : decode cX8_isSeenAs 20 = .ok (.if_icmp .ge 25, 3) := by decide +kernel
theorem dX8_isSeenAs_23 : decode cX8_isSeenAs 23 = .ok (.aload_n 0, 1) := by decide +kernel
theorem dX8_isSeenAs_24 : decode cX8_isSeenAs 24 = .ok (.getfield 34, 3) := by decide +kernel
theorem dX8_isSeenAs_27 : decode cX8_isSeenAs 27 = .ok (.iload_n 2, 1) := by decide +kernel
theorem dX8_isSeenAs_28 : decode cX8_isSeenAs 28 = .ok (.iaload, 1) := by decide +kernel
theorem dX8_isSeenAs_29 : decode cX8_isSeenAs 29 = .ok (.aload_n 1, 1) := by decide +kernel
theorem dX8_isSeenAs_30 : decode cX8_isSeenAs 30 = .ok (.iload_n 2, 1) := by decide +kernel
theorem dX8_isSeenAs_31 : decode cX8_isSeenAs 31 = .ok (.invokevirtual 74, 3) := by decide +kernel
theorem dX8_isSeenAs_34 : decode cX8_isSeenAs 34 = .ok (.if_icmp .eq 5, 3) := by decide +kernel
theorem dX8_isSeenAs_37 : decode cX8_isSeenAs 37 = .ok (.iconst 0, 1) := by decide +kernel
theorem dX8_isSeenAs_38 : decode cX8_isSeenAs 38 = .ok (.ireturn, 1) := by decide +kernel
theorem dX8_isSeenAs_39 : decode cX8_isSeenAs 39 = .ok (.iinc 2 1, 3) := by decide +kernel
theorem dX8_isSeenAs_42 : decode cX8_isSeenAs 42 = .ok (.goto (-27), 3) := by decide +kernel
theorem dX8_isSeenAs_45 : decode cX8_isSeenAs 45 = .ok (.iconst 1, 1) := by decide +kernel
theorem dX8_isSeenAs_46 : decode cX8_isSeenAs 46 = .ok (.ireturn, 1) := by decide +kernel
theorem dX8_scriptBits_0 : decode cX8_scriptBits 0 = .ok (.iconst 0, 1) := by decide +kernel
theorem dX8_scriptBits_1 : decode cX8_scriptBits 1 = .ok (.istore_n 2, 1) := by decide +kernel
theorem dX8_scriptBits_2 : decode cX8_scriptBits 2 = .ok (.iconst 0, 1) := by decide +kernel
theorem dX8_scriptBits_3 : decode cX8_scriptBits 3 = .ok (.istore_n 3, 1) := by decide +kernel
theorem dX8_scriptBits_4 : decode cX8_scriptBits 4 = .ok (.iload_n 3, 1) := by decide +kernel
theorem dX8_scriptBits_5 : decode cX8_scriptBits 5 = .ok (.aload_n 0, 1) := by decide +kernel
theorem dX8_scriptBits_6 : decode cX8_scriptBits 6 = .ok (.getfield 43, 3) := by decide +kernel
theorem dX8_scriptBits_9 : decode cX8_scriptBits 9 = .ok (.if_icmp .ge 24, 3) := by decide +kernel
theorem dX8_scriptBits_12 : decode cX8_scriptBits 12 = .ok (.iload_n 2, 1) := by decide +kernel
theorem dX8_scriptBits_13 : decode cX8_scriptBits 13 = .ok (.iconst 1, 1) := by decide +kernel
theorem dX8_scriptBits_14 : decode cX8_scriptBits 14 = .ok (.aload_n 1, 1) := by decide +kernel
theorem dX8_scriptBits_15 : decode cX8_scriptBits 15 = .ok (.aload_n 0, 1) := by decide +kernel
theorem dX8_scriptBits_16 : decode cX8_scriptBits 16 = .ok (.getfield 34, 3) := by decide +kernel
theorem dX8_scriptBits_19 : decode cX8_scriptBits 19 = .ok (.iload_n 3, 1) := by decide +kernel
theorem dX8_scriptBits_20 : decode cX8_scriptBits 20 = .ok (.iaload, 1) := by decide +kernel
theorem dX8_scriptBits_21 : decode cX8_scriptBits 21 = .ok (.invokevirtual 77, 3) := by decide +kernel
theorem dX8_scriptBits_24 : decode cX8_scriptBits 24 = .ok (.ishl, 1) := by decide +kernel
theorem dX8_scriptBits_25 : decode cX8_scriptBits 25 = .ok (.ior, 1) := by decide +kernel
theorem dX8_scriptBits_26 : decode cX8_scriptBits 26 = .ok (.istore_n 2, 1) := by decide +kernel
theorem dX8_scriptBits_27 : decode cX8_scriptBits 27 = .ok (.iinc 3 1, 3) := by decide +kernel
theorem dX8_scriptBits_30 : decode cX8_scriptBits 30 = .ok (.goto (-26), 3) := by decide +kernel
theorem dX8_scriptBits_33 : decode cX8_scriptBits 33 = .ok (.iload_n 2, 1) := by decide +kernel
theorem dX8_scriptBits_34 : decode cX8_scriptBits 34 = .ok (.sipush 254, 3) := by decide +kernel
theorem dX8_scriptBits_37 : decode cX8_scriptBits 37 = .ok (.iand, 1) := by decide +kernel
theorem dX8_scriptBits_38 : decode cX8_scriptBits 38 = .ok (.ireturn, 1) := by decide +kernel
theorem dX8_has_0 : decode cX8_has 0 = .ok (.iconst 0, 1) := by decide +kernel
theorem dX8_has_1 : decode cX8_has 1 = .ok (.istore_n 3, 1) := by decide +kernel
theorem dX8_has_2 : decode cX8_has 2 = .ok (.iload_n 3, 1) := by decide +kernel
theorem dX8_has_3 : decode cX8_has 3 = .ok (.aload_n 0, 1) := by decide +kernel
theorem dX8_has_4 : decode cX8_has 4 = .ok (.getfield 18, 3) := by decide +kernel
theorem dX8_has_7 : decode cX8_has 7 = .ok (.if_icmp .ge 25, 3) := by decide +kernel
theorem dX8_has_10 : decode cX8_has 10 = .ok (.aload_n 2, 1) := by decide +kernel
theorem dX8_has_11 : decode cX8_has 11 = .ok (.aload_n 0, 1) := by decide +kernel
theorem dX8_has_12 : decode cX8_has 12 = .ok (.getfield 30, 3) := by decide +kernel
theorem dX8_has_15 : decode cX8_has 15 = .ok (.iload_n 3, 1) := by decide +kernel
theorem dX8_has_16 : decode cX8_has 16 = .ok (.iaload, 1) := by decide +kernel
theorem dX8_has_17 : decode cX8_has 17 = .ok (.invokevirtual 57, 3) := by decide +kernel
theorem dX8_has_20 : decode cX8_has 20 = .ok (.iload_n 1, 1) := by decide +kernel
theorem dX8_has_21 : decode cX8_has 21 = .ok (.if_icmp .ne 5, 3) := by decide +kernel
theorem dX8_has_24 : decode cX8_has 24 = .ok (.iconst 1, 1) := by decide +kernel
theorem dX8_has_25 : decode cX8_has 25 = .ok (.ireturn, 1) := by decide +kernel
theorem dX8_has_26 : decode cX8_has 26 = .ok (.iinc 3 1, 3) := by decide +kernel
theorem dX8_has_29 : decode cX8_has 29 = .ok (.goto (-27), 3) := by decide +kernel
theorem dX8_has_32 : decode cX8_has 32 = .ok (.iconst 0, 1) := by decide +kernel
theorem dX8_has_33 : decode cX8_has 33 = .ok (.ireturn, 1) := by decide +kernel
theorem dX8_isPadded_0 : decode cX8_isPadded 0 = .ok (.aload_n 0, 1) := by decide +kernel
theorem dX8_isPadded_1 : decode cX8_isPadded 1 = .ok (.getfield 18, 3) := by decide +kernel
theorem dX8_isPadded_4 : decode cX8_isPadded 4 = .ok (.ifCond .le 40, 3) := by decide +kernel
theorem dX8_isPadded_7 : decode cX8_isPadded 7 = .ok (.aload_n 1, 1) := by decide +kernel
theorem dX8_isPadded_8 : decode cX8_isPadded 8 = .ok (.aload_n 0, 1) := by decide +kernel
theorem dX8_isPadded_9 : decode cX8_isPadded 9 = .ok (.getfield 30, 3) := by decide +kernel
theorem dX8_isPadded_12 : decode cX8_isPadded 12 = .ok (.iconst 0, 1) := by decide +kernel
theorem dX8_isPadded_13 : decode cX8_isPadded 13 = .ok (.iaload, 1) := by decide +kernel
theorem dX8_isPadded_14 : decode cX8_isPadded 14 = .ok (.invokevirtual 57, 3) := by decide +kernel
theorem dX8_isPadded_17 : decode cX8_isPadded 17 = .ok (.iconst 1, 1) := by decide +kernel
theorem dX8_isPadded_18 : decode cX8_isPadded 18 = .ok (.if_icmp .eq 22, 3) := by decide +kernel
theorem dX8_isPadded_21 : decode cX8_isPadded 21 = .ok (.aload_n 1, 1) := by decide +kernel
theorem dX8_isPadded_22 : decode cX8_isPadded 22 = .ok (.aload_n 0, 1) := by decide +kernel
theorem dX8_isPadded_23 : decode cX8_isPadded 23 = .ok (.getfield 30, 3) := by decide +kernel
theorem dX8_isPadded_26 : decode cX8_isPadded 26 = .ok (.aload_n 0, 1) := by decide +kernel
theorem dX8_isPadded_27 : decode cX8_isPadded 27 = .ok (.getfield 18, 3) := by decide +kernel
theorem dX8_isPadded_30 : decode cX8_isPadded 30 = .ok (.iconst 1, 1) := by decide +kernel
theorem dX8_isPadded_31 : decode cX8_isPadded 31 = .ok (.isub, 1) := by decide +kernel
theorem dX8_isPadded_32 : decode cX8_isPadded 32 = .ok (.iaload, 1) := by decide +kernel
theorem dX8_isPadded_33 : decode cX8_isPadded 33 = .ok (.invokevirtual 57, 3) := by decide +kernel
theorem dX8_isPadded_36 : decode cX8_isPadded 36 = .ok (.iconst 1, 1) := by decide +kernel
theorem dX8_isPadded_37 : decode cX8_isPadded 37 = .ok (.if_icmp .ne 7, 3) := by decide +kernel
theorem dX8_isPadded_40 : decode cX8_isPadded 40 = .ok (.iconst 1, 1) := by decide +kernel
theorem dX8_isPadded_41 : decode cX8_isPadded 41 = .ok (.goto 4, 3) := by decide +kernel
theorem dX8_isPadded_44 : decode cX8_isPadded 44 = .ok (.iconst 0, 1) := by decide +kernel
theorem dX8_isPadded_45 : decode cX8_isPadded 45 = .ok (.ireturn, 1) := by decide +kernel
theorem dX9_init_0 : decode cX9_init 0 = .ok (.aload_n 0, 1) := by decide +kernel
theorem dX9_init_1 : decode cX9_init 1 = .ok (.invokespecial 3, 3) := by decide +kernel
theorem dX9_init_4 : decode cX9_init 4 = .ok (.aload_n 0, 1) := by decide +kernel
theorem dX9_init_5 : decode cX9_init 5 = .ok (.bipush 40, 2) := by decide +kernel
theorem dX9_init_7 : decode cX9_init 7 = .ok (.newarray .int, 2) := by decide +kernel
theorem dX9_init_9 : decode cX9_init 9 = .ok (.putfield 9, 3) := by decide +kernel
theorem dX9_init_12 : decode cX9_init 12 = .ok (.aload_n 0, 1) := by decide +kernel
theorem dX9_init_13 : decode cX9_init 13 = .ok (.bipush 40, 2) := by decide +kernel
theorem dX9_init_15 : decode cX9_init 15 = .ok (.newarray .int, 2) := by decide +kernel
theorem dX9_init_17 : decode cX9_init 17 = .ok (.putfield 15, 3) := by decide +kernel
theorem dX9_init_20 : decode cX9_init 20 = .ok (.aload_n 0, 1) := by decide +kernel
theorem dX9_init_21 : decode cX9_init 21 = .ok (.bipush 40, 2) := by decide +kernel
theorem dX9_init_23 : decode cX9_init 23 = .ok (.newarray .int, 2) := by decide +kernel
theorem dX9_init_25 : decode cX9_init 25 = .ok (.putfield 18, 3) := by decide +kernel
theorem dX9_init_28 : decode cX9_init 28 = .ok (.aload_n 0, 1) := by decide +kernel
theorem dX9_init_29 : decode cX9_init 29 = .ok (.iconst 0, 1) := by decide +kernel
theorem dX9_init_30 : decode cX9_init 30 = .ok (.putfield 21, 3) := by decide +kernel
theorem dX9_init_33 : decode cX9_init 33 = .ok (.return_, 1) := by decide +kernel
theorem dX9_add_0 : decode cX9_add 0 = .ok (.aload_n 0, 1) := by decide +kernel
theorem dX9_add_1 : decode cX9_add 1 = .ok (.getfield 21, 3) := by decide +kernel
theorem dX9_add_4 : decode cX9_add 4 = .ok (.bipush 40, 2) := by decide +kernel
theorem dX9_add_6 : decode cX9_add 6 = .ok (.if_icmp .lt 4, 3) := by decide +kernel
theorem dX9_add_9 : decode cX9_add 9 = .ok (.return_, 1) := by decide +kernel
theorem dX9_add_10 : decode cX9_add 10 = .ok (.aload_n 0, 1) := by decide +kernel
theorem dX9_add_11 : decode cX9_add 11 = .ok (.getfield 9, 3) := by decide +kernel
theorem dX9_add_14 : decode cX9_add 14 = .ok (.aload_n 0, 1) := by decide +kernel
theorem dX9_add_15 : decode cX9_add 15 = .ok (.getfield 21, 3) := by decide +kernel
theorem dX9_add_18 : decode cX9_add 18 = .ok (.iload_n 1, 1) := by decide +kernel
theorem dX9_add_19 : decode cX9_add 19 = .ok (.iastore, 1) := by decide +kernel
theorem dX9_add_20 : decode cX9_add 20 = .ok (.aload_n 0, 1) := by decide +kernel
theorem dX9_add_21 : decode cX9_add 21 = .ok (.getfield 15, 3) := by decide +kernel
theorem dX9_add_24 : decode cX9_add 24 = .ok (.aload_n 0, 1) := by decide +kernel
theorem dX9_add_25 : decode cX9_add 25 = .ok (.getfield 21, 3) := by decide +kernel
theorem dX9_add_28 : decode cX9_add 28 = .ok (.iload_n 2, 1) := by decide +kernel
theorem dX9_add_29 : decode cX9_add 29 = .ok (.iastore, 1) := by decide +kernel
theorem dX9_add_30 : decode cX9_add 30 = .ok (.aload_n 0, 1) := by decide +kernel
theorem dX9_add_31 : decode cX9_add 31 = .ok (.getfield 18, 3) := by decide +kernel
theorem dX9_add_34 : decode cX9_add 34 = .ok (.aload_n 0, 1) := by decide +kernel
theorem dX9_add_35 : decode cX9_add 35 = .ok (.getfield 21, 3) := by decide +kernel
theorem dX9_add_38 : decode cX9_add 38 = .ok (.iload_n 3, 1) := by decide +kernel
theorem dX9_add_39 : decode cX9_add 39 = .ok (.iastore, 1) := by decide +kernel
theorem dX9_add_40 : decode cX9_add 40 = .ok (.aload_n 0, 1) := by decide +kernel
theorem dX9_add_41 : decode cX9_add 41 = .ok (.dup, 1) := by decide +kernel
theorem dX9_add_42 : decode cX9_add 42 = .ok (.getfield 21, 3) := by decide +kernel
theorem dX9_add_45 : decode cX9_add 45 = .ok (.iconst 1, 1) := by decide +kernel
theorem dX9_add_46 : decode cX9_add 46 = .ok (.iadd, 1) := by decide +kernel
theorem dX9_add_47 : decode cX9_add 47 = .ok (.putfield 21, 3) := by decide +kernel
theorem dX9_add_50 : decode cX9_add 50 = .ok (.return_, 1) := by decide +kernel
theorem dX9_tell_0 : decode cX9_tell 0 = .ok (.iload_n 1, 1) := by decide +kernel
theorem dX9_tell_1 : decode cX9_tell 1 = .ok (.ifCond .lt 11, 3) := by decide +kernel
theorem dX9_tell_4 : decode cX9_tell 4 = .ok (.iload_n 1, 1) := by decide +kernel
theorem dX9_tell_5 : decode cX9_tell 5 = .ok (.aload_n 0, 1) := by decide +kernel
theorem dX9_tell_6 : decode cX9_tell 6 = .ok (.getfield 21, 3) := by decide +kernel
theorem dX9_tell_9 : decode cX9_tell 9 = .ok (.if_icmp .lt 5, 3) := by decide +kernel
theorem dX9_tell_12 : decode cX9_tell 12 = .ok (.iconst (-1), 1) := by decide +kernel
theorem dX9_tell_13 : decode cX9_tell 13 = .ok (.ireturn, 1) := by decide +kernel
theorem dX9_tell_14 : decode cX9_tell 14 = .ok (.iload_n 2, 1) := by decide +kernel
theorem dX9_tell_15 : decode cX9_tell 15 = .ok (.tableswitch 46 0 2 #[25, 32, 39], 25) := by decide +kernel
theorem dX9_tell_40 : decode cX9_tell 40 = .ok (.aload_n 0, 1) := by decide +kernel
theorem dX9_tell_41 : decode cX9_tell 41 = .ok (.getfield 9, 3) := by decide +kernel
theorem dX9_tell_44 : decode cX9_tell 44 = .ok (.iload_n 1, 1) := by decide +kernel
theorem dX9_tell_45 : decode cX9_tell 45 = .ok (.iaload, 1) := by decide +kernel
theorem dX9_tell_46 : decode cX9_tell 46 = .ok (.ireturn, 1) := by decide +kernel
theorem dX9_tell_47 : decode cX9_tell 47 = .ok (.aload_n 0, 1) := by decide +kernel
theorem dX9_tell_48 : decode cX9_tell 48 = .ok (.getfield 15, 3) := by decide +kernel
theorem dX9_tell_51 : decode cX9_tell 51 = .ok (.iload_n 1, 1) := by decide +kernel
theorem dX9_tell_52 : decode cX9_tell 52 = .ok (.iaload, 1) := by decide +kernel
theorem dX9_tell_53 : decode cX9_tell 53 = .ok (.ireturn, 1) := by decide +kernel
theorem dX9_tell_54 : decode cX9_tell 54 = .ok (.aload_n 0, 1) := by decide +kernel
theorem dX9_tell_55 : decode cX9_tell 55 = .ok (.getfield 18, 3) := by decide +kernel
theorem dX9_tell_58 : decode cX9_tell 58 = .ok (.iload_n 1, 1) := by decide +kernel
theorem dX9_tell_59 : decode cX9_tell 59 = .ok (.iaload, 1) := by decide +kernel
theorem dX9_tell_60 : decode cX9_tell 60 = .ok (.ireturn, 1) := by decide +kernel
theorem dX9_tell_61 : decode cX9_tell 61 = .ok (.iconst (-1), 1) := by decide +kernel
theorem dX9_tell_62 : decode cX9_tell 62 = .ok (.ireturn, 1) := by decide +kernel
theorem dJ6_bitCount_0f7a4_0 : decode cJ6_bitCount_0f7a4 0 = .ok (.iload_n 0, 1) := by decide +kernel
theorem dJ6_bitCount_0f7a4_1 : decode cJ6_bitCount_0f7a4 1 = .ok (.iload_n 0, 1) := by decide +kernel
theorem dJ6_bitCount_0f7a4_2 : decode cJ6_bitCount_0f7a4 2 = .ok (.iconst 1, 1) := by decide +kernel
theorem dJ6_bitCount_0f7a4_3 : decode cJ6_bitCount_0f7a4 3 = .ok (.iushr, 1) := by decide +kernel
theorem dJ6_bitCount_0f7a4_4 : decode cJ6_bitCount_0f7a4 4 = .ok (.ldc_w 265, 3) := by decide +kernel
theorem dJ6_bitCount_0f7a4_7 : decode cJ6_bitCount_0f7a4 7 = .ok (.iand, 1) := by decide +kernel
theorem dJ6_bitCount_0f7a4_8 : decode cJ6_bitCount_0f7a4 8 = .ok (.isub, 1) := by decide +kernel
theorem dJ6_bitCount_0f7a4_9 : decode cJ6_bitCount_0f7a4 9 = .ok (.istore_n 0, 1) := by decide +kernel
theorem dJ6_bitCount_0f7a4_10 : decode cJ6_bitCount_0f7a4 10 = .ok (.iload_n 0, 1) := by decide +kernel
theorem dJ6_bitCount_0f7a4_11 : decode cJ6_bitCount_0f7a4 11 = .ok (.ldc_w 266, 3) := by decide +kernel
theorem dJ6_bitCount_0f7a4_14 : decode cJ6_bitCount_0f7a4 14 = .ok (.iand, 1) := by decide +kernel
theorem dJ6_bitCount_0f7a4_15 : decode cJ6_bitCount_0f7a4 15 = .ok (.iload_n 0, 1) := by decide +kernel
theorem dJ6_bitCount_0f7a4_16 : decode cJ6_bitCount_0f7a4 16 = .ok (.iconst 2, 1) := by decide +kernel
theorem dJ6_bitCount_0f7a4_17 : decode cJ6_bitCount_0f7a4 17 = .ok (.iushr, 1) := by decide +kernel
theorem dJ6_bitCount_0f7a4_18 : decode cJ6_bitCount_0f7a4 18 = .ok (.ldc_w 266, 3) := by decide +kernel
theorem dJ6_bitCount_0f7a4_21 : decode cJ6_bitCount_0f7a4 21 = .ok (.iand, 1) := by decide +kernel
theorem dJ6_bitCount_0f7a4_22 : decode cJ6_bitCount_0f7a4 22 = .ok (.iadd, 1) := by decide +kernel
theorem dJ6_bitCount_0f7a4_23 : decode cJ6_bitCount_0f7a4 23 = .ok (.istore_n 0, 1) := by decide +kernel
theorem dJ6_bitCount_0f7a4_24 : decode cJ6_bitCount_0f7a4 24 = .ok (.iload_n 0, 1) := by decide +kernel
theorem dJ6_bitCount_0f7a4_25 : decode cJ6_bitCount_0f7a4 25 = .ok (.iload_n 0, 1) := by decide +kernel
theorem dJ6_bitCount_0f7a4_26 : decode cJ6_bitCount_0f7a4 26 = .ok (.iconst 4, 1) := by decide +kernel
theorem dJ6_bitCount_0f7a4_27 : decode cJ6_bitCount_0f7a4 27 = .ok (.iushr, 1) := by decide +kernel
theorem dJ6_bitCount_0f7a4_28 : decode cJ6_bitCount_0f7a4 28 = .ok (.iadd, 1) := by decide +kernel
theorem dJ6_bitCount_0f7a4_29 : decode cJ6_bitCount_0f7a4 29 = .ok (.ldc_w 267, 3) := by decide +kernel
theorem dJ6_bitCount_0f7a4_32 : decode cJ6_bitCount_0f7a4 32 = .ok (.iand, 1) := by decide +kernel
theorem dJ6_bitCount_0f7a4_33 : decode cJ6_bitCount_0f7a4 33 = .ok (.istore_n 0, 1) := by decide +kernel
theorem dJ6_bitCount_0f7a4_34 : decode cJ6_bitCount_0f7a4 34 = .ok (.iload_n 0, 1) := by decide +kernel
theorem dJ6_bitCount_0f7a4_35 : decode cJ6_bitCount_0f7a4 35 = .ok (.iload_n 0, 1) := by decide +kernel
theorem dJ6_bitCount_0f7a4_36 : decode cJ6_bitCount_0f7a4 36 = .ok (.bipush 8, 2) := by decide +kernel
theorem dJ6_bitCount_0f7a4_38 : decode cJ6_bitCount_0f7a4 38 = .ok (.iushr, 1) := by decide +kernel
theorem dJ6_bitCount_0f7a4_39 : decode cJ6_bitCount_0f7a4 39 = .ok (.iadd, 1) := by decide +kernel
theorem dJ6_bitCount_0f7a4_40 : decode cJ6_bitCount_0f7a4 40 = .ok (.istore_n 0, 1) := by decide +kernel
theorem dJ6_bitCount_0f7a4_41 : decode cJ6_bitCount_0f7a4 41 = .ok (.iload_n 0, 1) := by decide +kernel
theorem dJ6_bitCount_0f7a4_42 : decode cJ6_bitCount_0f7a4 42 = .ok (.iload_n 0, 1) := by decide +kernel
theorem dJ6_bitCount_0f7a4_43 : decode cJ6_bitCount_0f7a4 43 = .ok (.bipush 16, 2) := by decide +kernel
theorem dJ6_bitCount_0f7a4_45 : decode cJ6_bitCount_0f7a4 45 = .ok (.iushr, 1) := by decide +kernel
theorem dJ6_bitCount_0f7a4_46 : decode cJ6_bitCount_0f7a4 46 = .ok (.iadd, 1) := by decide +kernel
theorem dJ6_bitCount_0f7a4_47 : decode cJ6_bitCount_0f7a4 47 = .ok (.istore_n 0, 1) := by decide +kernel
theorem dJ6_bitCount_0f7a4_48 : decode cJ6_bitCount_0f7a4 48 = .ok (.iload_n 0, 1) := by decide +kernel
theorem dJ6_bitCount_0f7a4_49 : decode cJ6_bitCount_0f7a4 49 = .ok (.bipush 63, 2) := by decide +kernel
theorem dJ6_bitCount_0f7a4_51 : decode cJ6_bitCount_0f7a4 51 = .ok (.iand, 1) := by decide +kernel
theorem dJ6_bitCount_0f7a4_52 : decode cJ6_bitCount_0f7a4 52 = .ok (.ireturn, 1) := by decide +kernel
theorem dJ9_max_7cf53_0 : decode cJ9_max_7cf53 0 = .ok (.iload_n 0, 1) := by decide +kernel
theorem dJ9_max_7cf53_1 : decode cJ9_max_7cf53 1 = .ok (.iload_n 1, 1) := by decide +kernel
theorem dJ9_max_7cf53_2 : decode cJ9_max_7cf53 2 = .ok (.if_icmp .lt 7, 3) := by decide +kernel
theorem dJ9_max_7cf53_5 : decode cJ9_max_7cf53 5 = .ok (.iload_n 0, 1) := by decide +kernel
theorem dJ9_max_7cf53_6 : decode cJ9_max_7cf53 6 = .ok (.goto 4, 3) := by decide +kernel
theorem dJ9_max_7cf53_9 : decode cJ9_max_7cf53 9 = .ok (.iload_n 1, 1) := by decide +kernel
theorem dJ9_max_7cf53_10 : decode cJ9_max_7cf53 10 = .ok (.ireturn, 1) := by decide +kernel
theorem dJ9_min_7cf53_0 : decode cJ9_min_7cf53 0 = .ok (.iload_n 0, 1) := by decide +kernel
theorem dJ9_min_7cf53_1 : decode cJ9_min_7cf53 1 = .ok (.iload_n 1, 1) := by decide +kernel
theorem dJ9_min_7cf53_2 : decode cJ9_min_7cf53 2 = .ok (.if_icmp .gt 7, 3) := by decide +kernel
theorem dJ9_min_7cf53_5 : decode cJ9_min_7cf53 5 = .ok (.iload_n 0, 1) := by decide +kernel
theorem dJ9_min_7cf53_6 : decode cJ9_min_7cf53 6 = .ok (.goto 4, 3) := by decide +kernel
theorem dJ9_min_7cf53_9 : decode cJ9_min_7cf53 9 = .ok (.iload_n 1, 1) := by decide +kernel
theorem dJ9_min_7cf53_10 : decode cJ9_min_7cf53 10 = .ok (.ireturn, 1) := by decide +kernel
theorem dJ7_rangeCheck_23922_0 : decode cJ7_rangeCheck_23922 0 = .ok (.iload_n 1, 1) := by decide +kernel
theorem dJ7_rangeCheck_23922_1 : decode cJ7_rangeCheck_23922 1 = .ok (.iload_n 2, 1) := by decide +kernel
theorem dJ7_rangeCheck_23922_2 : decode cJ7_rangeCheck_23922 2 = .ok (.if_icmp .le 44, 3) := by decide +kernel
theorem dJ7_rangeCheck_23922_5 : decode cJ7_rangeCheck_23922 5 = .ok (.new 43, 3) := by decide +kernel
theorem dJ7_rangeCheck_23922_8 : decode cJ7_rangeCheck_23922 8 = .ok (.dup, 1) := by decide +kernel
theorem dJ7_rangeCheck_23922_9 : decode cJ7_rangeCheck_23922 9 = .ok (.new 45, 3) := by decide +kernel
theorem dJ7_rangeCheck_23922_12 : decode cJ7_rangeCheck_23922 12 = .ok (.dup, 1) := by decide +kernel
theorem dJ7_rangeCheck_23922_13 : decode cJ7_rangeCheck_23922 13 = .ok (.invokespecial 47, 3) := by decide +kernel
theorem dJ7_rangeCheck_23922_16 : decode cJ7_rangeCheck_23922 16 = .ok (.ldc 48, 2) := by decide +kernel
theorem dJ7_rangeCheck_23922_18 : decode cJ7_rangeCheck_23922 18 = .ok (.invokevirtual 50, 3) := by decide +kernel
theorem dJ7_rangeCheck_23922_21 : decode cJ7_rangeCheck_23922 21 = .ok (.iload_n 1, 1) := by decide +kernel
theorem dJ7_rangeCheck_23922_22 : decode cJ7_rangeCheck_23922 22 = .ok (.invokevirtual 54, 3) := by decide +kernel
theorem dJ7_rangeCheck_23922_25 : decode cJ7_rangeCheck_23922 25 = .ok (.ldc 57, 2) := by decide +kernel
theorem dJ7_rangeCheck_23922_27 : decode cJ7_rangeCheck_23922 27 = .ok (.invokevirtual 50, 3) := by decide +kernel
theorem dJ7_rangeCheck_23922_30 : decode cJ7_rangeCheck_23922 30 = .ok (.iload_n 2, 1) := by decide +kernel
theorem dJ7_rangeCheck_23922_31 : decode cJ7_rangeCheck_23922 31 = .ok (.invokevirtual 54, 3) := by decide +kernel
theorem dJ7_rangeCheck_23922_34 : decode cJ7_rangeCheck_23922 34 = .ok (.ldc 59, 2) := by decide +kernel
theorem dJ7_rangeCheck_23922_36 : decode cJ7_rangeCheck_23922 36 = .ok (.invokevirtual 50, 3) := by decide +kernel
theorem dJ7_rangeCheck_23922_39 : decode cJ7_rangeCheck_23922 39 = .ok (.invokevirtual 61, 3) := by decide +kernel
theorem dJ7_rangeCheck_23922_42 : decode cJ7_rangeCheck_23922 42 = .ok (.invokespecial 65, 3) := by decide +kernel
theorem dJ7_rangeCheck_23922_45 : decode cJ7_rangeCheck_23922 45 = .ok (.athrow, 1) := by decide +kernel
theorem dJ7_rangeCheck_23922_46 : decode cJ7_rangeCheck_23922 46 = .ok (.iload_n 1, 1) := by decide +kernel
theorem dJ7_rangeCheck_23922_47 : decode cJ7_rangeCheck_23922 47 = .ok (.ifCond .ge 12, 3) := by decide +kernel
theorem dJ7_rangeCheck_23922_50 : decode cJ7_rangeCheck_23922 50 = .ok (.new 68, 3) := by decide +kernel
theorem dJ7_rangeCheck_23922_53 : decode cJ7_rangeCheck_23922 53 = .ok (.dup, 1) := by decide +kernel
theorem dJ7_rangeCheck_23922_54 : decode cJ7_rangeCheck_23922 54 = .ok (.iload_n 1, 1) := by decide +kernel
theorem dJ7_rangeCheck_23922_55 : decode cJ7_rangeCheck_23922 55 = .ok (.invokespecial 70, 3) := by decide +kernel
theorem dJ7_rangeCheck_23922_58 : decode cJ7_rangeCheck_23922 58 = .ok (.athrow, 1) := by decide +kernel
theorem dJ7_rangeCheck_23922_59 : decode cJ7_rangeCheck_23922 59 = .ok (.iload_n 2, 1) := by decide +kernel
theorem dJ7_rangeCheck_23922_60 : decode cJ7_rangeCheck_23922 60 = .ok (.iload_n 0, 1) := by decide +kernel
theorem dJ7_rangeCheck_23922_61 : decode cJ7_rangeCheck_23922 61 = .ok (.if_icmp .le 12, 3) := by decide +kernel
theorem dJ7_rangeCheck_23922_64 : decode cJ7_rangeCheck_23922 64 = .ok (.new 68, 3) := by decide +kernel
theorem dJ7_rangeCheck_23922_67 : decode cJ7_rangeCheck_23922 67 = .ok (.dup, 1) := by decide +kernel
theorem dJ7_rangeCheck_23922_68 : decode cJ7_rangeCheck_23922 68 = .ok (.iload_n 2, 1) := by decide +kernel
theorem dJ7_rangeCheck_23922_69 : decode cJ7_rangeCheck_23922 69 = .ok (.invokespecial 70, 3) := by decide +kernel
theorem dJ7_rangeCheck_23922_72 : decode cJ7_rangeCheck_23922 72 = .ok (.athrow, 1) := by decide +kernel
theorem dJ7_rangeCheck_23922_73 : decode cJ7_rangeCheck_23922 73 = .ok (.return_, 1) := by decide +kernel
theorem dJ7_fill_53178_0 : decode cJ7_fill_53178 0 = .ok (.iconst 0, 1) := by decide +kernel
theorem dJ7_fill_53178_1 : decode cJ7_fill_53178 1 = .ok (.istore_n 2, 1) := by decide +kernel
theorem dJ7_fill_53178_2 : decode cJ7_fill_53178 2 = .ok (.aload_n 0, 1) := by decide +kernel
theorem dJ7_fill_53178_3 : decode cJ7_fill_53178 3 = .ok (.arraylength, 1) := by decide +kernel
theorem dJ7_fill_53178_4 : decode cJ7_fill_53178 4 = .ok (.istore_n 3, 1) := by decide +kernel
theorem dJ7_fill_53178_5 : decode cJ7_fill_53178 5 = .ok (.iload_n 2, 1) := by decide +kernel
theorem dJ7_fill_53178_6 : decode cJ7_fill_53178 6 = .ok (.iload_n 3, 1) := by decide +kernel
theorem dJ7_fill_53178_7 : decode cJ7_fill_53178 7 = .ok (.if_icmp .ge 13, 3) := by decide +kernel
theorem dJ7_fill_53178_10 : decode cJ7_fill_53178 10 = .ok (.aload_n 0, 1) := by decide +kernel
theorem dJ7_fill_53178_11 : decode cJ7_fill_53178 11 = .ok (.iload_n 2, 1) := by decide +kernel
theorem dJ7_fill_53178_12 : decode cJ7_fill_53178 12 = .ok (.iload_n 1, 1) := by decide +kernel
theorem dJ7_fill_53178_13 : decode cJ7_fill_53178 13 = .ok (.iastore, 1) := by decide +kernel
theorem dJ7_fill_53178_14 : decode cJ7_fill_53178 14 = .ok (.iinc 2 1, 3) := by decide +kernel
theorem dJ7_fill_53178_17 : decode cJ7_fill_53178 17 = .ok (.goto (-12), 3) := by decide +kernel
theorem dJ7_fill_53178_20 : decode cJ7_fill_53178 20 = .ok (.return_, 1) := by decide +kernel
theorem dJ7_fill_fda19_0 : decode cJ7_fill_fda19 0 = .ok (.aload_n 0, 1) := by decide +kernel
theorem dJ7_fill_fda19_1 : decode cJ7_fill_fda19 1 = .ok (.arraylength, 1) := by decide +kernel
theorem dJ7_fill_fda19_2 : decode cJ7_fill_fda19 2 = .ok (.iload_n 1, 1) := by decide +kernel
theorem dJ7_fill_fda19_3 : decode cJ7_fill_fda19 3 = .ok (.iload_n 2, 1) := by decide +kernel
theorem dJ7_fill_fda19_4 : decode cJ7_fill_fda19 4 = .ok (.invokestatic 13, 3) := by decide +kernel
theorem dJ7_fill_fda19_7 : decode cJ7_fill_fda19 7 = .ok (.iload_n 1, 1) := by decide +kernel
theorem dJ7_fill_fda19_8 : decode cJ7_fill_fda19 8 = .ok (.istore 4, 2) := by decide +kernel
theorem dJ7_fill_fda19_10 : decode cJ7_fill_fda19 10 = .ok (.iload 4, 2) := by decide +kernel
theorem dJ7_fill_fda19_12 : decode cJ7_fill_fda19 12 = .ok (.iload_n 2, 1) := by decide +kernel
theorem dJ7_fill_fda19_13 : decode cJ7_fill_fda19 13 = .ok (.if_icmp .ge 14, 3) := by decide +kernel
theorem dJ7_fill_fda19_16 : decode cJ7_fill_fda19 16 = .ok (.aload_n 0, 1) := by decide +kernel
theorem dJ7_fill_fda19_17 : decode cJ7_fill_fda19 17 = .ok (.iload 4, 2) := by decide +kernel
theorem dJ7_fill_fda19_19 : decode cJ7_fill_fda19 19 = .ok (.iload_n 3, 1) := by decide +kernel
theorem dJ7_fill_fda19_20 : decode cJ7_fill_fda19 20 = .ok (.iastore, 1) := by decide +kernel
theorem dJ7_fill_fda19_21 : decode cJ7_fill_fda19 21 = .ok (.iinc 4 1, 3) := by decide +kernel
theorem dJ7_fill_fda19_24 : decode cJ7_fill_fda19 24 = .ok (.goto (-14), 3) := by decide +kernel
theorem dJ7_fill_fda19_27 : decode cJ7_fill_fda19 27 = .ok (.return_, 1) := by decide +kernel
theorem dJ7_copyOf_59c91_0 : decode cJ7_copyOf_59c91 0 = .ok (.iload_n 1, 1) := by decide +kernel
theorem dJ7_copyOf_59c91_1 : decode cJ7_copyOf_59c91 1 = .ok (.aload_n 0, 1) := by decide +kernel
theorem dJ7_copyOf_59c91_2 : decode cJ7_copyOf_59c91 2 = .ok (.arraylength, 1) := by decide +kernel
theorem dJ7_copyOf_59c91_3 : decode cJ7_copyOf_59c91 3 = .ok (.if_icmp .ne 11, 3) := by decide +kernel
theorem dJ7_copyOf_59c91_6 : decode cJ7_copyOf_59c91 6 = .ok (.aload_n 0, 1) := by decide +kernel
theorem dJ7_copyOf_59c91_7 : decode cJ7_copyOf_59c91 7 = .ok (.invokevirtual 316, 3) := by decide +kernel
theorem dJ7_copyOf_59c91_10 : decode cJ7_copyOf_59c91 10 = .ok (.checkcast 317, 3) := by decide +kernel
theorem dJ7_copyOf_59c91_13 : decode cJ7_copyOf_59c91 13 = .ok (.areturn, 1) := by decide +kernel
theorem dJ7_copyOf_59c91_14 : decode cJ7_copyOf_59c91 14 = .ok (.iload_n 1, 1) := by decide +kernel
theorem dJ7_copyOf_59c91_15 : decode cJ7_copyOf_59c91 15 = .ok (.newarray .int, 2) := by decide +kernel
theorem dJ7_copyOf_59c91_17 : decode cJ7_copyOf_59c91 17 = .ok (.astore_n 2, 1) := by decide +kernel
theorem dJ7_copyOf_59c91_18 : decode cJ7_copyOf_59c91 18 = .ok (.aload_n 0, 1) := by decide +kernel
theorem dJ7_copyOf_59c91_19 : decode cJ7_copyOf_59c91 19 = .ok (.iconst 0, 1) := by decide +kernel
theorem dJ7_copyOf_59c91_20 : decode cJ7_copyOf_59c91 20 = .ok (.aload_n 2, 1) := by decide +kernel
theorem dJ7_copyOf_59c91_21 : decode cJ7_copyOf_59c91 21 = .ok (.iconst 0, 1) := by decide +kernel
theorem dJ7_copyOf_59c91_22 : decode cJ7_copyOf_59c91 22 = .ok (.aload_n 0, 1) := by decide +kernel
theorem dJ7_copyOf_59c91_23 : decode cJ7_copyOf_59c91 23 = .ok (.arraylength, 1) := by decide +kernel
theorem dJ7_copyOf_59c91_24 : decode cJ7_copyOf_59c91 24 = .ok (.iload_n 1, 1) := by decide +kernel
theorem dJ7_copyOf_59c91_25 : decode cJ7_copyOf_59c91 25 = .ok (.invokestatic 304, 3) := by decide +kernel
theorem dJ7_copyOf_59c91_28 : decode cJ7_copyOf_59c91 28 = .ok (.invokestatic 150, 3) := by decide +kernel
theorem dJ7_copyOf_59c91_31 : decode cJ7_copyOf_59c91 31 = .ok (.aload_n 2, 1) := by decide +kernel
theorem dJ7_copyOf_59c91_32 : decode cJ7_copyOf_59c91 32 = .ok (.areturn, 1) := by decide +kernel
