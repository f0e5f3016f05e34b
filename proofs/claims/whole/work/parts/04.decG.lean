theorem dX10_init_0 : decode cX10_init 0 = .ok (.aload_n 0, 1) := by decide +kernel
theorem dX10_init_1 : decode cX10_init 1 = .ok (.invokespecial 3, 3) := by decide +kernel
theorem dX10_init_4 : decode cX10_init 4 = .ok (.aload_n 0, 1) := by decide +kernel
theorem dX10_init_5 : decode cX10_init 5 = .ok (.sipush 200, 3) := by decide +kernel
theorem dX10_init_8 : decode cX10_init 8 = .ok (.newarray .int, 2) := by decide +kernel
theorem dX10_init_10 : decode cX10_init 10 = .ok (.putfield 9, 3) := by decide +kernel
theorem dX10_init_13 : decode cX10_init 13 = .ok (.aload_n 0, 1) := by decide +kernel
theorem dX10_init_14 : decode cX10_init 14 = .ok (.iconst 0, 1) := by decide +kernel
theorem dX10_init_15 : decode cX10_init 15 = .ok (.putfield 13, 3) := by decide +kernel
theorem dX10_init_18 : decode cX10_init 18 = .ok (.aload_n 0, 1) := by decide +kernel
theorem dX10_init_19 : decode cX10_init 19 = .ok (.new 17, 3) := by decide +kernel
theorem dX10_init_22 : decode cX10_init 22 = .ok (.dup, 1) := by decide +kernel
theorem dX10_init_23 : decode cX10_init 23 = .ok (.invokespecial 19, 3) := by decide +kernel
theorem dX10_init_26 : decode cX10_init 26 = .ok (.putfield 20, 3) := by decide +kernel
theorem dX10_init_29 : decode cX10_init 29 = .ok (.aload_n 0, 1) := by decide +kernel
theorem dX10_init_30 : decode cX10_init 30 = .ok (.new 24, 3) := by decide +kernel
theorem dX10_init_33 : decode cX10_init 33 = .ok (.dup, 1) := by decide +kernel
theorem dX10_init_34 : decode cX10_init 34 = .ok (.invokespecial 26, 3) := by decide +kernel
theorem dX10_init_37 : decode cX10_init 37 = .ok (.putfield 27, 3) := by decide +kernel
theorem dX10_init_40 : decode cX10_init 40 = .ok (.aload_n 0, 1) := by decide +kernel
theorem dX10_init_41 : decode cX10_init 41 = .ok (.new 31, 3) := by decide +kernel
theorem dX10_init_44 : decode cX10_init 44 = .ok (.dup, 1) := by decide +kernel
theorem dX10_init_45 : decode cX10_init 45 = .ok (.invokespecial 33, 3) := by decide +kernel
theorem dX10_init_48 : decode cX10_init 48 = .ok (.putfield 34, 3) := by decide +kernel
theorem dX10_init_51 : decode cX10_init 51 = .ok (.aload_n 0, 1) := by decide +kernel
theorem dX10_init_52 : decode cX10_init 52 = .ok (.aconst_null, 1) := by decide +kernel
theorem dX10_init_53 : decode cX10_init 53 = .ok (.putfield 38, 3) := by decide +kernel
theorem dX10_init_56 : decode cX10_init 56 = .ok (.aload_n 0, 1) := by decide +kernel
theorem dX10_init_57 : decode cX10_init 57 = .ok (.iconst 0, 1) := by decide +kernel
theorem dX10_init_58 : decode cX10_init 58 = .ok (.putfield 42, 3) := by decide +kernel
theorem dX10_init_61 : decode cX10_init 61 = .ok (.aload_n 0, 1) := by decide +kernel
theorem dX10_init_62 : decode cX10_init 62 = .ok (.iconst (-1), 1) := by decide +kernel
theorem dX10_init_63 : decode cX10_init 63 = .ok (.putfield 45, 3) := by decide +kernel
theorem dX10_init_66 : decode cX10_init 66 = .ok (.aload_n 0, 1) := by decide +kernel
theorem dX10_init_67 : decode cX10_init 67 = .ok (.iconst 4, 1) := by decide +kernel
theorem dX10_init_68 : decode cX10_init 68 = .ok (.anewarray 48, 3) := by decide +kernel
theorem dX10_init_71 : decode cX10_init 71 = .ok (.putfield 50, 3) := by decide +kernel
theorem dX10_init_74 : decode cX10_init 74 = .ok (.iconst 0, 1) := by decide +kernel
theorem dX10_init_75 : decode cX10_init 75 = .ok (.istore_n 1, 1) := by decide +kernel
theorem dX10_init_76 : decode cX10_init 76 = .ok (.iload_n 1, 1) := by decide +kernel
theorem dX10_init_77 : decode cX10_init 77 = .ok (.iconst 4, 1) := by decide +kernel
theorem dX10_init_78 : decode cX10_init 78 = .ok (.if_icmp .ge 22, 3) := by decide +kernel
theorem dX10_init_81 : decode cX10_init 81 = .ok (.aload_n 0, 1) := by decide +kernel
theorem dX10_init_82 : decode cX10_init 82 = .ok (.getfield 50, 3) := by decide +kernel
theorem dX10_init_85 : decode cX10_init 85 = .ok (.iload_n 1, 1) := by decide +kernel
theorem dX10_init_86 : decode cX10_init 86 = .ok (.new 48, 3) := by decide +kernel
theorem dX10_init_89 : decode cX10_init 89 = .ok (.dup, 1) := by decide +kernel
theorem dX10_init_90 : decode cX10_init 90 = .ok (.invokespecial 54, 3) := by decide +kernel
theorem dX10_init_93 : decode cX10_init 93 = .ok (.aastore, 1) := by decide +kernel
theorem dX10_init_94 : decode cX10_init 94 = .ok (.iinc 1 1, 3) := by decide +kernel
theorem dX10_init_97 : decode cX10_init 97 = .ok (.goto (-21), 3) := by decide +kernel
theorem dX10_init_100 : decode cX10_init 100 = .ok (.aload_n 0, 1) := by decide +kernel
theorem dX10_init_101 : decode cX10_init 101 = .ok (.sipush 200, 3) := by decide +kernel
theorem dX10_init_104 : decode cX10_init 104 = .ok (.anewarray 55, 3) := by decide +kernel
theorem dX10_init_107 : decode cX10_init 107 = .ok (.putfield 57, 3) := by decide +kernel
theorem dX10_init_110 : decode cX10_init 110 = .ok (.aload_n 0, 1) := by decide +kernel
theorem dX10_init_111 : decode cX10_init 111 = .ok (.iconst 0, 1) := by decide +kernel
theorem dX10_init_112 : decode cX10_init 112 = .ok (.putfield 61, 3) := by decide +kernel
theorem dX10_init_115 : decode cX10_init 115 = .ok (.aload_n 0, 1) := by decide +kernel
theorem dX10_init_116 : decode cX10_init 116 = .ok (.new 64, 3) := by decide +kernel
theorem dX10_init_119 : decode cX10_init 119 = .ok (.dup, 1) := by decide +kernel
theorem dX10_init_120 : decode cX10_init 120 = .ok (.aload_n 0, 1) := by decide +kernel
theorem dX10_init_121 : decode cX10_init 121 = .ok (.getfield 34, 3) := by decide +kernel
theorem dX10_init_124 : decode cX10_init 124 = .ok (.invokespecial 66, 3) := by decide +kernel
theorem dX10_init_127 : decode cX10_init 127 = .ok (.putfield 69, 3) := by decide +kernel
theorem dX10_init_130 : decode cX10_init 130 = .ok (.aload_n 0, 1) := by decide +kernel
theorem dX10_init_131 : decode cX10_init 131 = .ok (.new 73, 3) := by decide +kernel
theorem dX10_init_134 : decode cX10_init 134 = .ok (.dup, 1) := by decide +kernel
theorem dX10_init_135 : decode cX10_init 135 = .ok (.invokespecial 75, 3) := by decide +kernel
theorem dX10_init_138 : decode cX10_init 138 = .ok (.putfield 76, 3) := by decide +kernel
theorem dX10_init_141 : decode cX10_init 141 = .ok (.aload_n 0, 1) := by decide +kernel
theorem dX10_init_142 : decode cX10_init 142 = .ok (.new 80, 3) := by decide +kernel
theorem dX10_init_145 : decode cX10_init 145 = .ok (.dup, 1) := by decide +kernel
theorem dX10_init_146 : decode cX10_init 146 = .ok (.invokespecial 82, 3) := by decide +kernel
theorem dX10_init_149 : decode cX10_init 149 = .ok (.putfield 83, 3) := by decide +kernel
theorem dX10_init_152 : decode cX10_init 152 = .ok (.aload_n 0, 1) := by decide +kernel
theorem dX10_init_153 : decode cX10_init 153 = .ok (.new 87, 3) := by decide +kernel
theorem dX10_init_156 : decode cX10_init 156 = .ok (.dup, 1) := by decide +kernel
theorem dX10_init_157 : decode cX10_init 157 = .ok (.invokespecial 89, 3) := by decide +kernel
theorem dX10_init_160 : decode cX10_init 160 = .ok (.putfield 90, 3) := by decide +kernel
theorem dX10_init_163 : decode cX10_init 163 = .ok (.return_, 1) := by decide +kernel
theorem dX10_feed_0 : decode cX10_feed 0 = .ok (.aload_n 0, 1) := by decide +kernel
theorem dX10_feed_1 : decode cX10_feed 1 = .ok (.getfield 13, 3) := by decide +kernel
theorem dX10_feed_4 : decode cX10_feed 4 = .ok (.sipush 180, 3) := by decide +kernel
theorem dX10_feed_7 : decode cX10_feed 7 = .ok (.if_icmp .le 6, 3) := by decide +kernel
theorem dX10_feed_10 : decode cX10_feed 10 = .ok (.bipush (-3), 2) := by decide +kernel
theorem dX10_feed_12 : decode cX10_feed 12 = .ok (.ireturn, 1) := by decide +kernel
theorem dX10_feed_13 : decode cX10_feed 13 = .ok (.aload_n 0, 1) := by decide +kernel
theorem dX10_feed_14 : decode cX10_feed 14 = .ok (.iload_n 1, 1) := by decide +kernel
theorem dX10_feed_15 : decode cX10_feed 15 = .ok (.invokevirtual 94, 3) := by decide +kernel
theorem dX10_feed_18 : decode cX10_feed 18 = .ok (.aload_n 0, 1) := by decide +kernel
theorem dX10_feed_19 : decode cX10_feed 19 = .ok (.iload_n 2, 1) := by decide +kernel
theorem dX10_feed_20 : decode cX10_feed 20 = .ok (.invokevirtual 94, 3) := by decide +kernel
theorem dX10_feed_23 : decode cX10_feed 23 = .ok (.aload_n 0, 1) := by decide +kernel
theorem dX10_feed_24 : decode cX10_feed 24 = .ok (.iload_n 3, 1) := by decide +kernel
theorem dX10_feed_25 : decode cX10_feed 25 = .ok (.invokevirtual 94, 3) := by decide +kernel
theorem dX10_feed_28 : decode cX10_feed 28 = .ok (.aload_n 0, 1) := by decide +kernel
theorem dX10_feed_29 : decode cX10_feed 29 = .ok (.iload 4, 2) := by decide +kernel
theorem dX10_feed_31 : decode cX10_feed 31 = .ok (.invokevirtual 94, 3) := by decide +kernel
theorem dX10_feed_34 : decode cX10_feed 34 = .ok (.aload_n 0, 1) := by decide +kernel
theorem dX10_feed_35 : decode cX10_feed 35 = .ok (.iload 5, 2) := by decide +kernel
theorem dX10_feed_37 : decode cX10_feed 37 = .ok (.invokevirtual 94, 3) := by decide +kernel
theorem dX10_feed_40 : decode cX10_feed 40 = .ok (.aload_n 0, 1) := by decide +kernel
theorem dX10_feed_41 : decode cX10_feed 41 = .ok (.getfield 13, 3) := by decide +kernel
theorem dX10_feed_44 : decode cX10_feed 44 = .ok (.ireturn, 1) := by decide +kernel
theorem dX10_putBytes_0 : decode cX10_putBytes 0 = .ok (.bipush 24, 2) := by decide +kernel
theorem dX10_putBytes_2 : decode cX10_putBytes 2 = .ok (.istore_n 2, 1) := by decide +kernel
theorem dX10_putBytes_3 : decode cX10_putBytes 3 = .ok (.iload_n 2, 1) := by decide +kernel
theorem dX10_putBytes_4 : decode cX10_putBytes 4 = .ok (.ifCond .lt 45, 3) := by decide +kernel
theorem dX10_putBytes_7 : decode cX10_putBytes 7 = .ok (.aload_n 0, 1) := by decide +kernel
theorem dX10_putBytes_8 : decode cX10_putBytes 8 = .ok (.getfield 13, 3) := by decide +kernel
theorem dX10_putBytes_11 : decode cX10_putBytes 11 = .ok (.sipush 200, 3) := by decide +kernel
theorem dX10_putBytes_14 : decode cX10_putBytes 14 = .ok (.if_icmp .ge 35, 3) := by decide +kernel
theorem dX10_putBytes_17 : decode cX10_putBytes 17 = .ok (.aload_n 0, 1) := by decide +kernel
theorem dX10_putBytes_18 : decode cX10_putBytes 18 = .ok (.getfield 9, 3) := by decide +kernel
theorem dX10_putBytes_21 : decode cX10_putBytes 21 = .ok (.aload_n 0, 1) := by decide +kernel
theorem dX10_putBytes_22 : decode cX10_putBytes 22 = .ok (.getfield 13, 3) := by decide +kernel
theorem dX10_putBytes_25 : decode cX10_putBytes 25 = .ok (.iload_n 1, 1) := by decide +kernel
theorem dX10_putBytes_26 : decode cX10_putBytes 26 = .ok (.iload_n 2, 1) := by decide +kernel
theorem dX10_putBytes_27 : decode cX10_putBytes 27 = .ok (.iushr, 1) := by decide +kernel
theorem dX10_putBytes_28 : decode cX10_putBytes 28 = .ok (.sipush 255, 3) := by decide +kernel
theorem dX10_putBytes_31 : decode cX10_putBytes 31 = .ok (.iand, 1) := by decide +kernel
theorem dX10_putBytes_32 : decode cX10_putBytes 32 = .ok (.iastore, 1) := by decide +kernel
theorem dX10_putBytes_33 : decode cX10_putBytes 33 = .ok (.aload_n 0, 1) := by decide +kernel
theorem dX10_putBytes_34 : decode cX10_putBytes 34 = .ok (.dup, 1) := by decide +kernel
theorem dX10_putBytes_35 : decode cX10_putBytes 35 = .ok (.getfield 13, 3) := by decide +kernel
theorem dX10_putBytes_38 : decode cX10_putBytes 38 = .ok (.iconst 1, 1) := by decide +kernel
theorem dX10_putBytes_39 : decode cX10_putBytes 39 = .ok (.iadd, 1) := by decide +kernel
theorem dX10_putBytes_40 : decode cX10_putBytes 40 = .ok (.putfield 13, 3) := by decide +kernel
theorem dX10_putBytes_43 : decode cX10_putBytes 43 = .ok (.iinc 2 (-8), 3) := by decide +kernel
theorem dX10_putBytes_46 : decode cX10_putBytes 46 = .ok (.goto (-43), 3) := by decide +kernel
theorem dX10_putBytes_49 : decode cX10_putBytes 49 = .ok (.return_, 1) := by decide +kernel
theorem dX10_end_0 : decode cX10_end 0 = .ok (.iload_n 1, 1) := by decide +kernel
theorem dX10_end_1 : decode cX10_end 1 = .ok (.ifCond .lt 11, 3) := by decide +kernel
theorem dX10_end_4 : decode cX10_end 4 = .ok (.iload_n 1, 1) := by decide +kernel
theorem dX10_end_5 : decode cX10_end 5 = .ok (.aload_n 0, 1) := by decide +kernel
theorem dX10_end_6 : decode cX10_end 6 = .ok (.getfield 13, 3) := by decide +kernel
theorem dX10_end_9 : decode cX10_end 9 = .ok (.if_icmp .le 5, 3) := by decide +kernel
theorem dX10_end_12 : decode cX10_end 12 = .ok (.iconst (-1), 1) := by decide +kernel
theorem dX10_end_13 : decode cX10_end 13 = .ok (.ireturn, 1) := by decide +kernel
theorem dX10_end_14 : decode cX10_end 14 = .ok (.aload_n 0, 1) := by decide +kernel
theorem dX10_end_15 : decode cX10_end 15 = .ok (.iload_n 1, 1) := by decide +kernel
theorem dX10_end_16 : decode cX10_end 16 = .ok (.putfield 13, 3) := by decide +kernel
theorem dX10_end_19 : decode cX10_end 19 = .ok (.iload_n 1, 1) := by decide +kernel
theorem dX10_end_20 : decode cX10_end 20 = .ok (.ireturn, 1) := by decide +kernel
theorem dX10_script_0 : decode cX10_script 0 = .ok (.iload_n 1, 1) := by decide +kernel
theorem dX10_script_1 : decode cX10_script 1 = .ok (.invokestatic 98, 3) := by decide +kernel
theorem dX10_script_4 : decode cX10_script 4 = .ok (.ifCond .eq 13, 3) := by decide +kernel
theorem dX10_script_7 : decode cX10_script 7 = .ok (.iload_n 2, 1) := by decide +kernel
theorem dX10_script_8 : decode cX10_script 8 = .ok (.ifCond .lt 9, 3) := by decide +kernel
theorem dX10_script_11 : decode cX10_script 11 = .ok (.iload_n 2, 1) := by decide +kernel
theorem dX10_script_12 : decode cX10_script 12 = .ok (.bipush 7, 2) := by decide +kernel
theorem dX10_script_14 : decode cX10_script 14 = .ok (.if_icmp .le 6, 3) := by decide +kernel
theorem dX10_script_17 : decode cX10_script 17 = .ok (.bipush (-2), 2) := by decide +kernel
theorem dX10_script_19 : decode cX10_script 19 = .ok (.ireturn, 1) := by decide +kernel
theorem dX10_script_20 : decode cX10_script 20 = .ok (.aload_n 0, 1) := by decide +kernel
theorem dX10_script_21 : decode cX10_script 21 = .ok (.getfield 20, 3) := by decide +kernel
theorem dX10_script_24 : decode cX10_script 24 = .ok (.iload_n 1, 1) := by decide +kernel
theorem dX10_script_25 : decode cX10_script 25 = .ok (.iload_n 2, 1) := by decide +kernel
theorem dX10_script_26 : decode cX10_script 26 = .ok (.invokevirtual 102, 3) := by decide +kernel
theorem dX10_script_29 : decode cX10_script 29 = .ok (.ireturn, 1) := by decide +kernel
theorem dX10_seen_0 : decode cX10_seen 0 = .ok (.iload_n 1, 1) := by decide +kernel
theorem dX10_seen_1 : decode cX10_seen 1 = .ok (.invokestatic 98, 3) := by decide +kernel
theorem dX10_seen_4 : decode cX10_seen 4 = .ok (.ifCond .eq 12, 3) := by decide +kernel
theorem dX10_seen_7 : decode cX10_seen 7 = .ok (.iload_n 2, 1) := by decide +kernel
theorem dX10_seen_8 : decode cX10_seen 8 = .ok (.ifCond .lt 8, 3) := by decide +kernel
theorem dX10_seen_11 : decode cX10_seen 11 = .ok (.iload_n 2, 1) := by decide +kernel
theorem dX10_seen_12 : decode cX10_seen 12 = .ok (.iconst 2, 1) := by decide +kernel
theorem dX10_seen_13 : decode cX10_seen 13 = .ok (.if_icmp .le 6, 3) := by decide +kernel
theorem dX10_seen_16 : decode cX10_seen 16 = .ok (.bipush (-2), 2) := by decide +kernel
theorem dX10_seen_18 : decode cX10_seen 18 = .ok (.ireturn, 1) := by decide +kernel
theorem dX10_seen_19 : decode cX10_seen 19 = .ok (.aload_n 0, 1) := by decide +kernel
theorem dX10_seen_20 : decode cX10_seen 20 = .ok (.getfield 20, 3) := by decide +kernel
theorem dX10_seen_23 : decode cX10_seen 23 = .ok (.iload_n 1, 1) := by decide +kernel
theorem dX10_seen_24 : decode cX10_seen 24 = .ok (.iload_n 2, 1) := by decide +kernel
theorem dX10_seen_25 : decode cX10_seen 25 = .ok (.invokevirtual 106, 3) := by decide +kernel
theorem dX10_seen_28 : decode cX10_seen 28 = .ok (.ireturn, 1) := by decide +kernel
theorem dX10_confuse_0 : decode cX10_confuse 0 = .ok (.iload_n 1, 1) := by decide +kernel
theorem dX10_confuse_1 : decode cX10_confuse 1 = .ok (.invokestatic 109, 3) := by decide +kernel
theorem dX10_confuse_4 : decode cX10_confuse 4 = .ok (.ifCond .eq 26, 3) := by decide +kernel
theorem dX10_confuse_7 : decode cX10_confuse 7 = .ok (.iload_n 2, 1) := by decide +kernel
theorem dX10_confuse_8 : decode cX10_confuse 8 = .ok (.invokestatic 109, 3) := by decide +kernel
theorem dX10_confuse_11 : decode cX10_confuse 11 = .ok (.ifCond .eq 19, 3) := by decide +kernel
theorem dX10_confuse_14 : decode cX10_confuse 14 = .ok (.iload_n 1, 1) := by decide +kernel
theorem dX10_confuse_15 : decode cX10_confuse 15 = .ok (.iload_n 2, 1) := by decide +kernel
theorem dX10_confuse_16 : decode cX10_confuse 16 = .ok (.if_icmp .eq 14, 3) := by decide +kernel
theorem dX10_confuse_19 : decode cX10_confuse 19 = .ok (.iload_n 3, 1) := by decide +kernel
theorem dX10_confuse_20 : decode cX10_confuse 20 = .ok (.iconst (-1), 1) := by decide +kernel
theorem dX10_confuse_21 : decode cX10_confuse 21 = .ok (.if_icmp .lt 9, 3) := by decide +kernel
theorem dX10_confuse_24 : decode cX10_confuse 24 = .ok (.iload_n 3, 1) := by decide +kernel
theorem dX10_confuse_25 : decode cX10_confuse 25 = .ok (.bipush 20, 2) := by decide +kernel
theorem dX10_confuse_27 : decode cX10_confuse 27 = .ok (.if_icmp .le 6, 3) := by decide +kernel
theorem dX10_confuse_30 : decode cX10_confuse 30 = .ok (.bipush (-2), 2) := by decide +kernel
theorem dX10_confuse_32 : decode cX10_confuse 32 = .ok (.ireturn, 1) := by decide +kernel
theorem dX10_confuse_33 : decode cX10_confuse 33 = .ok (.iload_n 3, 1) := by decide +kernel
theorem dX10_confuse_34 : decode cX10_confuse 34 = .ok (.iconst (-1), 1) := by decide +kernel
theorem dX10_confuse_35 : decode cX10_confuse 35 = .ok (.if_icmp .ne 15, 3) := by decide +kernel
theorem dX10_confuse_38 : decode cX10_confuse 38 = .ok (.aload_n 0, 1) := by decide +kernel
theorem dX10_confuse_39 : decode cX10_confuse 39 = .ok (.getfield 34, 3) := by decide +kernel
theorem dX10_confuse_42 : decode cX10_confuse 42 = .ok (.iload_n 1, 1) := by decide +kernel
theorem dX10_confuse_43 : decode cX10_confuse 43 = .ok (.iload_n 2, 1) := by decide +kernel
theorem dX10_confuse_44 : decode cX10_confuse 44 = .ok (.invokevirtual 112, 3) := by decide +kernel
theorem dX10_confuse_47 : decode cX10_confuse 47 = .ok (.goto 13, 3) := by decide +kernel
theorem dX10_confuse_50 : decode cX10_confuse 50 = .ok (.aload_n 0, 1) := by decide +kernel
theorem dX10_confuse_51 : decode cX10_confuse 51 = .ok (.getfield 34, 3) := by decide +kernel
theorem dX10_confuse_54 : decode cX10_confuse 54 = .ok (.iload_n 1, 1) := by decide +kernel
theorem dX10_confuse_55 : decode cX10_confuse 55 = .ok (.iload_n 2, 1) := by decide +kernel
theorem dX10_confuse_56 : decode cX10_confuse 56 = .ok (.iload_n 3, 1) := by decide +kernel
theorem dX10_confuse_57 : decode cX10_confuse 57 = .ok (.invokevirtual 115, 3) := by decide +kernel
theorem dX10_confuse_60 : decode cX10_confuse 60 = .ok (.ireturn, 1) := by decide +kernel
theorem dX10_chain_0 : decode cX10_chain 0 = .ok (.iload_n 1, 1) := by decide +kernel
theorem dX10_chain_1 : decode cX10_chain 1 = .ok (.invokestatic 109, 3) := by decide +kernel
theorem dX10_chain_4 : decode cX10_chain 4 = .ok (.ifCond .eq 10, 3) := by decide +kernel
theorem dX10_chain_7 : decode cX10_chain 7 = .ok (.iload_n 2, 1) := by decide +kernel
theorem dX10_chain_8 : decode cX10_chain 8 = .ok (.invokestatic 109, 3) := by decide +kernel
theorem dX10_chain_11 : decode cX10_chain 11 = .ok (.ifCond .ne 6, 3) := by decide +kernel
theorem dX10_chain_14 : decode cX10_chain 14 = .ok (.bipush (-2), 2) := by decide +kernel
theorem dX10_chain_16 : decode cX10_chain 16 = .ok (.ireturn, 1) := by decide +kernel
theorem dX10_chain_17 : decode cX10_chain 17 = .ok (.iload_n 1, 1) := by decide +kernel
theorem dX10_chain_18 : decode cX10_chain 18 = .ok (.iload_n 2, 1) := by decide +kernel
theorem dX10_chain_19 : decode cX10_chain 19 = .ok (.if_icmp .ne 5, 3) := by decide +kernel
theorem dX10_chain_22 : decode cX10_chain 22 = .ok (.iconst 0, 1) := by decide +kernel
theorem dX10_chain_23 : decode cX10_chain 23 = .ok (.ireturn, 1) := by decide +kernel
theorem dX10_chain_24 : decode cX10_chain 24 = .ok (.aload_n 0, 1) := by decide +kernel
theorem dX10_chain_25 : decode cX10_chain 25 = .ok (.getfield 34, 3) := by decide +kernel
theorem dX10_chain_28 : decode cX10_chain 28 = .ok (.invokevirtual 119, 3) := by decide +kernel
theorem dX10_chain_31 : decode cX10_chain 31 = .ok (.aload_n 0, 1) := by decide +kernel
theorem dX10_chain_32 : decode cX10_chain 32 = .ok (.getfield 34, 3) := by decide +kernel
theorem dX10_chain_35 : decode cX10_chain 35 = .ok (.aload_n 0, 1) := by decide +kernel
theorem dX10_chain_36 : decode cX10_chain 36 = .ok (.getfield 34, 3) := by decide +kernel
theorem dX10_chain_39 : decode cX10_chain 39 = .ok (.iload_n 1, 1) := by decide +kernel
theorem dX10_chain_40 : decode cX10_chain 40 = .ok (.invokevirtual 122, 3) := by decide +kernel
theorem dX10_chain_43 : decode cX10_chain 43 = .ok (.aload_n 0, 1) := by decide +kernel
theorem dX10_chain_44 : decode cX10_chain 44 = .ok (.getfield 34, 3) := by decide +kernel
theorem dX10_chain_47 : decode cX10_chain 47 = .ok (.iload_n 2, 1) := by decide +kernel
theorem dX10_chain_48 : decode cX10_chain 48 = .ok (.invokevirtual 122, 3) := by decide +kernel
theorem dX10_chain_51 : decode cX10_chain 51 = .ok (.invokevirtual 126, 3) := by decide +kernel
theorem dX10_chain_54 : decode cX10_chain 54 = .ok (.istore_n 3, 1) := by decide +kernel
theorem dX10_chain_55 : decode cX10_chain 55 = .ok (.iload_n 3, 1) := by decide +kernel
theorem dX10_chain_56 : decode cX10_chain 56 = .ok (.ldc 129, 2) := by decide +kernel
theorem dX10_chain_58 : decode cX10_chain 58 = .ok (.if_icmp .ge 7, 3) := by decide +kernel
theorem dX10_chain_61 : decode cX10_chain 61 = .ok (.iload_n 3, 1) := by decide +kernel
theorem dX10_chain_62 : decode cX10_chain 62 = .ok (.goto 4, 3) := by decide +kernel
theorem dX10_chain_65 : decode cX10_chain 65 = .ok (.iconst (-1), 1) := by decide +kernel
theorem dX10_chain_66 : decode cX10_chain 66 = .ok (.ireturn, 1) := by decide +kernel
theorem dX10_allow_0 : decode cX10_allow 0 = .ok (.iload_n 1, 1) := by decide +kernel
theorem dX10_allow_1 : decode cX10_allow 1 = .ok (.invokestatic 130, 3) := by decide +kernel
theorem dX10_allow_4 : decode cX10_allow 4 = .ok (.ifCond .eq 14, 3) := by decide +kernel
theorem dX10_allow_7 : decode cX10_allow 7 = .ok (.aload_n 0, 1) := by decide +kernel
theorem dX10_allow_8 : decode cX10_allow 8 = .ok (.getfield 27, 3) := by decide +kernel
theorem dX10_allow_11 : decode cX10_allow 11 = .ok (.iload_n 1, 1) := by decide +kernel
theorem dX10_allow_12 : decode cX10_allow 12 = .ok (.invokevirtual 133, 3) := by decide +kernel
theorem dX10_allow_15 : decode cX10_allow 15 = .ok (.goto 5, 3) := by decide +kernel
theorem dX10_allow_18 : decode cX10_allow 18 = .ok (.bipush (-2), 2) := by decide +kernel
theorem dX10_allow_20 : decode cX10_allow 20 = .ok (.ireturn, 1) := by decide +kernel
theorem dX10_isSet_0 : decode cX10_isSet 0 = .ok (.iload_n 0, 1) := by decide +kernel
theorem dX10_isSet_1 : decode cX10_isSet 1 = .ok (.ifCond .eq 15, 3) := by decide +kernel
theorem dX10_isSet_4 : decode cX10_isSet 4 = .ok (.iload_n 0, 1) := by decide +kernel
theorem dX10_isSet_5 : decode cX10_isSet 5 = .ok (.sipush (-255), 3) := by decide +kernel
theorem dX10_isSet_8 : decode cX10_isSet 8 = .ok (.iand, 1) := by decide +kernel
theorem dX10_isSet_9 : decode cX10_isSet 9 = .ok (.ifCond .ne 7, 3) := by decide +kernel
theorem dX10_isSet_12 : decode cX10_isSet 12 = .ok (.iconst 1, 1) := by decide +kernel
theorem dX10_isSet_13 : decode cX10_isSet 13 = .ok (.goto 4, 3) := by decide +kernel
theorem dX10_isSet_16 : decode cX10_isSet 16 = .ok (.iconst 0, 1) := by decide +kernel
theorem dX10_isSet_17 : decode cX10_isSet 17 = .ok (.ireturn, 1) := by decide +kernel
theorem dX10_isSign_0 : decode cX10_isSign 0 = .ok (.iload_n 0, 1) := by decide +kernel
theorem dX10_isSign_1 : decode cX10_isSign 1 = .ok (.bipush 33, 2) := by decide +kernel
theorem dX10_isSign_3 : decode cX10_isSign 3 = .ok (.if_icmp .lt 13, 3) := by decide +kernel
theorem dX10_isSign_6 : decode cX10_isSign 6 = .ok (.iload_n 0, 1) := by decide +kernel
theorem dX10_isSign_7 : decode cX10_isSign 7 = .ok (.bipush 126, 2) := by decide +kernel
theorem dX10_isSign_9 : decode cX10_isSign 9 = .ok (.if_icmp .gt 7, 3) := by decide +kernel
theorem dX10_isSign_12 : decode cX10_isSign 12 = .ok (.iconst 1, 1) := by decide +kernel
theorem dX10_isSign_13 : decode cX10_isSign 13 = .ok (.goto 4, 3) := by decide +kernel
theorem dX10_isSign_16 : decode cX10_isSign 16 = .ok (.iconst 0, 1) := by decide +kernel
theorem dX10_isSign_17 : decode cX10_isSign 17 = .ok (.ireturn, 1) := by decide +kernel
theorem dX10_isPiece_0 : decode cX10_isPiece 0 = .ok (.iload_n 0, 1) := by decide +kernel
theorem dX10_isPiece_1 : decode cX10_isPiece 1 = .ok (.invokestatic 98, 3) := by decide +kernel
theorem dX10_isPiece_4 : decode cX10_isPiece 4 = .ok (.ifCond .ne 24, 3) := by decide +kernel
theorem dX10_isPiece_7 : decode cX10_isPiece 7 = .ok (.iload_n 0, 1) := by decide +kernel
theorem dX10_isPiece_8 : decode cX10_isPiece 8 = .ok (.bipush 8, 2) := by decide +kernel
theorem dX10_isPiece_10 : decode cX10_isPiece 10 = .ok (.ishr, 1) := by decide +kernel
theorem dX10_isPiece_11 : decode cX10_isPiece 11 = .ok (.invokestatic 98, 3) := by decide +kernel
theorem dX10_isPiece_14 : decode cX10_isPiece 14 = .ok (.ifCond .eq 18, 3) := by decide +kernel
theorem dX10_isPiece_17 : decode cX10_isPiece 17 = .ok (.iload_n 0, 1) := by decide +kernel
theorem dX10_isPiece_18 : decode cX10_isPiece 18 = .ok (.sipush 255, 3) := by decide +kernel
theorem dX10_isPiece_21 : decode cX10_isPiece 21 = .ok (.iand, 1) := by decide +kernel
theorem dX10_isPiece_22 : decode cX10_isPiece 22 = .ok (.invokestatic 98, 3) := by decide +kernel
theorem dX10_isPiece_25 : decode cX10_isPiece 25 = .ok (.ifCond .eq 7, 3) := by decide +kernel
theorem dX10_isPiece_28 : decode cX10_isPiece 28 = .ok (.iconst 1, 1) := by decide +kernel
theorem dX10_isPiece_29 : decode cX10_isPiece 29 = .ok (.goto 4, 3) := by decide +kernel
theorem dX10_isPiece_32 : decode cX10_isPiece 32 = .ok (.iconst 0, 1) := by decide +kernel
theorem dX10_isPiece_33 : decode cX10_isPiece 33 = .ok (.ireturn, 1) := by decide +kernel
theorem dX10_name_0 : decode cX10_name 0 = .ok (.aload_n 0, 1) := by decide +kernel
theorem dX10_name_1 : decode cX10_name 1 = .ok (.getfield 13, 3) := by decide +kernel
theorem dX10_name_4 : decode cX10_name 4 = .ok (.istore_n 1, 1) := by decide +kernel
theorem dX10_name_5 : decode cX10_name 5 = .ok (.aload_n 0, 1) := by decide +kernel
theorem dX10_name_6 : decode cX10_name 6 = .ok (.iconst 0, 1) := by decide +kernel
theorem dX10_name_7 : decode cX10_name 7 = .ok (.putfield 13, 3) := by decide +kernel
theorem dX10_name_10 : decode cX10_name 10 = .ok (.aload_n 0, 1) := by decide +kernel
theorem dX10_name_11 : decode cX10_name 11 = .ok (.iload_n 1, 1) := by decide +kernel
theorem dX10_name_12 : decode cX10_name 12 = .ok (.invokevirtual 136, 3) := by decide +kernel
theorem dX10_name_15 : decode cX10_name 15 = .ok (.aload_n 0, 1) := by decide +kernel
theorem dX10_name_16 : decode cX10_name 16 = .ok (.getfield 42, 3) := by decide +kernel
theorem dX10_name_19 : decode cX10_name 19 = .ok (.ifCond .eq 5, 3) := by decide +kernel
theorem dX10_name_22 : decode cX10_name 22 = .ok (.iconst (-1), 1) := by decide +kernel
theorem dX10_name_23 : decode cX10_name 23 = .ok (.ireturn, 1) := by decide +kernel
theorem dX10_name_24 : decode cX10_name 24 = .ok (.aload_n 0, 1) := by decide +kernel
theorem dX10_name_25 : decode cX10_name 25 = .ok (.new 139, 3) := by decide +kernel
theorem dX10_name_28 : decode cX10_name 28 = .ok (.dup, 1) := by decide +kernel
theorem dX10_name_29 : decode cX10_name 29 = .ok (.aload_n 0, 1) := by decide +kernel
theorem dX10_name_30 : decode cX10_name 30 = .ok (.getfield 9, 3) := by decide +kernel
theorem dX10_name_33 : decode cX10_name 33 = .ok (.iload_n 1, 1) := by decide +kernel
theorem dX10_name_34 : decode cX10_name 34 = .ok (.invokespecial 141, 3) := by decide +kernel
theorem dX10_name_37 : decode cX10_name 37 = .ok (.putfield 38, 3) := by decide +kernel
theorem dX10_name_40 : decode cX10_name 40 = .ok (.aload_n 0, 1) := by decide +kernel
theorem dX10_name_41 : decode cX10_name 41 = .ok (.getfield 38, 3) := by decide +kernel
theorem dX10_name_44 : decode cX10_name 44 = .ok (.aload_n 0, 1) := by decide +kernel
theorem dX10_name_45 : decode cX10_name 45 = .ok (.getfield 20, 3) := by decide +kernel
theorem dX10_name_48 : decode cX10_name 48 = .ok (.invokevirtual 144, 3) := by decide +kernel
theorem dX10_name_51 : decode cX10_name 51 = .ok (.aload_n 0, 1) := by decide +kernel
theorem dX10_name_52 : decode cX10_name 52 = .ok (.getfield 38, 3) := by decide +kernel
theorem dX10_name_55 : decode cX10_name 55 = .ok (.getfield 148, 3) := by decide +kernel
theorem dX10_name_58 : decode cX10_name 58 = .ok (.ireturn, 1) := by decide +kernel
theorem dX10_judgeTape_0 : decode cX10_judgeTape 0 = .ok (.iconst 0, 1) := by decide +kernel
theorem dX10_judgeTape_1 : decode cX10_judgeTape 1 = .ok (.istore_n 2, 1) := by decide +kernel
theorem dX10_judgeTape_2 : decode cX10_judgeTape 2 = .ok (.iconst 0, 1) := by decide +kernel
theorem dX10_judgeTape_3 : decode cX10_judgeTape 3 = .ok (.istore_n 3, 1) := by decide +kernel
theorem dX10_judgeTape_4 : decode cX10_judgeTape 4 = .ok (.iload_n 3, 1) := by decide +kernel
theorem dX10_judgeTape_5 : decode cX10_judgeTape 5 = .ok (.iload_n 1, 1) := by decide +kernel
theorem dX10_judgeTape_6 : decode cX10_judgeTape 6 = .ok (.if_icmp .ge 72, 3) := by decide +kernel
theorem dX10_judgeTape_9 : decode cX10_judgeTape 9 = .ok (.iload_n 3, 1) := by decide +kernel
theorem dX10_judgeTape_10 : decode cX10_judgeTape 10 = .ok (.sipush 200, 3) := by decide +kernel
theorem dX10_judgeTape_13 : decode cX10_judgeTape 13 = .ok (.if_icmp .ge 65, 3) := by decide +kernel
theorem dX10_judgeTape_16 : decode cX10_judgeTape 16 = .ok (.aload_n 0, 1) := by decide +kernel
theorem dX10_judgeTape_17 : decode cX10_judgeTape 17 = .ok (.getfield 9, 3) := by decide +kernel
theorem dX10_judgeTape_20 : decode cX10_judgeTape 20 = .ok (.iload_n 3, 1) := by decide +kernel
theorem dX10_judgeTape_21 : decode cX10_judgeTape 21 = .ok (.iaload, 1) := by decide +kernel
theorem dX10_judgeTape_22 : decode cX10_judgeTape 22 = .ok (.istore 4, 2) := by decide +kernel
theorem dX10_judgeTape_24 : decode cX10_judgeTape 24 = .ok (.iload 4, 2) := by decide +kernel
theorem dX10_judgeTape_26 : decode cX10_judgeTape 26 = .ok (.invokestatic 98, 3) := by decide +kernel
theorem dX10_judgeTape_29 : decode cX10_judgeTape 29 = .ok (.ifCond .ne 10, 3) := by decide +kernel
theorem dX10_judgeTape_32 : decode cX10_judgeTape 32 = .ok (.aload_n 0, 1) := by decide +kernel
theorem dX10_judgeTape_33 : decode cX10_judgeTape 33 = .ok (.iconst 1, 1) := by decide +kernel
theorem dX10_judgeTape_34 : decode cX10_judgeTape 34 = .ok (.iload_n 3, 1) := by decide +kernel
theorem dX10_judgeTape_35 : decode cX10_judgeTape 35 = .ok (.invokevirtual 151, 3) := by decide +kernel
theorem dX10_judgeTape_38 : decode cX10_judgeTape 38 = .ok (.return_, 1) := by decide +kernel
theorem dX10_judgeTape_39 : decode cX10_judgeTape 39 = .ok (.iload_n 3, 1) := by decide +kernel
theorem dX10_judgeTape_40 : decode cX10_judgeTape 40 = .ok (.bipush 40, 2) := by decide +kernel
theorem dX10_judgeTape_42 : decode cX10_judgeTape 42 = .ok (.if_icmp .lt 10, 3) := by decide +kernel
theorem dX10_judgeTape_45 : decode cX10_judgeTape 45 = .ok (.aload_n 0, 1) := by decide +kernel
theorem dX10_judgeTape_46 : decode cX10_judgeTape 46 = .ok (.iconst 2, 1) := by decide +kernel
theorem dX10_judgeTape_47 : decode cX10_judgeTape 47 = .ok (.iload_n 3, 1) := by decide +kernel
theorem dX10_judgeTape_48 : decode cX10_judgeTape 48 = .ok (.invokevirtual 151, 3) := by decide +kernel
theorem dX10_judgeTape_51 : decode cX10_judgeTape 51 = .ok (.return_, 1) := by decide +kernel
theorem dX10_judgeTape_52 : decode cX10_judgeTape 52 = .ok (.iload_n 2, 1) := by decide +kernel
theorem dX10_judgeTape_53 : decode cX10_judgeTape 53 = .ok (.aload_n 0, 1) := by decide +kernel
theorem dX10_judgeTape_54 : decode cX10_judgeTape 54 = .ok (.getfield 20, 3) := by decide +kernel
theorem dX10_judgeTape_57 : decode cX10_judgeTape 57 = .ok (.iload 4, 2) := by decide +kernel
theorem dX10_judgeTape_59 : decode cX10_judgeTape 59 = .ok (.invokevirtual 155, 3) := by decide +kernel
theorem dX10_judgeTape_62 : decode cX10_judgeTape 62 = .ok (.ifCond .ne 7, 3) := by decide +kernel
theorem dX10_judgeTape_65 : decode cX10_judgeTape 65 = .ok (.iconst 1, 1) := by decide +kernel
theorem dX10_judgeTape_66 : decode cX10_judgeTape 66 = .ok (.goto 4, 3) := by decide +kernel
theorem dX10_judgeTape_69 : decode cX10_judgeTape 69 = .ok (.iconst 0, 1) := by decide +kernel
theorem dX10_judgeTape_70 : decode cX10_judgeTape 70 = .ok (.iadd, 1) := by decide +kernel
theorem dX10_judgeTape_71 : decode cX10_judgeTape 71 = .ok (.istore_n 2, 1) := by decide +kernel
theorem dX10_judgeTape_72 : decode cX10_judgeTape 72 = .ok (.iinc 3 1, 3) := by decide +kernel
theorem dX10_judgeTape_75 : decode cX10_judgeTape 75 = .ok (.goto (-71), 3) := by decide +kernel
theorem dX10_judgeTape_78 : decode cX10_judgeTape 78 = .ok (.iload_n 2, 1) := by decide +kernel
theorem dX10_judgeTape_79 : decode cX10_judgeTape 79 = .ok (.ifCond .ne 12, 3) := by decide +kernel
theorem dX10_judgeTape_82 : decode cX10_judgeTape 82 = .ok (.aload_n 0, 1) := by decide +kernel
theorem dX10_judgeTape_83 : decode cX10_judgeTape 83 = .ok (.iconst 3, 1) := by decide +kernel
theorem dX10_judgeTape_84 : decode cX10_judgeTape 84 = .ok (.iload_n 1, 1) := by decide +kernel
theorem dX10_judgeTape_85 : decode cX10_judgeTape 85 = .ok (.invokevirtual 151, 3) := by decide +kernel
theorem dX10_judgeTape_88 : decode cX10_judgeTape 88 = .ok (.goto 24, 3) := by decide +kernel
theorem dX10_judgeTape_91 : decode cX10_judgeTape 91 = .ok (.iload_n 2, 1) := by decide +kernel
theorem dX10_judgeTape_92 : decode cX10_judgeTape 92 = .ok (.bipush 24, 2) := by decide +kernel
theorem dX10_judgeTape_94 : decode cX10_judgeTape 94 = .ok (.if_icmp .le 12, 3) := by decide +kernel
theorem dX10_judgeTape_97 : decode cX10_judgeTape 97 = .ok (.aload_n 0, 1) := by decide +kernel
theorem dX10_judgeTape_98 : decode cX10_judgeTape 98 = .ok (.iconst 4, 1) := by decide +kernel
theorem dX10_judgeTape_99 : decode cX10_judgeTape 99 = .ok (.iload_n 1, 1) := by decide +kernel
theorem dX10_judgeTape_100 : decode cX10_judgeTape 100 = .ok (.invokevirtual 151, 3) := by decide +kernel
theorem dX10_judgeTape_103 : decode cX10_judgeTape 103 = .ok (.goto 9, 3) := by decide +kernel
theorem dX10_judgeTape_106 : decode cX10_judgeTape 106 = .ok (.aload_n 0, 1) := by decide +kernel
theorem dX10_judgeTape_107 : decode cX10_judgeTape 107 = .ok (.iconst 0, 1) := by decide +kernel
theorem dX10_judgeTape_108 : decode cX10_judgeTape 108 = .ok (.iconst (-1), 1) := by decide +kernel
theorem dX10_judgeTape_109 : decode cX10_judgeTape 109 = .ok (.invokevirtual 151, 3) := by decide +kernel
theorem dX10_judgeTape_112 : decode cX10_judgeTape 112 = .ok (.return_, 1) := by decide +kernel
theorem dX10_setFault_0 : decode cX10_setFault 0 = .ok (.aload_n 0, 1) := by decide +kernel
theorem dX10_setFault_1 : decode cX10_setFault 1 = .ok (.iload_n 1, 1) := by decide +kernel
theorem dX10_setFault_2 : decode cX10_setFault 2 = .ok (.putfield 42, 3) := by decide +kernel
theorem dX10_setFault_5 : decode cX10_setFault 5 = .ok (.aload_n 0, 1) := by decide +kernel
theorem dX10_setFault_6 : decode cX10_setFault 6 = .ok (.iload_n 2, 1) := by decide +kernel
theorem dX10_setFault_7 : decode cX10_setFault 7 = .ok (.putfield 45, 3) := by decide +kernel
theorem dX10_setFault_10 : decode cX10_setFault 10 = .ok (.return_, 1) := by decide +kernel
theorem dX10_fault_0 : decode cX10_fault 0 = .ok (.iload_n 1, 1) := by decide +kernel
theorem dX10_fault_1 : decode cX10_fault 1 = .ok (.lookupswitch 37 #[(0, 27), (1, 32)], 27) := by decide +kernel
theorem dX10_fault_28 : decode cX10_fault 28 = .ok (.aload_n 0, 1) := by decide +kernel
theorem dX10_fault_29 : decode cX10_fault 29 = .ok (.getfield 42, 3) := by decide +kernel
theorem dX10_fault_32 : decode cX10_fault 32 = .ok (.ireturn, 1) := by decide +kernel
theorem dX10_fault_33 : decode cX10_fault 33 = .ok (.aload_n 0, 1) := by decide +kernel
theorem dX10_fault_34 : decode cX10_fault 34 = .ok (.getfield 45, 3) := by decide +kernel
theorem dX10_fault_37 : decode cX10_fault 37 = .ok (.ireturn, 1) := by decide +kernel
theorem dX10_fault_38 : decode cX10_fault 38 = .ok (.iconst (-1), 1) := by decide +kernel
theorem dX10_fault_39 : decode cX10_fault 39 = .ok (.ireturn, 1) := by decide +kernel
theorem dX10_about_0 : decode cX10_about 0 = .ok (.aload_n 0, 1) := by decide +kernel
theorem dX10_about_1 : decode cX10_about 1 = .ok (.getfield 38, 3) := by decide +kernel
theorem dX10_about_4 : decode cX10_about 4 = .ok (.ifnonnull 5, 3) := by decide +kernel
theorem dX10_about_7 : decode cX10_about 7 = .ok (.iconst (-1), 1) := by decide +kernel
theorem dX10_about_8 : decode cX10_about 8 = .ok (.ireturn, 1) := by decide +kernel
theorem dX10_about_9 : decode cX10_about 9 = .ok (.aload_n 0, 1) := by decide +kernel
theorem dX10_about_10 : decode cX10_about 10 = .ok (.getfield 38, 3) := by decide +kernel
theorem dX10_about_13 : decode cX10_about 13 = .ok (.aload_n 0, 1) := by decide +kernel
theorem dX10_about_14 : decode cX10_about 14 = .ok (.getfield 20, 3) := by decide +kernel
theorem dX10_about_17 : decode cX10_about 17 = .ok (.invokevirtual 144, 3) := by decide +kernel
theorem dX10_about_20 : decode cX10_about 20 = .ok (.iload_n 1, 1) := by decide +kernel
theorem dX10_about_21 : decode cX10_about 21 = .ok (.tableswitch 130 0 6 #[43, 51, 59, 71, 83, 99, 115], 43) := by decide +kernel
theorem dX10_about_64 : decode cX10_about 64 = .ok (.aload_n 0, 1) := by decide +kernel
theorem dX10_about_65 : decode cX10_about 65 = .ok (.getfield 38, 3) := by decide +kernel
theorem dX10_about_68 : decode cX10_about 68 = .ok (.getfield 158, 3) := by decide +kernel
theorem dX10_about_71 : decode cX10_about 71 = .ok (.ireturn, 1) := by decide +kernel
theorem dX10_about_72 : decode cX10_about 72 = .ok (.aload_n 0, 1) := by decide +kernel
theorem dX10_about_73 : decode cX10_about 73 = .ok (.getfield 38, 3) := by decide +kernel
theorem dX10_about_76 : decode cX10_about 76 = .ok (.getfield 148, 3) := by decide +kernel
theorem dX10_about_79 : decode cX10_about 79 = .ok (.ireturn, 1) := by decide +kernel
theorem dX10_about_80 : decode cX10_about 80 = .ok (.aload_n 0, 1) := by decide +kernel
theorem dX10_about_81 : decode cX10_about 81 = .ok (.getfield 38, 3) := by decide +kernel
theorem dX10_about_84 : decode cX10_about 84 = .ok (.aload_n 0, 1) := by decide +kernel
theorem dX10_about_85 : decode cX10_about 85 = .ok (.getfield 20, 3) := by decide +kernel
theorem dX10_about_88 : decode cX10_about 88 = .ok (.invokevirtual 161, 3) := by decide +kernel
theorem dX10_about_91 : decode cX10_about 91 = .ok (.ireturn, 1) := by decide +kernel
theorem dX10_about_92 : decode cX10_about 92 = .ok (.aload_n 0, 1) := by decide +kernel
theorem dX10_about_93 : decode cX10_about 93 = .ok (.aload_n 0, 1) := by decide +kernel
theorem dX10_about_94 : decode cX10_about 94 = .ok (.getfield 38, 3) := by decide +kernel
theorem dX10_about_97 : decode cX10_about 97 = .ok (.invokevirtual 165, 3) := by decide +kernel
theorem dX10_about_100 : decode cX10_about 100 = .ok (.invokestatic 169, 3) := by decide +kernel
theorem dX10_about_103 : decode cX10_about 103 = .ok (.ireturn, 1) := by decide +kernel
theorem dX10_about_104 : decode cX10_about 104 = .ok (.aload_n 0, 1) := by decide +kernel
theorem dX10_about_105 : decode cX10_about 105 = .ok (.getfield 38, 3) := by decide +kernel
theorem dX10_about_108 : decode cX10_about 108 = .ok (.iconst 1, 1) := by decide +kernel
theorem dX10_about_109 : decode cX10_about 109 = .ok (.aload_n 0, 1) := by decide +kernel
theorem dX10_about_110 : decode cX10_about 110 = .ok (.getfield 20, 3) := by decide +kernel
theorem dX10_about_113 : decode cX10_about 113 = .ok (.invokevirtual 173, 3) := by decide +kernel
theorem dX10_about_116 : decode cX10_about 116 = .ok (.invokestatic 169, 3) := by decide +kernel
theorem dX10_about_119 : decode cX10_about 119 = .ok (.ireturn, 1) := by decide +kernel
theorem dX10_about_120 : decode cX10_about 120 = .ok (.aload_n 0, 1) := by decide +kernel
theorem dX10_about_121 : decode cX10_about 121 = .ok (.getfield 38, 3) := by decide +kernel
theorem dX10_about_124 : decode cX10_about 124 = .ok (.iconst 2, 1) := by decide +kernel
theorem dX10_about_125 : decode cX10_about 125 = .ok (.aload_n 0, 1) := by decide +kernel
theorem dX10_about_126 : decode cX10_about 126 = .ok (.getfield 20, 3) := by decide +kernel
theorem dX10_about_129 : decode cX10_about 129 = .ok (.invokevirtual 173, 3) := by decide +kernel
theorem dX10_about_132 : decode cX10_about 132 = .ok (.invokestatic 169, 3) := by decide +kernel
theorem dX10_about_135 : decode cX10_about 135 = .ok (.ireturn, 1) := by decide +kernel
theorem dX10_about_136 : decode cX10_about 136 = .ok (.aload_n 0, 1) := by decide +kernel
theorem dX10_about_137 : decode cX10_about 137 = .ok (.getfield 38, 3) := by decide +kernel
theorem dX10_about_140 : decode cX10_about 140 = .ok (.aload_n 0, 1) := by decide +kernel
theorem dX10_about_141 : decode cX10_about 141 = .ok (.getfield 20, 3) := by decide +kernel
theorem dX10_about_144 : decode cX10_about 144 = .ok (.invokevirtual 177, 3) := by decide +kernel
theorem dX10_about_147 : decode cX10_about 147 = .ok (.invokestatic 169, 3) := by decide +kernel
theorem dX10_about_150 : decode cX10_about 150 = .ok (.ireturn, 1) := by decide +kernel
theorem dX10_about_151 : decode cX10_about 151 = .ok (.iload_n 1, 1) := by decide +kernel
theorem dX10_about_152 : decode cX10_about 152 = .ok (.bipush 20, 2) := by decide +kernel
theorem dX10_about_154 : decode cX10_about 154 = .ok (.if_icmp .ge 7, 3) := by decide +kernel
theorem dX10_about_157 : decode cX10_about 157 = .ok (.iconst (-1), 1) := by decide +kernel
theorem dX10_about_158 : decode cX10_about 158 = .ok (.goto 14, 3) := by decide +kernel
theorem dX10_about_161 : decode cX10_about 161 = .ok (.aload_n 0, 1) := by decide +kernel
theorem dX10_about_162 : decode cX10_about 162 = .ok (.getfield 38, 3) := by decide +kernel
theorem dX10_about_165 : decode cX10_about 165 = .ok (.iload_n 1, 1) := by decide +kernel
theorem dX10_about_166 : decode cX10_about 166 = .ok (.bipush 20, 2) := by decide +kernel
theorem dX10_about_168 : decode cX10_about 168 = .ok (.isub, 1) := by decide +kernel
theorem dX10_about_169 : decode cX10_about 169 = .ok (.invokevirtual 181, 3) := by decide +kernel
theorem dX10_about_172 : decode cX10_about 172 = .ok (.ireturn, 1) := by decide +kernel
theorem dX10_isMixed_0 : decode cX10_isMixed 0 = .ok (.aload_n 1, 1) := by decide +kernel
theorem dX10_isMixed_1 : decode cX10_isMixed 1 = .ok (.aload_n 0, 1) := by decide +kernel
theorem dX10_isMixed_2 : decode cX10_isMixed 2 = .ok (.getfield 20, 3) := by decide +kernel
theorem dX10_isMixed_5 : decode cX10_isMixed 5 = .ok (.invokevirtual 161, 3) := by decide +kernel
theorem dX10_isMixed_8 : decode cX10_isMixed 8 = .ok (.istore_n 2, 1) := by decide +kernel
theorem dX10_isMixed_9 : decode cX10_isMixed 9 = .ok (.iload_n 2, 1) := by decide +kernel
theorem dX10_isMixed_10 : decode cX10_isMixed 10 = .ok (.invokestatic 184, 3) := by decide +kernel
theorem dX10_isMixed_13 : decode cX10_isMixed 13 = .ok (.iconst 2, 1) := by decide +kernel
theorem dX10_isMixed_14 : decode cX10_isMixed 14 = .ok (.if_icmp .lt 18, 3) := by decide +kernel
theorem dX10_isMixed_17 : decode cX10_isMixed 17 = .ok (.aload_n 0, 1) := by decide +kernel
theorem dX10_isMixed_18 : decode cX10_isMixed 18 = .ok (.getfield 27, 3) := by decide +kernel
theorem dX10_isMixed_21 : decode cX10_isMixed 21 = .ok (.iload_n 2, 1) := by decide +kernel
theorem dX10_isMixed_22 : decode cX10_isMixed 22 = .ok (.invokevirtual 189, 3) := by decide +kernel
theorem dX10_isMixed_25 : decode cX10_isMixed 25 = .ok (.ifCond .ne 7, 3) := by decide +kernel
theorem dX10_isMixed_28 : decode cX10_isMixed 28 = .ok (.iconst 1, 1) := by decide +kernel
theorem dX10_isMixed_29 : decode cX10_isMixed 29 = .ok (.goto 4, 3) := by decide +kernel
theorem dX10_isMixed_32 : decode cX10_isMixed 32 = .ok (.iconst 0, 1) := by decide +kernel
theorem dX10_isMixed_33 : decode cX10_isMixed 33 = .ok (.ireturn, 1) := by decide +kernel
theorem dX10_bit_0 : decode cX10_bit 0 = .ok (.iload_n 0, 1) := by decide +kernel
theorem dX10_bit_1 : decode cX10_bit 1 = .ok (.ifCond .eq 7, 3) := by decide +kernel
theorem dX10_bit_4 : decode cX10_bit 4 = .ok (.iconst 1, 1) := by decide +kernel
theorem dX10_bit_5 : decode cX10_bit 5 = .ok (.goto 4, 3) := by decide +kernel
theorem dX10_bit_8 : decode cX10_bit 8 = .ok (.iconst 0, 1) := by decide +kernel
theorem dX10_bit_9 : decode cX10_bit 9 = .ok (.ireturn, 1) := by decide +kernel
theorem dX10_rule_0 : decode cX10_rule 0 = .ok (.aload_n 0, 1) := by decide +kernel
theorem dX10_rule_1 : decode cX10_rule 1 = .ok (.iload_n 1, 1) := by decide +kernel
theorem dX10_rule_2 : decode cX10_rule 2 = .ok (.invokevirtual 192, 3) := by decide +kernel
theorem dX10_rule_5 : decode cX10_rule 5 = .ok (.astore 5, 2) := by decide +kernel
theorem dX10_rule_7 : decode cX10_rule 7 = .ok (.aload 5, 2) := by decide +kernel
theorem dX10_rule_9 : decode cX10_rule 9 = .ok (.ifnull 19, 3) := by decide +kernel
theorem dX10_rule_12 : decode cX10_rule 12 = .ok (.iload_n 2, 1) := by decide +kernel
theorem dX10_rule_13 : decode cX10_rule 13 = .ok (.ifCond .lt 15, 3) := by decide +kernel
theorem dX10_rule_16 : decode cX10_rule 16 = .ok (.iload_n 3, 1) := by decide +kernel
theorem dX10_rule_17 : decode cX10_rule 17 = .ok (.iload_n 2, 1) := by decide +kernel
theorem dX10_rule_18 : decode cX10_rule 18 = .ok (.if_icmp .lt 10, 3) := by decide +kernel
theorem dX10_rule_21 : decode cX10_rule 21 = .ok (.iload_n 3, 1) := by decide +kernel
theorem dX10_rule_22 : decode cX10_rule 22 = .ok (.sipush 200, 3) := by decide +kernel
theorem dX10_rule_25 : decode cX10_rule 25 = .ok (.if_icmp .le 6, 3) := by decide +kernel
theorem dX10_rule_28 : decode cX10_rule 28 = .ok (.bipush (-2), 2) := by decide +kernel
theorem dX10_rule_30 : decode cX10_rule 30 = .ok (.ireturn, 1) := by decide +kernel
theorem dX10_rule_31 : decode cX10_rule 31 = .ok (.aload 5, 2) := by decide +kernel
theorem dX10_rule_33 : decode cX10_rule 33 = .ok (.iload_n 2, 1) := by decide +kernel
theorem dX10_rule_34 : decode cX10_rule 34 = .ok (.putfield 196, 3) := by decide +kernel
theorem dX10_rule_37 : decode cX10_rule 37 = .ok (.aload 5, 2) := by decide +kernel
theorem dX10_rule_39 : decode cX10_rule 39 = .ok (.iload_n 3, 1) := by decide +kernel
theorem dX10_rule_40 : decode cX10_rule 40 = .ok (.putfield 199, 3) := by decide +kernel
theorem dX10_rule_43 : decode cX10_rule 43 = .ok (.aload 5, 2) := by decide +kernel
theorem dX10_rule_45 : decode cX10_rule 45 = .ok (.iload 4, 2) := by decide +kernel
theorem dX10_rule_47 : decode cX10_rule 47 = .ok (.putfield 202, 3) := by decide +kernel
theorem dX10_rule_50 : decode cX10_rule 50 = .ok (.iconst 1, 1) := by decide +kernel
theorem dX10_rule_51 : decode cX10_rule 51 = .ok (.ireturn, 1) := by decide +kernel
theorem dX10_ask_0 : decode cX10_ask 0 = .ok (.aload_n 0, 1) := by decide +kernel
theorem dX10_ask_1 : decode cX10_ask 1 = .ok (.iload_n 1, 1) := by decide +kernel
theorem dX10_ask_2 : decode cX10_ask 2 = .ok (.iload_n 2, 1) := by decide +kernel
theorem dX10_ask_3 : decode cX10_ask 3 = .ok (.invokevirtual 206, 3) := by decide +kernel
theorem dX10_ask_6 : decode cX10_ask 6 = .ok (.ireturn, 1) := by decide +kernel
theorem dX10_verdict_0 : decode cX10_verdict 0 = .ok (.aload_n 0, 1) := by decide +kernel
theorem dX10_verdict_1 : decode cX10_verdict 1 = .ok (.iload_n 1, 1) := by decide +kernel
theorem dX10_verdict_2 : decode cX10_verdict 2 = .ok (.invokevirtual 192, 3) := by decide +kernel
theorem dX10_verdict_5 : decode cX10_verdict 5 = .ok (.astore_n 3, 1) := by decide +kernel
theorem dX10_verdict_6 : decode cX10_verdict 6 = .ok (.aload_n 3, 1) := by decide +kernel
theorem dX10_verdict_7 : decode cX10_verdict 7 = .ok (.ifnull 13, 3) := by decide +kernel
theorem dX10_verdict_10 : decode cX10_verdict 10 = .ok (.iload_n 2, 1) := by decide +kernel
theorem dX10_verdict_11 : decode cX10_verdict 11 = .ok (.ifCond .lt 9, 3) := by decide +kernel
theorem dX10_verdict_14 : decode cX10_verdict 14 = .ok (.iload_n 2, 1) := by decide +kernel
theorem dX10_verdict_15 : decode cX10_verdict 15 = .ok (.bipush 32, 2) := by decide +kernel
theorem dX10_verdict_17 : decode cX10_verdict 17 = .ok (.if_icmp .lt 6, 3) := by decide +kernel
theorem dX10_verdict_20 : decode cX10_verdict 20 = .ok (.bipush (-2), 2) := by decide +kernel
theorem dX10_verdict_22 : decode cX10_verdict 22 = .ok (.ireturn, 1) := by decide +kernel
theorem dX10_verdict_23 : decode cX10_verdict 23 = .ok (.aload_n 0, 1) := by decide +kernel
theorem dX10_verdict_24 : decode cX10_verdict 24 = .ok (.getfield 38, 3) := by decide +kernel
theorem dX10_verdict_27 : decode cX10_verdict 27 = .ok (.astore 4, 2) := by decide +kernel
theorem dX10_verdict_29 : decode cX10_verdict 29 = .ok (.aload 4, 2) := by decide +kernel
theorem dX10_verdict_31 : decode cX10_verdict 31 = .ok (.ifnonnull 5, 3) := by decide +kernel
theorem dX10_verdict_34 : decode cX10_verdict 34 = .ok (.iconst (-1), 1) := by decide +kernel
theorem dX10_verdict_35 : decode cX10_verdict 35 = .ok (.ireturn, 1) := by decide +kernel
theorem dX10_verdict_36 : decode cX10_verdict 36 = .ok (.aload 4, 2) := by decide +kernel
theorem dX10_verdict_38 : decode cX10_verdict 38 = .ok (.aload_n 0, 1) := by decide +kernel
theorem dX10_verdict_39 : decode cX10_verdict 39 = .ok (.getfield 20, 3) := by decide +kernel
theorem dX10_verdict_42 : decode cX10_verdict 42 = .ok (.invokevirtual 144, 3) := by decide +kernel
theorem dX10_verdict_45 : decode cX10_verdict 45 = .ok (.aload 4, 2) := by decide +kernel
theorem dX10_verdict_47 : decode cX10_verdict 47 = .ok (.getfield 148, 3) := by decide +kernel
theorem dX10_verdict_50 : decode cX10_verdict 50 = .ok (.ifCond .ne 5, 3) := by decide +kernel
theorem dX10_verdict_53 : decode cX10_verdict 53 = .ok (.iconst (-1), 1) := by decide +kernel
theorem dX10_verdict_54 : decode cX10_verdict 54 = .ok (.ireturn, 1) := by decide +kernel
theorem dX10_verdict_55 : decode cX10_verdict 55 = .ok (.aload_n 0, 1) := by decide +kernel
theorem dX10_verdict_56 : decode cX10_verdict 56 = .ok (.aload 4, 2) := by decide +kernel
theorem dX10_verdict_58 : decode cX10_verdict 58 = .ok (.iload_n 1, 1) := by decide +kernel
theorem dX10_verdict_59 : decode cX10_verdict 59 = .ok (.invokevirtual 209, 3) := by decide +kernel
theorem dX10_verdict_62 : decode cX10_verdict 62 = .ok (.ifCond .eq 5, 3) := by decide +kernel
theorem dX10_verdict_65 : decode cX10_verdict 65 = .ok (.iconst 3, 1) := by decide +kernel
theorem dX10_verdict_66 : decode cX10_verdict 66 = .ok (.ireturn, 1) := by decide +kernel
theorem dX10_verdict_67 : decode cX10_verdict 67 = .ok (.aload_n 3, 1) := by decide +kernel
theorem dX10_verdict_68 : decode cX10_verdict 68 = .ok (.getfield 202, 3) := by decide +kernel
theorem dX10_verdict_71 : decode cX10_verdict 71 = .ok (.ifCond .eq 14, 3) := by decide +kernel
theorem dX10_verdict_74 : decode cX10_verdict 74 = .ok (.aload_n 0, 1) := by decide +kernel
theorem dX10_verdict_75 : decode cX10_verdict 75 = .ok (.aload 4, 2) := by decide +kernel
theorem dX10_verdict_77 : decode cX10_verdict 77 = .ok (.invokevirtual 165, 3) := by decide +kernel
theorem dX10_verdict_80 : decode cX10_verdict 80 = .ok (.ifCond .eq 5, 3) := by decide +kernel
theorem dX10_verdict_83 : decode cX10_verdict 83 = .ok (.iconst 2, 1) := by decide +kernel
theorem dX10_verdict_84 : decode cX10_verdict 84 = .ok (.ireturn, 1) := by decide +kernel
theorem dX10_verdict_85 : decode cX10_verdict 85 = .ok (.aload_n 0, 1) := by decide +kernel
theorem dX10_verdict_86 : decode cX10_verdict 86 = .ok (.aload 4, 2) := by decide +kernel
theorem dX10_verdict_88 : decode cX10_verdict 88 = .ok (.iload_n 1, 1) := by decide +kernel
theorem dX10_verdict_89 : decode cX10_verdict 89 = .ok (.iload_n 2, 1) := by decide +kernel
theorem dX10_verdict_90 : decode cX10_verdict 90 = .ok (.aload_n 3, 1) := by decide +kernel
theorem dX10_verdict_91 : decode cX10_verdict 91 = .ok (.getfield 199, 3) := by decide +kernel
theorem dX10_verdict_94 : decode cX10_verdict 94 = .ok (.invokevirtual 213, 3) := by decide +kernel
theorem dX10_verdict_97 : decode cX10_verdict 97 = .ok (.istore 5, 2) := by decide +kernel
theorem dX10_verdict_99 : decode cX10_verdict 99 = .ok (.iload 5, 2) := by decide +kernel
theorem dX10_verdict_101 : decode cX10_verdict 101 = .ok (.aload_n 3, 1) := by decide +kernel
theorem dX10_verdict_102 : decode cX10_verdict 102 = .ok (.getfield 196, 3) := by decide +kernel
theorem dX10_verdict_105 : decode cX10_verdict 105 = .ok (.if_icmp .gt 5, 3) := by decide +kernel
theorem dX10_verdict_108 : decode cX10_verdict 108 = .ok (.iconst 2, 1) := by decide +kernel
theorem dX10_verdict_109 : decode cX10_verdict 109 = .ok (.ireturn, 1) := by decide +kernel
theorem dX10_verdict_110 : decode cX10_verdict 110 = .ok (.iload 5, 2) := by decide +kernel
theorem dX10_verdict_112 : decode cX10_verdict 112 = .ok (.aload_n 3, 1) := by decide +kernel
theorem dX10_verdict_113 : decode cX10_verdict 113 = .ok (.getfield 199, 3) := by decide +kernel
theorem dX10_verdict_116 : decode cX10_verdict 116 = .ok (.if_icmp .gt 7, 3) := by decide +kernel
theorem dX10_verdict_119 : decode cX10_verdict 119 = .ok (.iconst 1, 1) := by decide +kernel
theorem dX10_verdict_120 : decode cX10_verdict 120 = .ok (.goto 4, 3) := by decide +kernel
theorem dX10_verdict_123 : decode cX10_verdict 123 = .ok (.iconst 0, 1) := by decide +kernel
theorem dX10_verdict_124 : decode cX10_verdict 124 = .ok (.ireturn, 1) := by decide +kernel
theorem dX10_isHeld_0 : decode cX10_isHeld 0 = .ok (.iconst 0, 1) := by decide +kernel
theorem dX10_isHeld_1 : decode cX10_isHeld 1 = .ok (.istore_n 3, 1) := by decide +kernel
theorem dX10_isHeld_2 : decode cX10_isHeld 2 = .ok (.iload_n 3, 1) := by decide +kernel
theorem dX10_isHeld_3 : decode cX10_isHeld 3 = .ok (.aload_n 0, 1) := by decide +kernel
theorem dX10_isHeld_4 : decode cX10_isHeld 4 = .ok (.getfield 61, 3) := by decide +kernel
theorem dX10_isHeld_7 : decode cX10_isHeld 7 = .ok (.if_icmp .ge 56, 3) := by decide +kernel
theorem dX10_isHeld_10 : decode cX10_isHeld 10 = .ok (.aload_n 0, 1) := by decide +kernel
theorem dX10_isHeld_11 : decode cX10_isHeld 11 = .ok (.iload_n 3, 1) := by decide +kernel
theorem dX10_isHeld_12 : decode cX10_isHeld 12 = .ok (.invokevirtual 217, 3) := by decide +kernel
theorem dX10_isHeld_15 : decode cX10_isHeld 15 = .ok (.astore 4, 2) := by decide +kernel
theorem dX10_isHeld_17 : decode cX10_isHeld 17 = .ok (.aload 4, 2) := by decide +kernel
theorem dX10_isHeld_19 : decode cX10_isHeld 19 = .ok (.ifnull 38, 3) := by decide +kernel
theorem dX10_isHeld_22 : decode cX10_isHeld 22 = .ok (.aload 4, 2) := by decide +kernel
theorem dX10_isHeld_24 : decode cX10_isHeld 24 = .ok (.getfield 221, 3) := by decide +kernel
theorem dX10_isHeld_27 : decode cX10_isHeld 27 = .ok (.iload_n 2, 1) := by decide +kernel
theorem dX10_isHeld_28 : decode cX10_isHeld 28 = .ok (.if_icmp .ne 29, 3) := by decide +kernel
theorem dX10_isHeld_31 : decode cX10_isHeld 31 = .ok (.aload 4, 2) := by decide +kernel
theorem dX10_isHeld_33 : decode cX10_isHeld 33 = .ok (.getfield 224, 3) := by decide +kernel
theorem dX10_isHeld_36 : decode cX10_isHeld 36 = .ok (.aload_n 0, 1) := by decide +kernel
theorem dX10_isHeld_37 : decode cX10_isHeld 37 = .ok (.getfield 20, 3) := by decide +kernel
theorem dX10_isHeld_40 : decode cX10_isHeld 40 = .ok (.invokevirtual 144, 3) := by decide +kernel
theorem dX10_isHeld_43 : decode cX10_isHeld 43 = .ok (.aload 4, 2) := by decide +kernel
theorem dX10_isHeld_45 : decode cX10_isHeld 45 = .ok (.getfield 224, 3) := by decide +kernel
theorem dX10_isHeld_48 : decode cX10_isHeld 48 = .ok (.aload_n 1, 1) := by decide +kernel
theorem dX10_isHeld_49 : decode cX10_isHeld 49 = .ok (.invokevirtual 227, 3) := by decide +kernel
theorem dX10_isHeld_52 : decode cX10_isHeld 52 = .ok (.ifCond .eq 5, 3) := by decide +kernel
theorem dX10_isHeld_55 : decode cX10_isHeld 55 = .ok (.iconst 1, 1) := by decide +kernel
theorem dX10_isHeld_56 : decode cX10_isHeld 56 = .ok (.ireturn, 1) := by decide +kernel
theorem dX10_isHeld_57 : decode cX10_isHeld 57 = .ok (.iinc 3 1, 3) := by decide +kernel
theorem dX10_isHeld_60 : decode cX10_isHeld 60 = .ok (.goto (-58), 3) := by decide +kernel
theorem dX10_isHeld_63 : decode cX10_isHeld 63 = .ok (.iconst 0, 1) := by decide +kernel
theorem dX10_isHeld_64 : decode cX10_isHeld 64 = .ok (.ireturn, 1) := by decide +kernel
theorem dX10_leastToOthers_0 : decode cX10_leastToOthers 0 = .ok (.ldc 129, 2) := by decide +kernel
theorem dX10_leastToOthers_2 : decode cX10_leastToOthers 2 = .ok (.istore 5, 2) := by decide +kernel
theorem dX10_leastToOthers_4 : decode cX10_leastToOthers 4 = .ok (.iconst 0, 1) := by decide +kernel
theorem dX10_leastToOthers_5 : decode cX10_leastToOthers 5 = .ok (.istore 6, 2) := by decide +kernel
theorem dX10_leastToOthers_7 : decode cX10_leastToOthers 7 = .ok (.iload 6, 2) := by decide +kernel
theorem dX10_leastToOthers_9 : decode cX10_leastToOthers 9 = .ok (.aload_n 0, 1) := by decide +kernel
theorem dX10_leastToOthers_10 : decode cX10_leastToOthers 10 = .ok (.getfield 61, 3) := by decide +kernel
theorem dX10_leastToOthers_13 : decode cX10_leastToOthers 13 = .ok (.if_icmp .ge 69, 3) := by decide +kernel
theorem dX10_leastToOthers_16 : decode cX10_leastToOthers 16 = .ok (.aload_n 0, 1) := by decide +kernel
theorem dX10_leastToOthers_17 : decode cX10_leastToOthers 17 = .ok (.iload 6, 2) := by decide +kernel
theorem dX10_leastToOthers_19 : decode cX10_leastToOthers 19 = .ok (.invokevirtual 217, 3) := by decide +kernel
theorem dX10_leastToOthers_22 : decode cX10_leastToOthers 22 = .ok (.astore 7, 2) := by decide +kernel
theorem dX10_leastToOthers_24 : decode cX10_leastToOthers 24 = .ok (.aload 7, 2) := by decide +kernel
theorem dX10_leastToOthers_26 : decode cX10_leastToOthers 26 = .ok (.ifnull 50, 3) := by decide +kernel
theorem dX10_leastToOthers_29 : decode cX10_leastToOthers 29 = .ok (.aload 7, 2) := by decide +kernel
theorem dX10_leastToOthers_31 : decode cX10_leastToOthers 31 = .ok (.getfield 221, 3) := by decide +kernel
theorem dX10_leastToOthers_34 : decode cX10_leastToOthers 34 = .ok (.iload_n 2, 1) := by decide +kernel
theorem dX10_leastToOthers_35 : decode cX10_leastToOthers 35 = .ok (.if_icmp .ne 41, 3) := by decide +kernel
theorem dX10_leastToOthers_38 : decode cX10_leastToOthers 38 = .ok (.aload 7, 2) := by decide +kernel
theorem dX10_leastToOthers_40 : decode cX10_leastToOthers 40 = .ok (.getfield 230, 3) := by decide +kernel
theorem dX10_leastToOthers_43 : decode cX10_leastToOthers 43 = .ok (.iload_n 3, 1) := by decide +kernel
theorem dX10_leastToOthers_44 : decode cX10_leastToOthers 44 = .ok (.if_icmp .eq 32, 3) := by decide +kernel
theorem dX10_leastToOthers_47 : decode cX10_leastToOthers 47 = .ok (.aload_n 0, 1) := by decide +kernel
theorem dX10_leastToOthers_48 : decode cX10_leastToOthers 48 = .ok (.aload_n 1, 1) := by decide +kernel
theorem dX10_leastToOthers_49 : decode cX10_leastToOthers 49 = .ok (.aload 7, 2) := by decide +kernel
theorem dX10_leastToOthers_51 : decode cX10_leastToOthers 51 = .ok (.getfield 224, 3) := by decide +kernel
theorem dX10_leastToOthers_54 : decode cX10_leastToOthers 54 = .ok (.iload 4, 2) := by decide +kernel
theorem dX10_leastToOthers_56 : decode cX10_leastToOthers 56 = .ok (.iload 5, 2) := by decide +kernel
theorem dX10_leastToOthers_58 : decode cX10_leastToOthers 58 = .ok (.invokestatic 233, 3) := by decide +kernel
theorem dX10_leastToOthers_61 : decode cX10_leastToOthers 61 = .ok (.invokevirtual 238, 3) := by decide +kernel
theorem dX10_leastToOthers_64 : decode cX10_leastToOthers 64 = .ok (.istore 8, 2) := by decide +kernel
theorem dX10_leastToOthers_66 : decode cX10_leastToOthers 66 = .ok (.iload 8, 2) := by decide +kernel
theorem dX10_leastToOthers_68 : decode cX10_leastToOthers 68 = .ok (.iconst (-1), 1) := by decide +kernel
theorem dX10_leastToOthers_69 : decode cX10_leastToOthers 69 = .ok (.if_icmp .eq 7, 3) := by decide +kernel
theorem dX10_leastToOthers_72 : decode cX10_leastToOthers 72 = .ok (.iload 8, 2) := by decide +kernel
theorem dX10_leastToOthers_74 : decode cX10_leastToOthers 74 = .ok (.istore 5, 2) := by decide +kernel
theorem dX10_leastToOthers_76 : decode cX10_leastToOthers 76 = .ok (.iinc 6 1, 3) := by decide +kernel
theorem dX10_leastToOthers_79 : decode cX10_leastToOthers 79 = .ok (.goto (-72), 3) := by decide +kernel
theorem dX10_leastToOthers_82 : decode cX10_leastToOthers 82 = .ok (.iload 5, 2) := by decide +kernel
theorem dX10_leastToOthers_84 : decode cX10_leastToOthers 84 = .ok (.ireturn, 1) := by decide +kernel
theorem dX10_enter_0 : decode cX10_enter 0 = .ok (.aload_n 0, 1) := by decide +kernel
theorem dX10_enter_1 : decode cX10_enter 1 = .ok (.iload_n 1, 1) := by decide +kernel
theorem dX10_enter_2 : decode cX10_enter 2 = .ok (.iload_n 2, 1) := by decide +kernel
theorem dX10_enter_3 : decode cX10_enter 3 = .ok (.invokevirtual 206, 3) := by decide +kernel
theorem dX10_enter_6 : decode cX10_enter 6 = .ok (.istore_n 3, 1) := by decide +kernel
theorem dX10_enter_7 : decode cX10_enter 7 = .ok (.iload_n 3, 1) := by decide +kernel
theorem dX10_enter_8 : decode cX10_enter 8 = .ok (.ifCond .ge 5, 3) := by decide +kernel
theorem dX10_enter_11 : decode cX10_enter 11 = .ok (.iload_n 3, 1) := by decide +kernel
theorem dX10_enter_12 : decode cX10_enter 12 = .ok (.ireturn, 1) := by decide +kernel
theorem dX10_enter_13 : decode cX10_enter 13 = .ok (.iload_n 3, 1) := by decide +kernel
theorem dX10_enter_14 : decode cX10_enter 14 = .ok (.iconst 1, 1) := by decide +kernel
theorem dX10_enter_15 : decode cX10_enter 15 = .ok (.if_icmp .le 8, 3) := by decide +kernel
theorem dX10_enter_18 : decode cX10_enter 18 = .ok (.bipush (-10), 2) := by decide +kernel
theorem dX10_enter_20 : decode cX10_enter 20 = .ok (.iload_n 3, 1) := by decide +kernel
theorem dX10_enter_21 : decode cX10_enter 21 = .ok (.isub, 1) := by decide +kernel
theorem dX10_enter_22 : decode cX10_enter 22 = .ok (.ireturn, 1) := by decide +kernel
theorem dX10_enter_23 : decode cX10_enter 23 = .ok (.aload_n 0, 1) := by decide +kernel
theorem dX10_enter_24 : decode cX10_enter 24 = .ok (.getfield 61, 3) := by decide +kernel
theorem dX10_enter_27 : decode cX10_enter 27 = .ok (.sipush 200, 3) := by decide +kernel
theorem dX10_enter_30 : decode cX10_enter 30 = .ok (.if_icmp .lt 6, 3) := by decide +kernel
theorem dX10_enter_33 : decode cX10_enter 33 = .ok (.bipush (-3), 2) := by decide +kernel
theorem dX10_enter_35 : decode cX10_enter 35 = .ok (.ireturn, 1) := by decide +kernel
theorem dX10_enter_36 : decode cX10_enter 36 = .ok (.aload_n 0, 1) := by decide +kernel
theorem dX10_enter_37 : decode cX10_enter 37 = .ok (.getfield 57, 3) := by decide +kernel
theorem dX10_enter_40 : decode cX10_enter 40 = .ok (.aload_n 0, 1) := by decide +kernel
theorem dX10_enter_41 : decode cX10_enter 41 = .ok (.getfield 61, 3) := by decide +kernel
theorem dX10_enter_44 : decode cX10_enter 44 = .ok (.new 55, 3) := by decide +kernel
theorem dX10_enter_47 : decode cX10_enter 47 = .ok (.dup, 1) := by decide +kernel
theorem dX10_enter_48 : decode cX10_enter 48 = .ok (.iload_n 1, 1) := by decide +kernel
theorem dX10_enter_49 : decode cX10_enter 49 = .ok (.iload_n 2, 1) := by decide +kernel
theorem dX10_enter_50 : decode cX10_enter 50 = .ok (.aload_n 0, 1) := by decide +kernel
theorem dX10_enter_51 : decode cX10_enter 51 = .ok (.getfield 38, 3) := by decide +kernel
theorem dX10_enter_54 : decode cX10_enter 54 = .ok (.invokespecial 242, 3) := by decide +kernel
theorem dX10_enter_57 : decode cX10_enter 57 = .ok (.aastore, 1) := by decide +kernel
theorem dX10_enter_58 : decode cX10_enter 58 = .ok (.aload_n 0, 1) := by decide +kernel
theorem dX10_enter_59 : decode cX10_enter 59 = .ok (.dup, 1) := by decide +kernel
theorem dX10_enter_60 : decode cX10_enter 60 = .ok (.getfield 61, 3) := by decide +kernel
theorem dX10_enter_63 : decode cX10_enter 63 = .ok (.iconst 1, 1) := by decide +kernel
theorem dX10_enter_64 : decode cX10_enter 64 = .ok (.iadd, 1) := by decide +kernel
theorem dX10_enter_65 : decode cX10_enter 65 = .ok (.putfield 61, 3) := by decide +kernel
theorem dX10_enter_68 : decode cX10_enter 68 = .ok (.aload_n 0, 1) := by decide +kernel
theorem dX10_enter_69 : decode cX10_enter 69 = .ok (.getfield 61, 3) := by decide +kernel
theorem dX10_enter_72 : decode cX10_enter 72 = .ok (.iconst 1, 1) := by decide +kernel
theorem dX10_enter_73 : decode cX10_enter 73 = .ok (.isub, 1) := by decide +kernel
theorem dX10_enter_74 : decode cX10_enter 74 = .ok (.ireturn, 1) := by decide +kernel
theorem dX10_strike_0 : decode cX10_strike 0 = .ok (.aload_n 0, 1) := by decide +kernel
theorem dX10_strike_1 : decode cX10_strike 1 = .ok (.iload_n 1, 1) := by decide +kernel
theorem dX10_strike_2 : decode cX10_strike 2 = .ok (.invokevirtual 217, 3) := by decide +kernel
theorem dX10_strike_5 : decode cX10_strike 5 = .ok (.astore_n 2, 1) := by decide +kernel
theorem dX10_strike_6 : decode cX10_strike 6 = .ok (.aload_n 2, 1) := by decide +kernel
theorem dX10_strike_7 : decode cX10_strike 7 = .ok (.ifnonnull 6, 3) := by decide +kernel
theorem dX10_strike_10 : decode cX10_strike 10 = .ok (.bipush (-2), 2) := by decide +kernel
theorem dX10_strike_12 : decode cX10_strike 12 = .ok (.ireturn, 1) := by decide +kernel
theorem dX10_strike_13 : decode cX10_strike 13 = .ok (.aload_n 2, 1) := by decide +kernel
theorem dX10_strike_14 : decode cX10_strike 14 = .ok (.iconst 0, 1) := by decide +kernel
theorem dX10_strike_15 : decode cX10_strike 15 = .ok (.putfield 245, 3) := by decide +kernel
theorem dX10_strike_18 : decode cX10_strike 18 = .ok (.iconst 1, 1) := by decide +kernel
theorem dX10_strike_19 : decode cX10_strike 19 = .ok (.ireturn, 1) := by decide +kernel
theorem dX10_entry_0 : decode cX10_entry 0 = .ok (.aload_n 0, 1) := by decide +kernel
theorem dX10_entry_1 : decode cX10_entry 1 = .ok (.iload_n 1, 1) := by decide +kernel
theorem dX10_entry_2 : decode cX10_entry 2 = .ok (.invokevirtual 248, 3) := by decide +kernel
theorem dX10_entry_5 : decode cX10_entry 5 = .ok (.astore_n 3, 1) := by decide +kernel
theorem dX10_entry_6 : decode cX10_entry 6 = .ok (.aload_n 3, 1) := by decide +kernel
theorem dX10_entry_7 : decode cX10_entry 7 = .ok (.ifnonnull 5, 3) := by decide +kernel
theorem dX10_entry_10 : decode cX10_entry 10 = .ok (.iconst (-1), 1) := by decide +kernel
theorem dX10_entry_11 : decode cX10_entry 11 = .ok (.ireturn, 1) := by decide +kernel
theorem dX10_entry_12 : decode cX10_entry 12 = .ok (.aload_n 3, 1) := by decide +kernel
theorem dX10_entry_13 : decode cX10_entry 13 = .ok (.getfield 224, 3) := by decide +kernel
theorem dX10_entry_16 : decode cX10_entry 16 = .ok (.aload_n 0, 1) := by decide +kernel
theorem dX10_entry_17 : decode cX10_entry 17 = .ok (.getfield 20, 3) := by decide +kernel
theorem dX10_entry_20 : decode cX10_entry 20 = .ok (.invokevirtual 144, 3) := by decide +kernel
theorem dX10_entry_23 : decode cX10_entry 23 = .ok (.iload_n 2, 1) := by decide +kernel
theorem dX10_entry_24 : decode cX10_entry 24 = .ok (.tableswitch 70 0 4 #[36, 41, 46, 54, 62], 36) := by decide +kernel
theorem dX10_entry_60 : decode cX10_entry 60 = .ok (.aload_n 3, 1) := by decide +kernel
theorem dX10_entry_61 : decode cX10_entry 61 = .ok (.getfield 221, 3) := by decide +kernel
theorem dX10_entry_64 : decode cX10_entry 64 = .ok (.ireturn, 1) := by decide +kernel
theorem dX10_entry_65 : decode cX10_entry 65 = .ok (.aload_n 3, 1) := by decide +kernel
theorem dX10_entry_66 : decode cX10_entry 66 = .ok (.getfield 230, 3) := by decide +kernel
theorem dX10_entry_69 : decode cX10_entry 69 = .ok (.ireturn, 1) := by decide +kernel
theorem dX10_entry_70 : decode cX10_entry 70 = .ok (.aload_n 3, 1) := by decide +kernel
theorem dX10_entry_71 : decode cX10_entry 71 = .ok (.getfield 224, 3) := by decide +kernel
theorem dX10_entry_74 : decode cX10_entry 74 = .ok (.getfield 158, 3) := by decide +kernel
theorem dX10_entry_77 : decode cX10_entry 77 = .ok (.ireturn, 1) := by decide +kernel
theorem dX10_entry_78 : decode cX10_entry 78 = .ok (.aload_n 3, 1) := by decide +kernel
theorem dX10_entry_79 : decode cX10_entry 79 = .ok (.getfield 224, 3) := by decide +kernel
theorem dX10_entry_82 : decode cX10_entry 82 = .ok (.getfield 148, 3) := by decide +kernel
theorem dX10_entry_85 : decode cX10_entry 85 = .ok (.ireturn, 1) := by decide +kernel
theorem dX10_entry_86 : decode cX10_entry 86 = .ok (.aload_n 3, 1) := by decide +kernel
theorem dX10_entry_87 : decode cX10_entry 87 = .ok (.getfield 245, 3) := by decide +kernel
theorem dX10_entry_90 : decode cX10_entry 90 = .ok (.invokestatic 169, 3) := by decide +kernel
theorem dX10_entry_93 : decode cX10_entry 93 = .ok (.ireturn, 1) := by decide +kernel
theorem dX10_entry_94 : decode cX10_entry 94 = .ok (.iload_n 2, 1) := by decide +kernel
theorem dX10_entry_95 : decode cX10_entry 95 = .ok (.bipush 20, 2) := by decide +kernel
theorem dX10_entry_97 : decode cX10_entry 97 = .ok (.if_icmp .ge 7, 3) := by decide +kernel
theorem dX10_entry_100 : decode cX10_entry 100 = .ok (.iconst (-1), 1) := by decide +kernel
theorem dX10_entry_101 : decode cX10_entry 101 = .ok (.goto 14, 3) := by decide +kernel
theorem dX10_entry_104 : decode cX10_entry 104 = .ok (.aload_n 3, 1) := by decide +kernel
theorem dX10_entry_105 : decode cX10_entry 105 = .ok (.getfield 224, 3) := by decide +kernel
theorem dX10_entry_108 : decode cX10_entry 108 = .ok (.iload_n 2, 1) := by decide +kernel
theorem dX10_entry_109 : decode cX10_entry 109 = .ok (.bipush 20, 2) := by decide +kernel
theorem dX10_entry_111 : decode cX10_entry 111 = .ok (.isub, 1) := by decide +kernel
theorem dX10_entry_112 : decode cX10_entry 112 = .ok (.invokevirtual 251, 3) := by decide +kernel
theorem dX10_entry_115 : decode cX10_entry 115 = .ok (.ireturn, 1) := by decide +kernel
theorem dX10_far_0 : decode cX10_far 0 = .ok (.aload_n 0, 1) := by decide +kernel
theorem dX10_far_1 : decode cX10_far 1 = .ok (.iload_n 1, 1) := by decide +kernel
theorem dX10_far_2 : decode cX10_far 2 = .ok (.invokevirtual 217, 3) := by decide +kernel
theorem dX10_far_5 : decode cX10_far 5 = .ok (.astore_n 2, 1) := by decide +kernel
theorem dX10_far_6 : decode cX10_far 6 = .ok (.aload_n 2, 1) := by decide +kernel
theorem dX10_far_7 : decode cX10_far 7 = .ok (.ifnonnull 6, 3) := by decide +kernel
theorem dX10_far_10 : decode cX10_far 10 = .ok (.bipush (-2), 2) := by decide +kernel
theorem dX10_far_12 : decode cX10_far 12 = .ok (.ireturn, 1) := by decide +kernel
theorem dX10_far_13 : decode cX10_far 13 = .ok (.aload_n 0, 1) := by decide +kernel
theorem dX10_far_14 : decode cX10_far 14 = .ok (.getfield 38, 3) := by decide +kernel
theorem dX10_far_17 : decode cX10_far 17 = .ok (.ifnonnull 7, 3) := by decide +kernel
theorem dX10_far_20 : decode cX10_far 20 = .ok (.iconst (-1), 1) := by decide +kernel
theorem dX10_far_21 : decode cX10_far 21 = .ok (.goto 17, 3) := by decide +kernel
theorem dX10_far_24 : decode cX10_far 24 = .ok (.aload_n 0, 1) := by decide +kernel
theorem dX10_far_25 : decode cX10_far 25 = .ok (.aload_n 0, 1) := by decide +kernel
theorem dX10_far_26 : decode cX10_far 26 = .ok (.getfield 38, 3) := by decide +kernel
theorem dX10_far_29 : decode cX10_far 29 = .ok (.aload_n 2, 1) := by decide +kernel
theorem dX10_far_30 : decode cX10_far 30 = .ok (.getfield 224, 3) := by decide +kernel
theorem dX10_far_33 : decode cX10_far 33 = .ok (.ldc 254, 2) := by decide +kernel
theorem dX10_far_35 : decode cX10_far 35 = .ok (.invokevirtual 238, 3) := by decide +kernel
theorem dX10_far_38 : decode cX10_far 38 = .ok (.ireturn, 1) := by decide +kernel
theorem dX10_near_0 : decode cX10_near 0 = .ok (.aload_n 0, 1) := by decide +kernel
theorem dX10_near_1 : decode cX10_near 1 = .ok (.iload_n 1, 1) := by decide +kernel
theorem dX10_near_2 : decode cX10_near 2 = .ok (.invokevirtual 192, 3) := by decide +kernel
theorem dX10_near_5 : decode cX10_near 5 = .ok (.ifnull 14, 3) := by decide +kernel
theorem dX10_near_8 : decode cX10_near 8 = .ok (.iload_n 2, 1) := by decide +kernel
theorem dX10_near_9 : decode cX10_near 9 = .ok (.ifCond .lt 10, 3) := by decide +kernel
theorem dX10_near_12 : decode cX10_near 12 = .ok (.iload_n 2, 1) := by decide +kernel
theorem dX10_near_13 : decode cX10_near 13 = .ok (.sipush 200, 3) := by decide +kernel
theorem dX10_near_16 : decode cX10_near 16 = .ok (.if_icmp .le 6, 3) := by decide +kernel
theorem dX10_near_19 : decode cX10_near 19 = .ok (.bipush (-2), 2) := by decide +kernel
theorem dX10_near_21 : decode cX10_near 21 = .ok (.ireturn, 1) := by decide +kernel
theorem dX10_near_22 : decode cX10_near 22 = .ok (.aload_n 0, 1) := by decide +kernel
theorem dX10_near_23 : decode cX10_near 23 = .ok (.getfield 38, 3) := by decide +kernel
theorem dX10_near_26 : decode cX10_near 26 = .ok (.ifnonnull 5, 3) := by decide +kernel
theorem dX10_near_29 : decode cX10_near 29 = .ok (.iconst (-1), 1) := by decide +kernel
theorem dX10_near_30 : decode cX10_near 30 = .ok (.ireturn, 1) := by decide +kernel
theorem dX10_near_31 : decode cX10_near 31 = .ok (.aload_n 0, 1) := by decide +kernel
theorem dX10_near_32 : decode cX10_near 32 = .ok (.getfield 76, 3) := by decide +kernel
theorem dX10_near_35 : decode cX10_near 35 = .ok (.iconst 0, 1) := by decide +kernel
theorem dX10_near_36 : decode cX10_near 36 = .ok (.putfield 255, 3) := by decide +kernel
theorem dX10_near_39 : decode cX10_near 39 = .ok (.iconst 0, 1) := by decide +kernel
theorem dX10_near_40 : decode cX10_near 40 = .ok (.istore_n 3, 1) := by decide +kernel
theorem dX10_near_41 : decode cX10_near 41 = .ok (.iload_n 3, 1) := by decide +kernel
theorem dX10_near_42 : decode cX10_near 42 = .ok (.aload_n 0, 1) := by decide +kernel
theorem dX10_near_43 : decode cX10_near 43 = .ok (.getfield 61, 3) := by decide +kernel
theorem dX10_near_46 : decode cX10_near 46 = .ok (.if_icmp .ge 62, 3) := by decide +kernel
theorem dX10_near_49 : decode cX10_near 49 = .ok (.aload_n 0, 1) := by decide +kernel
theorem dX10_near_50 : decode cX10_near 50 = .ok (.iload_n 3, 1) := by decide +kernel
theorem dX10_near_51 : decode cX10_near 51 = .ok (.invokevirtual 217, 3) := by decide +kernel
theorem dX10_near_54 : decode cX10_near 54 = .ok (.astore 4, 2) := by decide +kernel
theorem dX10_near_56 : decode cX10_near 56 = .ok (.aload 4, 2) := by decide +kernel
theorem dX10_near_58 : decode cX10_near 58 = .ok (.ifnull 44, 3) := by decide +kernel
theorem dX10_near_61 : decode cX10_near 61 = .ok (.aload 4, 2) := by decide +kernel
theorem dX10_near_63 : decode cX10_near 63 = .ok (.getfield 221, 3) := by decide +kernel
theorem dX10_near_66 : decode cX10_near 66 = .ok (.iload_n 1, 1) := by decide +kernel
theorem dX10_near_67 : decode cX10_near 67 = .ok (.if_icmp .ne 35, 3) := by decide +kernel
theorem dX10_near_70 : decode cX10_near 70 = .ok (.aload_n 0, 1) := by decide +kernel
theorem dX10_near_71 : decode cX10_near 71 = .ok (.aload_n 0, 1) := by decide +kernel
theorem dX10_near_72 : decode cX10_near 72 = .ok (.getfield 38, 3) := by decide +kernel
theorem dX10_near_75 : decode cX10_near 75 = .ok (.aload 4, 2) := by decide +kernel
theorem dX10_near_77 : decode cX10_near 77 = .ok (.getfield 224, 3) := by decide +kernel
theorem dX10_near_80 : decode cX10_near 80 = .ok (.iload_n 2, 1) := by decide +kernel
theorem dX10_near_81 : decode cX10_near 81 = .ok (.invokevirtual 238, 3) := by decide +kernel
theorem dX10_near_84 : decode cX10_near 84 = .ok (.istore 5, 2) := by decide +kernel
theorem dX10_near_86 : decode cX10_near 86 = .ok (.iload 5, 2) := by decide +kernel
theorem dX10_near_88 : decode cX10_near 88 = .ok (.iconst (-1), 1) := by decide +kernel
theorem dX10_near_89 : decode cX10_near 89 = .ok (.if_icmp .eq 13, 3) := by decide +kernel
theorem dX10_near_92 : decode cX10_near 92 = .ok (.aload_n 0, 1) := by decide +kernel
theorem dX10_near_93 : decode cX10_near 93 = .ok (.getfield 76, 3) := by decide +kernel
theorem dX10_near_96 : decode cX10_near 96 = .ok (.iload_n 3, 1) := by decide +kernel
theorem dX10_near_97 : decode cX10_near 97 = .ok (.iload 5, 2) := by decide +kernel
theorem dX10_near_99 : decode cX10_near 99 = .ok (.invokevirtual 258, 3) := by decide +kernel
theorem dX10_near_102 : decode cX10_near 102 = .ok (.iinc 3 1, 3) := by decide +kernel
theorem dX10_near_105 : decode cX10_near 105 = .ok (.goto (-64), 3) := by decide +kernel
theorem dX10_near_108 : decode cX10_near 108 = .ok (.aload_n 0, 1) := by decide +kernel
theorem dX10_near_109 : decode cX10_near 109 = .ok (.getfield 76, 3) := by decide +kernel
theorem dX10_near_112 : decode cX10_near 112 = .ok (.getfield 255, 3) := by decide +kernel
theorem dX10_near_115 : decode cX10_near 115 = .ok (.ireturn, 1) := by decide +kernel
theorem dX10_nearest_0 : decode cX10_nearest 0 = .ok (.aload_n 0, 1) := by decide +kernel
theorem dX10_nearest_1 : decode cX10_nearest 1 = .ok (.getfield 76, 3) := by decide +kernel
theorem dX10_nearest_4 : decode cX10_nearest 4 = .ok (.iload_n 1, 1) := by decide +kernel
theorem dX10_nearest_5 : decode cX10_nearest 5 = .ok (.iload_n 2, 1) := by decide +kernel
theorem dX10_nearest_6 : decode cX10_nearest 6 = .ok (.invokevirtual 261, 3) := by decide +kernel
theorem dX10_nearest_9 : decode cX10_nearest 9 = .ok (.ireturn, 1) := by decide +kernel
theorem dX10_ways_0 : decode cX10_ways 0 = .ok (.aload_n 0, 1) := by decide +kernel
theorem dX10_ways_1 : decode cX10_ways 1 = .ok (.iload_n 1, 1) := by decide +kernel
theorem dX10_ways_2 : decode cX10_ways 2 = .ok (.invokevirtual 217, 3) := by decide +kernel
theorem dX10_ways_5 : decode cX10_ways 5 = .ok (.astore_n 2, 1) := by decide +kernel
theorem dX10_ways_6 : decode cX10_ways 6 = .ok (.aload_n 2, 1) := by decide +kernel
theorem dX10_ways_7 : decode cX10_ways 7 = .ok (.ifnonnull 6, 3) := by decide +kernel
theorem dX10_ways_10 : decode cX10_ways 10 = .ok (.bipush (-2), 2) := by decide +kernel
theorem dX10_ways_12 : decode cX10_ways 12 = .ok (.ireturn, 1) := by decide +kernel
theorem dX10_ways_13 : decode cX10_ways 13 = .ok (.aload_n 0, 1) := by decide +kernel
theorem dX10_ways_14 : decode cX10_ways 14 = .ok (.getfield 38, 3) := by decide +kernel
theorem dX10_ways_17 : decode cX10_ways 17 = .ok (.ifnull 21, 3) := by decide +kernel
theorem dX10_ways_20 : decode cX10_ways 20 = .ok (.aload_n 0, 1) := by decide +kernel
theorem dX10_ways_21 : decode cX10_ways 21 = .ok (.aload_n 0, 1) := by decide +kernel
theorem dX10_ways_22 : decode cX10_ways 22 = .ok (.getfield 38, 3) := by decide +kernel
theorem dX10_ways_25 : decode cX10_ways 25 = .ok (.aload_n 2, 1) := by decide +kernel
theorem dX10_ways_26 : decode cX10_ways 26 = .ok (.getfield 224, 3) := by decide +kernel
theorem dX10_ways_29 : decode cX10_ways 29 = .ok (.ldc 254, 2) := by decide +kernel
theorem dX10_ways_31 : decode cX10_ways 31 = .ok (.invokevirtual 238, 3) := by decide +kernel
theorem dX10_ways_34 : decode cX10_ways 34 = .ok (.iconst (-1), 1) := by decide +kernel
theorem dX10_ways_35 : decode cX10_ways 35 = .ok (.if_icmp .ne 5, 3) := by decide +kernel
theorem dX10_ways_38 : decode cX10_ways 38 = .ok (.iconst (-1), 1) := by decide +kernel
theorem dX10_ways_39 : decode cX10_ways 39 = .ok (.ireturn, 1) := by decide +kernel
theorem dX10_ways_40 : decode cX10_ways 40 = .ok (.aload_n 0, 1) := by decide +kernel
theorem dX10_ways_41 : decode cX10_ways 41 = .ok (.getfield 69, 3) := by decide +kernel
theorem dX10_ways_44 : decode cX10_ways 44 = .ok (.aload_n 0, 1) := by decide +kernel
theorem dX10_ways_45 : decode cX10_ways 45 = .ok (.getfield 38, 3) := by decide +kernel
theorem dX10_ways_48 : decode cX10_ways 48 = .ok (.aload_n 2, 1) := by decide +kernel
theorem dX10_ways_49 : decode cX10_ways 49 = .ok (.getfield 224, 3) := by decide +kernel
theorem dX10_ways_52 : decode cX10_ways 52 = .ok (.aload_n 0, 1) := by decide +kernel
theorem dX10_ways_53 : decode cX10_ways 53 = .ok (.getfield 83, 3) := by decide +kernel
theorem dX10_ways_56 : decode cX10_ways 56 = .ok (.invokevirtual 263, 3) := by decide +kernel
theorem dX10_ways_59 : decode cX10_ways 59 = .ok (.aload_n 0, 1) := by decide +kernel
theorem dX10_ways_60 : decode cX10_ways 60 = .ok (.getfield 83, 3) := by decide +kernel
theorem dX10_ways_63 : decode cX10_ways 63 = .ok (.getfield 267, 3) := by decide +kernel
theorem dX10_ways_66 : decode cX10_ways 66 = .ok (.ireturn, 1) := by decide +kernel
theorem dX10_way_0 : decode cX10_way 0 = .ok (.aload_n 0, 1) := by decide +kernel
theorem dX10_way_1 : decode cX10_way 1 = .ok (.getfield 83, 3) := by decide +kernel
theorem dX10_way_4 : decode cX10_way 4 = .ok (.iload_n 1, 1) := by decide +kernel
theorem dX10_way_5 : decode cX10_way 5 = .ok (.iload_n 2, 1) := by decide +kernel
theorem dX10_way_6 : decode cX10_way 6 = .ok (.invokevirtual 268, 3) := by decide +kernel
theorem dX10_way_9 : decode cX10_way 9 = .ok (.ireturn, 1) := by decide +kernel
theorem dX10_likes_0 : decode cX10_likes 0 = .ok (.aload_n 0, 1) := by decide +kernel
theorem dX10_likes_1 : decode cX10_likes 1 = .ok (.iload_n 1, 1) := by decide +kernel
theorem dX10_likes_2 : decode cX10_likes 2 = .ok (.invokevirtual 192, 3) := by decide +kernel
theorem dX10_likes_5 : decode cX10_likes 5 = .ok (.astore_n 2, 1) := by decide +kernel
theorem dX10_likes_6 : decode cX10_likes 6 = .ok (.aload_n 2, 1) := by decide +kernel
theorem dX10_likes_7 : decode cX10_likes 7 = .ok (.ifnonnull 6, 3) := by decide +kernel
theorem dX10_likes_10 : decode cX10_likes 10 = .ok (.bipush (-2), 2) := by decide +kernel
theorem dX10_likes_12 : decode cX10_likes 12 = .ok (.ireturn, 1) := by decide +kernel
theorem dX10_likes_13 : decode cX10_likes 13 = .ok (.aload_n 0, 1) := by decide +kernel
theorem dX10_likes_14 : decode cX10_likes 14 = .ok (.getfield 90, 3) := by decide +kernel
theorem dX10_likes_17 : decode cX10_likes 17 = .ok (.iconst 0, 1) := by decide +kernel
theorem dX10_likes_18 : decode cX10_likes 18 = .ok (.putfield 269, 3) := by decide +kernel
theorem dX10_likes_21 : decode cX10_likes 21 = .ok (.iconst 0, 1) := by decide +kernel
theorem dX10_likes_22 : decode cX10_likes 22 = .ok (.istore_n 3, 1) := by decide +kernel
theorem dX10_likes_23 : decode cX10_likes 23 = .ok (.iload_n 3, 1) := by decide +kernel
theorem dX10_likes_24 : decode cX10_likes 24 = .ok (.aload_n 0, 1) := by decide +kernel
theorem dX10_likes_25 : decode cX10_likes 25 = .ok (.getfield 61, 3) := by decide +kernel
theorem dX10_likes_28 : decode cX10_likes 28 = .ok (.if_icmp .ge 41, 3) := by decide +kernel
theorem dX10_likes_31 : decode cX10_likes 31 = .ok (.aload_n 0, 1) := by decide +kernel
theorem dX10_likes_32 : decode cX10_likes 32 = .ok (.iload_n 3, 1) := by decide +kernel
theorem dX10_likes_33 : decode cX10_likes 33 = .ok (.invokevirtual 217, 3) := by decide +kernel
theorem dX10_likes_36 : decode cX10_likes 36 = .ok (.astore 4, 2) := by decide +kernel
theorem dX10_likes_38 : decode cX10_likes 38 = .ok (.aload 4, 2) := by decide +kernel
theorem dX10_likes_40 : decode cX10_likes 40 = .ok (.ifnull 23, 3) := by decide +kernel
theorem dX10_likes_43 : decode cX10_likes 43 = .ok (.aload 4, 2) := by decide +kernel
theorem dX10_likes_45 : decode cX10_likes 45 = .ok (.getfield 221, 3) := by decide +kernel
theorem dX10_likes_48 : decode cX10_likes 48 = .ok (.iload_n 1, 1) := by decide +kernel
theorem dX10_likes_49 : decode cX10_likes 49 = .ok (.if_icmp .ne 14, 3) := by decide +kernel
theorem dX10_likes_52 : decode cX10_likes 52 = .ok (.aload_n 0, 1) := by decide +kernel
theorem dX10_likes_53 : decode cX10_likes 53 = .ok (.iload_n 3, 1) := by decide +kernel
theorem dX10_likes_54 : decode cX10_likes 54 = .ok (.aload 4, 2) := by decide +kernel
theorem dX10_likes_56 : decode cX10_likes 56 = .ok (.aload_n 2, 1) := by decide +kernel
theorem dX10_likes_57 : decode cX10_likes 57 = .ok (.getfield 196, 3) := by decide +kernel
theorem dX10_likes_60 : decode cX10_likes 60 = .ok (.invokevirtual 272, 3) := by decide +kernel
theorem dX10_likes_63 : decode cX10_likes 63 = .ok (.iinc 3 1, 3) := by decide +kernel
theorem dX10_likes_66 : decode cX10_likes 66 = .ok (.goto (-43), 3) := by decide +kernel
theorem dX10_likes_69 : decode cX10_likes 69 = .ok (.aload_n 0, 1) := by decide +kernel
theorem dX10_likes_70 : decode cX10_likes 70 = .ok (.getfield 90, 3) := by decide +kernel
theorem dX10_likes_73 : decode cX10_likes 73 = .ok (.getfield 269, 3) := by decide +kernel
theorem dX10_likes_76 : decode cX10_likes 76 = .ok (.ireturn, 1) := by decide +kernel
theorem dX10_addPairsOf_0 : decode cX10_addPairsOf 0 = .ok (.iload_n 1, 1) := by decide +kernel
theorem dX10_addPairsOf_1 : decode cX10_addPairsOf 1 = .ok (.iconst 1, 1) := by decide +kernel
theorem dX10_addPairsOf_2 : decode cX10_addPairsOf 2 = .ok (.iadd, 1) := by decide +kernel
theorem dX10_addPairsOf_3 : decode cX10_addPairsOf 3 = .ok (.istore 4, 2) := by decide +kernel
theorem dX10_addPairsOf_5 : decode cX10_addPairsOf 5 = .ok (.iload 4, 2) := by decide +kernel
theorem dX10_addPairsOf_7 : decode cX10_addPairsOf 7 = .ok (.aload_n 0, 1) := by decide +kernel
theorem dX10_addPairsOf_8 : decode cX10_addPairsOf 8 = .ok (.getfield 61, 3) := by decide +kernel
theorem dX10_addPairsOf_11 : decode cX10_addPairsOf 11 = .ok (.if_icmp .ge 80, 3) := by decide +kernel
theorem dX10_addPairsOf_14 : decode cX10_addPairsOf 14 = .ok (.aload_n 0, 1) := by decide +kernel
theorem dX10_addPairsOf_15 : decode cX10_addPairsOf 15 = .ok (.iload 4, 2) := by decide +kernel
theorem dX10_addPairsOf_17 : decode cX10_addPairsOf 17 = .ok (.invokevirtual 217, 3) := by decide +kernel
theorem dX10_addPairsOf_20 : decode cX10_addPairsOf 20 = .ok (.astore 5, 2) := by decide +kernel
theorem dX10_addPairsOf_22 : decode cX10_addPairsOf 22 = .ok (.aload 5, 2) := by decide +kernel
theorem dX10_addPairsOf_24 : decode cX10_addPairsOf 24 = .ok (.ifnull 61, 3) := by decide +kernel
theorem dX10_addPairsOf_27 : decode cX10_addPairsOf 27 = .ok (.aload 5, 2) := by decide +kernel
theorem dX10_addPairsOf_29 : decode cX10_addPairsOf 29 = .ok (.getfield 221, 3) := by decide +kernel
theorem dX10_addPairsOf_32 : decode cX10_addPairsOf 32 = .ok (.aload_n 2, 1) := by decide +kernel
theorem dX10_addPairsOf_33 : decode cX10_addPairsOf 33 = .ok (.getfield 221, 3) := by decide +kernel
theorem dX10_addPairsOf_36 : decode cX10_addPairsOf 36 = .ok (.if_icmp .ne 49, 3) := by decide +kernel
theorem dX10_addPairsOf_39 : decode cX10_addPairsOf 39 = .ok (.aload 5, 2) := by decide +kernel
theorem dX10_addPairsOf_41 : decode cX10_addPairsOf 41 = .ok (.getfield 230, 3) := by decide +kernel
theorem dX10_addPairsOf_44 : decode cX10_addPairsOf 44 = .ok (.aload_n 2, 1) := by decide +kernel
theorem dX10_addPairsOf_45 : decode cX10_addPairsOf 45 = .ok (.getfield 230, 3) := by decide +kernel
theorem dX10_addPairsOf_48 : decode cX10_addPairsOf 48 = .ok (.if_icmp .eq 37, 3) := by decide +kernel
theorem dX10_addPairsOf_51 : decode cX10_addPairsOf 51 = .ok (.aload_n 0, 1) := by decide +kernel
theorem dX10_addPairsOf_52 : decode cX10_addPairsOf 52 = .ok (.aload_n 2, 1) := by decide +kernel
theorem dX10_addPairsOf_53 : decode cX10_addPairsOf 53 = .ok (.getfield 224, 3) := by decide +kernel
theorem dX10_addPairsOf_56 : decode cX10_addPairsOf 56 = .ok (.aload 5, 2) := by decide +kernel
theorem dX10_addPairsOf_58 : decode cX10_addPairsOf 58 = .ok (.getfield 224, 3) := by decide +kernel
theorem dX10_addPairsOf_61 : decode cX10_addPairsOf 61 = .ok (.iload_n 3, 1) := by decide +kernel
theorem dX10_addPairsOf_62 : decode cX10_addPairsOf 62 = .ok (.invokevirtual 238, 3) := by decide +kernel
theorem dX10_addPairsOf_65 : decode cX10_addPairsOf 65 = .ok (.istore 6, 2) := by decide +kernel
theorem dX10_addPairsOf_67 : decode cX10_addPairsOf 67 = .ok (.iload 6, 2) := by decide +kernel
theorem dX10_addPairsOf_69 : decode cX10_addPairsOf 69 = .ok (.iconst (-1), 1) := by decide +kernel
theorem dX10_addPairsOf_70 : decode cX10_addPairsOf 70 = .ok (.if_icmp .eq 15, 3) := by decide +kernel
theorem dX10_addPairsOf_73 : decode cX10_addPairsOf 73 = .ok (.aload_n 0, 1) := by decide +kernel
theorem dX10_addPairsOf_74 : decode cX10_addPairsOf 74 = .ok (.getfield 90, 3) := by decide +kernel
theorem dX10_addPairsOf_77 : decode cX10_addPairsOf 77 = .ok (.iload_n 1, 1) := by decide +kernel
theorem dX10_addPairsOf_78 : decode cX10_addPairsOf 78 = .ok (.iload 4, 2) := by decide +kernel
theorem dX10_addPairsOf_80 : decode cX10_addPairsOf 80 = .ok (.iload 6, 2) := by decide +kernel
theorem dX10_addPairsOf_82 : decode cX10_addPairsOf 82 = .ok (.invokevirtual 276, 3) := by decide +kernel
theorem dX10_addPairsOf_85 : decode cX10_addPairsOf 85 = .ok (.iinc 4 1, 3) := by decide +kernel
theorem dX10_addPairsOf_88 : decode cX10_addPairsOf 88 = .ok (.goto (-83), 3) := by decide +kernel
theorem dX10_addPairsOf_91 : decode cX10_addPairsOf 91 = .ok (.return_, 1) := by decide +kernel
theorem dX10_like_0 : decode cX10_like 0 = .ok (.aload_n 0, 1) := by decide +kernel
theorem dX10_like_1 : decode cX10_like 1 = .ok (.getfield 90, 3) := by decide +kernel
theorem dX10_like_4 : decode cX10_like 4 = .ok (.iload_n 1, 1) := by decide +kernel
theorem dX10_like_5 : decode cX10_like 5 = .ok (.iload_n 2, 1) := by decide +kernel
theorem dX10_like_6 : decode cX10_like 6 = .ok (.invokevirtual 279, 3) := by decide +kernel
theorem dX10_like_9 : decode cX10_like 9 = .ok (.ireturn, 1) := by decide +kernel
theorem dX10_count_0 : decode cX10_count 0 = .ok (.iload_n 1, 1) := by decide +kernel
theorem dX10_count_1 : decode cX10_count 1 = .ok (.tableswitch 78 0 5 #[39, 47, 55, 60, 65, 70], 39) := by decide +kernel
theorem dX10_count_40 : decode cX10_count 40 = .ok (.aload_n 0, 1) := by decide +kernel
theorem dX10_count_41 : decode cX10_count 41 = .ok (.getfield 34, 3) := by decide +kernel
theorem dX10_count_44 : decode cX10_count 44 = .ok (.getfield 280, 3) := by decide +kernel
theorem dX10_count_47 : decode cX10_count 47 = .ok (.ireturn, 1) := by decide +kernel
theorem dX10_count_48 : decode cX10_count 48 = .ok (.aload_n 0, 1) := by decide +kernel
theorem dX10_count_49 : decode cX10_count 49 = .ok (.getfield 27, 3) := by decide +kernel
theorem dX10_count_52 : decode cX10_count 52 = .ok (.getfield 283, 3) := by decide +kernel
theorem dX10_count_55 : decode cX10_count 55 = .ok (.ireturn, 1) := by decide +kernel
theorem dX10_count_56 : decode cX10_count 56 = .ok (.aload_n 0, 1) := by decide +kernel
theorem dX10_count_57 : decode cX10_count 57 = .ok (.getfield 61, 3) := by decide +kernel
theorem dX10_count_60 : decode cX10_count 60 = .ok (.ireturn, 1) := by decide +kernel
theorem dX10_count_61 : decode cX10_count 61 = .ok (.aload_n 0, 1) := by decide +kernel
theorem dX10_count_62 : decode cX10_count 62 = .ok (.invokevirtual 284, 3) := by decide +kernel
theorem dX10_count_65 : decode cX10_count 65 = .ok (.ireturn, 1) := by decide +kernel
theorem dX10_count_66 : decode cX10_count 66 = .ok (.aload_n 0, 1) := by decide +kernel
theorem dX10_count_67 : decode cX10_count 67 = .ok (.getfield 13, 3) := by decide +kernel
theorem dX10_count_70 : decode cX10_count 70 = .ok (.ireturn, 1) := by decide +kernel
theorem dX10_count_71 : decode cX10_count 71 = .ok (.aload_n 0, 1) := by decide +kernel
theorem dX10_count_72 : decode cX10_count 72 = .ok (.getfield 34, 3) := by decide +kernel
theorem dX10_count_75 : decode cX10_count 75 = .ok (.invokevirtual 288, 3) := by decide +kernel
theorem dX10_count_78 : decode cX10_count 78 = .ok (.ireturn, 1) := by decide +kernel
theorem dX10_count_79 : decode cX10_count 79 = .ok (.aload_n 0, 1) := by decide +kernel
theorem dX10_count_80 : decode cX10_count 80 = .ok (.iload_n 1, 1) := by decide +kernel
theorem dX10_count_81 : decode cX10_count 81 = .ok (.invokevirtual 291, 3) := by decide +kernel
theorem dX10_count_84 : decode cX10_count 84 = .ok (.ireturn, 1) := by decide +kernel
theorem dX10_countStanding_0 : decode cX10_countStanding 0 = .ok (.iconst 0, 1) := by decide +kernel
theorem dX10_countStanding_1 : decode cX10_countStanding 1 = .ok (.istore_n 1, 1) := by decide +kernel
theorem dX10_countStanding_2 : decode cX10_countStanding 2 = .ok (.iconst 0, 1) := by decide +kernel
theorem dX10_countStanding_3 : decode cX10_countStanding 3 = .ok (.istore_n 2, 1) := by decide +kernel
theorem dX10_countStanding_4 : decode cX10_countStanding 4 = .ok (.iload_n 2, 1) := by decide +kernel
theorem dX10_countStanding_5 : decode cX10_countStanding 5 = .ok (.aload_n 0, 1) := by decide +kernel
theorem dX10_countStanding_6 : decode cX10_countStanding 6 = .ok (.getfield 61, 3) := by decide +kernel
theorem dX10_countStanding_9 : decode cX10_countStanding 9 = .ok (.if_icmp .ge 25, 3) := by decide +kernel
theorem dX10_countStanding_12 : decode cX10_countStanding 12 = .ok (.iload_n 1, 1) := by decide +kernel
theorem dX10_countStanding_13 : decode cX10_countStanding 13 = .ok (.aload_n 0, 1) := by decide +kernel
theorem dX10_countStanding_14 : decode cX10_countStanding 14 = .ok (.iload_n 2, 1) := by decide +kernel
theorem dX10_countStanding_15 : decode cX10_countStanding 15 = .ok (.invokevirtual 217, 3) := by decide +kernel
theorem dX10_countStanding_18 : decode cX10_countStanding 18 = .ok (.ifnull 7, 3) := by decide +kernel
theorem dX10_countStanding_21 : decode cX10_countStanding 21 = .ok (.iconst 1, 1) := by decide +kernel
theorem dX10_countStanding_22 : decode cX10_countStanding 22 = .ok (.goto 4, 3) := by decide +kernel
theorem dX10_countStanding_25 : decode cX10_countStanding 25 = .ok (.iconst 0, 1) := by decide +kernel
theorem dX10_countStanding_26 : decode cX10_countStanding 26 = .ok (.iadd, 1) := by decide +kernel
theorem dX10_countStanding_27 : decode cX10_countStanding 27 = .ok (.istore_n 1, 1) := by decide +kernel
theorem dX10_countStanding_28 : decode cX10_countStanding 28 = .ok (.iinc 2 1, 3) := by decide +kernel
theorem dX10_countStanding_31 : decode cX10_countStanding 31 = .ok (.goto (-27), 3) := by decide +kernel
theorem dX10_countStanding_34 : decode cX10_countStanding 34 = .ok (.iload_n 1, 1) := by decide +kernel
theorem dX10_countStanding_35 : decode cX10_countStanding 35 = .ok (.ireturn, 1) := by decide +kernel
theorem dX10_countOfRegister_0 : decode cX10_countOfRegister 0 = .ok (.iload_n 1, 1) := by decide +kernel
theorem dX10_countOfRegister_1 : decode cX10_countOfRegister 1 = .ok (.bipush 10, 2) := by decide +kernel
theorem dX10_countOfRegister_3 : decode cX10_countOfRegister 3 = .ok (.if_icmp .ge 5, 3) := by decide +kernel
theorem dX10_countOfRegister_6 : decode cX10_countOfRegister 6 = .ok (.iconst (-1), 1) := by decide +kernel
theorem dX10_countOfRegister_7 : decode cX10_countOfRegister 7 = .ok (.ireturn, 1) := by decide +kernel
theorem dX10_countOfRegister_8 : decode cX10_countOfRegister 8 = .ok (.aload_n 0, 1) := by decide +kernel
theorem dX10_countOfRegister_9 : decode cX10_countOfRegister 9 = .ok (.iload_n 1, 1) := by decide +kernel
theorem dX10_countOfRegister_10 : decode cX10_countOfRegister 10 = .ok (.bipush 10, 2) := by decide +kernel
theorem dX10_countOfRegister_12 : decode cX10_countOfRegister 12 = .ok (.irem, 1) := by decide +kernel
theorem dX10_countOfRegister_13 : decode cX10_countOfRegister 13 = .ok (.invokevirtual 192, 3) := by decide +kernel
theorem dX10_countOfRegister_16 : decode cX10_countOfRegister 16 = .ok (.astore_n 2, 1) := by decide +kernel
theorem dX10_countOfRegister_17 : decode cX10_countOfRegister 17 = .ok (.aload_n 2, 1) := by decide +kernel
theorem dX10_countOfRegister_18 : decode cX10_countOfRegister 18 = .ok (.ifnonnull 5, 3) := by decide +kernel
theorem dX10_countOfRegister_21 : decode cX10_countOfRegister 21 = .ok (.iconst (-1), 1) := by decide +kernel
theorem dX10_countOfRegister_22 : decode cX10_countOfRegister 22 = .ok (.ireturn, 1) := by decide +kernel
theorem dX10_countOfRegister_23 : decode cX10_countOfRegister 23 = .ok (.iload_n 1, 1) := by decide +kernel
theorem dX10_countOfRegister_24 : decode cX10_countOfRegister 24 = .ok (.bipush 10, 2) := by decide +kernel
theorem dX10_countOfRegister_26 : decode cX10_countOfRegister 26 = .ok (.idiv, 1) := by decide +kernel
theorem dX10_countOfRegister_27 : decode cX10_countOfRegister 27 = .ok (.tableswitch 43 1 3 #[25, 30, 35], 25) := by decide +kernel
theorem dX10_countOfRegister_52 : decode cX10_countOfRegister 52 = .ok (.aload_n 2, 1) := by decide +kernel
theorem dX10_countOfRegister_53 : decode cX10_countOfRegister 53 = .ok (.getfield 196, 3) := by decide +kernel
theorem dX10_countOfRegister_56 : decode cX10_countOfRegister 56 = .ok (.ireturn, 1) := by decide +kernel
theorem dX10_countOfRegister_57 : decode cX10_countOfRegister 57 = .ok (.aload_n 2, 1) := by decide +kernel
theorem dX10_countOfRegister_58 : decode cX10_countOfRegister 58 = .ok (.getfield 199, 3) := by decide +kernel
theorem dX10_countOfRegister_61 : decode cX10_countOfRegister 61 = .ok (.ireturn, 1) := by decide +kernel
theorem dX10_countOfRegister_62 : decode cX10_countOfRegister 62 = .ok (.aload_n 2, 1) := by decide +kernel
theorem dX10_countOfRegister_63 : decode cX10_countOfRegister 63 = .ok (.getfield 202, 3) := by decide +kernel
theorem dX10_countOfRegister_66 : decode cX10_countOfRegister 66 = .ok (.invokestatic 169, 3) := by decide +kernel
theorem dX10_countOfRegister_69 : decode cX10_countOfRegister 69 = .ok (.ireturn, 1) := by decide +kernel
theorem dX10_countOfRegister_70 : decode cX10_countOfRegister 70 = .ok (.iconst (-1), 1) := by decide +kernel
theorem dX10_countOfRegister_71 : decode cX10_countOfRegister 71 = .ok (.ireturn, 1) := by decide +kernel
theorem dX10_registerAt_0 : decode cX10_registerAt 0 = .ok (.iload_n 1, 1) := by decide +kernel
theorem dX10_registerAt_1 : decode cX10_registerAt 1 = .ok (.ifCond .lt 17, 3) := by decide +kernel
theorem dX10_registerAt_4 : decode cX10_registerAt 4 = .ok (.iload_n 1, 1) := by decide +kernel
theorem dX10_registerAt_5 : decode cX10_registerAt 5 = .ok (.iconst 4, 1) := by decide +kernel
theorem dX10_registerAt_6 : decode cX10_registerAt 6 = .ok (.if_icmp .ge 12, 3) := by decide +kernel
theorem dX10_registerAt_9 : decode cX10_registerAt 9 = .ok (.aload_n 0, 1) := by decide +kernel
theorem dX10_registerAt_10 : decode cX10_registerAt 10 = .ok (.getfield 50, 3) := by decide +kernel
theorem dX10_registerAt_13 : decode cX10_registerAt 13 = .ok (.iload_n 1, 1) := by decide +kernel
theorem dX10_registerAt_14 : decode cX10_registerAt 14 = .ok (.aaload, 1) := by decide +kernel
theorem dX10_registerAt_15 : decode cX10_registerAt 15 = .ok (.goto 4, 3) := by decide +kernel
theorem dX10_registerAt_18 : decode cX10_registerAt 18 = .ok (.aconst_null, 1) := by decide +kernel
theorem dX10_registerAt_19 : decode cX10_registerAt 19 = .ok (.areturn, 1) := by decide +kernel
theorem dX10_entryAt_0 : decode cX10_entryAt 0 = .ok (.iload_n 1, 1) := by decide +kernel
theorem dX10_entryAt_1 : decode cX10_entryAt 1 = .ok (.ifCond .lt 27, 3) := by decide +kernel
theorem dX10_entryAt_4 : decode cX10_entryAt 4 = .ok (.iload_n 1, 1) := by decide +kernel
theorem dX10_entryAt_5 : decode cX10_entryAt 5 = .ok (.aload_n 0, 1) := by decide +kernel
theorem dX10_entryAt_6 : decode cX10_entryAt 6 = .ok (.getfield 61, 3) := by decide +kernel
theorem dX10_entryAt_9 : decode cX10_entryAt 9 = .ok (.if_icmp .ge 19, 3) := by decide +kernel
theorem dX10_entryAt_12 : decode cX10_entryAt 12 = .ok (.iload_n 1, 1) := by decide +kernel
theorem dX10_entryAt_13 : decode cX10_entryAt 13 = .ok (.sipush 200, 3) := by decide +kernel
theorem dX10_entryAt_16 : decode cX10_entryAt 16 = .ok (.if_icmp .ge 12, 3) := by decide +kernel
theorem dX10_entryAt_19 : decode cX10_entryAt 19 = .ok (.aload_n 0, 1) := by decide +kernel
theorem dX10_entryAt_20 : decode cX10_entryAt 20 = .ok (.getfield 57, 3) := by decide +kernel
theorem dX10_entryAt_23 : decode cX10_entryAt 23 = .ok (.iload_n 1, 1) := by decide +kernel
theorem dX10_entryAt_24 : decode cX10_entryAt 24 = .ok (.aaload, 1) := by decide +kernel
theorem dX10_entryAt_25 : decode cX10_entryAt 25 = .ok (.goto 4, 3) := by decide +kernel
theorem dX10_entryAt_28 : decode cX10_entryAt 28 = .ok (.aconst_null, 1) := by decide +kernel
theorem dX10_entryAt_29 : decode cX10_entryAt 29 = .ok (.areturn, 1) := by decide +kernel
theorem dX10_standingAt_0 : decode cX10_standingAt 0 = .ok (.aload_n 0, 1) := by decide +kernel
theorem dX10_standingAt_1 : decode cX10_standingAt 1 = .ok (.iload_n 1, 1) := by decide +kernel
theorem dX10_standingAt_2 : decode cX10_standingAt 2 = .ok (.invokevirtual 248, 3) := by decide +kernel
theorem dX10_standingAt_5 : decode cX10_standingAt 5 = .ok (.astore_n 2, 1) := by decide +kernel
theorem dX10_standingAt_6 : decode cX10_standingAt 6 = .ok (.aload_n 2, 1) := by decide +kernel
theorem dX10_standingAt_7 : decode cX10_standingAt 7 = .ok (.ifnull 14, 3) := by decide +kernel
theorem dX10_standingAt_10 : decode cX10_standingAt 10 = .ok (.aload_n 2, 1) := by decide +kernel
theorem dX10_standingAt_11 : decode cX10_standingAt 11 = .ok (.getfield 245, 3) := by decide +kernel
theorem dX10_standingAt_14 : decode cX10_standingAt 14 = .ok (.ifCond .eq 7, 3) := by decide +kernel
theorem dX10_standingAt_17 : decode cX10_standingAt 17 = .ok (.aload_n 2, 1) := by decide +kernel
theorem dX10_standingAt_18 : decode cX10_standingAt 18 = .ok (.goto 4, 3) := by decide +kernel
theorem dX10_standingAt_21 : decode cX10_standingAt 21 = .ok (.aconst_null, 1) := by decide +kernel
theorem dX10_standingAt_22 : decode cX10_standingAt 22 = .ok (.areturn, 1) := by decide +kernel
theorem dX10_costBetween_0 : decode cX10_costBetween 0 = .ok (.aload_n 0, 1) := by decide +kernel
theorem dX10_costBetween_1 : decode cX10_costBetween 1 = .ok (.getfield 34, 3) := by decide +kernel
theorem dX10_costBetween_4 : decode cX10_costBetween 4 = .ok (.invokevirtual 119, 3) := by decide +kernel
theorem dX10_costBetween_7 : decode cX10_costBetween 7 = .ok (.aload_n 1, 1) := by decide +kernel
theorem dX10_costBetween_8 : decode cX10_costBetween 8 = .ok (.aload_n 0, 1) := by decide +kernel
theorem dX10_costBetween_9 : decode cX10_costBetween 9 = .ok (.getfield 20, 3) := by decide +kernel
theorem dX10_costBetween_12 : decode cX10_costBetween 12 = .ok (.invokevirtual 144, 3) := by decide +kernel
theorem dX10_costBetween_15 : decode cX10_costBetween 15 = .ok (.aload_n 2, 1) := by decide +kernel
theorem dX10_costBetween_16 : decode cX10_costBetween 16 = .ok (.aload_n 0, 1) := by decide +kernel
theorem dX10_costBetween_17 : decode cX10_costBetween 17 = .ok (.getfield 20, 3) := by decide +kernel
theorem dX10_costBetween_20 : decode cX10_costBetween 20 = .ok (.invokevirtual 144, 3) := by decide +kernel
theorem dX10_costBetween_23 : decode cX10_costBetween 23 = .ok (.aload_n 1, 1) := by decide +kernel
theorem dX10_costBetween_24 : decode cX10_costBetween 24 = .ok (.aload_n 0, 1) := by decide +kernel
theorem dX10_costBetween_25 : decode cX10_costBetween 25 = .ok (.getfield 34, 3) := by decide +kernel
theorem dX10_costBetween_28 : decode cX10_costBetween 28 = .ok (.invokevirtual 294, 3) := by decide +kernel
theorem dX10_costBetween_31 : decode cX10_costBetween 31 = .ok (.aload_n 2, 1) := by decide +kernel
theorem dX10_costBetween_32 : decode cX10_costBetween 32 = .ok (.aload_n 0, 1) := by decide +kernel
theorem dX10_costBetween_33 : decode cX10_costBetween 33 = .ok (.getfield 34, 3) := by decide +kernel
theorem dX10_costBetween_36 : decode cX10_costBetween 36 = .ok (.invokevirtual 294, 3) := by decide +kernel
theorem dX10_costBetween_39 : decode cX10_costBetween 39 = .ok (.aload_n 0, 1) := by decide +kernel
theorem dX10_costBetween_40 : decode cX10_costBetween 40 = .ok (.getfield 69, 3) := by decide +kernel
theorem dX10_costBetween_43 : decode cX10_costBetween 43 = .ok (.aload_n 1, 1) := by decide +kernel
theorem dX10_costBetween_44 : decode cX10_costBetween 44 = .ok (.aload_n 2, 1) := by decide +kernel
theorem dX10_costBetween_45 : decode cX10_costBetween 45 = .ok (.iload_n 3, 1) := by decide +kernel
theorem dX10_costBetween_46 : decode cX10_costBetween 46 = .ok (.invokevirtual 297, 3) := by decide +kernel
theorem dX10_costBetween_49 : decode cX10_costBetween 49 = .ok (.ireturn, 1) := by decide +kernel
