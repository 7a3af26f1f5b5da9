theorem dX9_tellEnds_0 : decode cX9_tellEnds 0 = .ok (.aload_n 1, 1) := by decide +kernel
theorem dX9_tellEnds_1 : decode cX9_tellEnds 1 = .ok (.iload_n 2, 1) := by decide +kernel
theorem dX9_tellEnds_2 : decode cX9_tellEnds 2 = .ok (.invokevirtual 141, 3) := by decide +kernel
theorem dX9_tellEnds_5 : decode cX9_tellEnds 5 = .ok (.sipush 200, 3) := by decide +kernel
theorem dX9_tellEnds_8 : decode cX9_tellEnds 8 = .ok (.istore_n 3, 1) := by decide +kernel
theorem dX9_tellEnds_9 : decode cX9_tellEnds 9 = .ok (.iconst 0, 1) := by decide +kernel
theorem dX9_tellEnds_10 : decode cX9_tellEnds 10 = .ok (.istore 4, 2) := by decide +kernel
theorem dX9_tellEnds_12 : decode cX9_tellEnds 12 = .ok (.sipush 200, 3) := by decide +kernel
theorem dX9_tellEnds_15 : decode cX9_tellEnds 15 = .ok (.istore 5, 2) := by decide +kernel
theorem dX9_tellEnds_17 : decode cX9_tellEnds 17 = .ok (.iconst 0, 1) := by decide +kernel
theorem dX9_tellEnds_18 : decode cX9_tellEnds 18 = .ok (.istore 6, 2) := by decide +kernel
theorem dX9_tellEnds_20 : decode cX9_tellEnds 20 = .ok (.iconst 0, 1) := by decide +kernel
theorem dX9_tellEnds_21 : decode cX9_tellEnds 21 = .ok (.istore 7, 2) := by decide +kernel
theorem dX9_tellEnds_23 : decode cX9_tellEnds 23 = .ok (.iload 7, 2) := by decide +kernel
theorem dX9_tellEnds_25 : decode cX9_tellEnds 25 = .ok (.bipush 64, 2) := by decide +kernel
theorem dX9_tellEnds_27 : decode cX9_tellEnds 27 = .ok (.if_icmp .ge 71, 3) := by decide +kernel
theorem dX9_tellEnds_30 : decode cX9_tellEnds 30 = .ok (.aload_n 1, 1) := by decide +kernel
theorem dX9_tellEnds_31 : decode cX9_tellEnds 31 = .ok (.getfield 171, 3) := by decide +kernel
theorem dX9_tellEnds_34 : decode cX9_tellEnds 34 = .ok (.iload 7, 2) := by decide +kernel
theorem dX9_tellEnds_36 : decode cX9_tellEnds 36 = .ok (.invokestatic 167, 3) := by decide +kernel
theorem dX9_tellEnds_39 : decode cX9_tellEnds 39 = .ok (.ifCond .eq 53, 3) := by decide +kernel
theorem dX9_tellEnds_42 : decode cX9_tellEnds 42 = .ok (.iload_n 3, 1) := by decide +kernel
theorem dX9_tellEnds_43 : decode cX9_tellEnds 43 = .ok (.aload_n 1, 1) := by decide +kernel
theorem dX9_tellEnds_44 : decode cX9_tellEnds 44 = .ok (.iload 7, 2) := by decide +kernel
theorem dX9_tellEnds_46 : decode cX9_tellEnds 46 = .ok (.invokevirtual 144, 3) := by decide +kernel
theorem dX9_tellEnds_49 : decode cX9_tellEnds 49 = .ok (.invokestatic 93, 3) := by decide +kernel
theorem dX9_tellEnds_52 : decode cX9_tellEnds 52 = .ok (.istore_n 3, 1) := by decide +kernel
theorem dX9_tellEnds_53 : decode cX9_tellEnds 53 = .ok (.iload 4, 2) := by decide +kernel
theorem dX9_tellEnds_55 : decode cX9_tellEnds 55 = .ok (.aload_n 1, 1) := by decide +kernel
theorem dX9_tellEnds_56 : decode cX9_tellEnds 56 = .ok (.iload 7, 2) := by decide +kernel
theorem dX9_tellEnds_58 : decode cX9_tellEnds 58 = .ok (.invokevirtual 144, 3) := by decide +kernel
theorem dX9_tellEnds_61 : decode cX9_tellEnds 61 = .ok (.invokestatic 98, 3) := by decide +kernel
theorem dX9_tellEnds_64 : decode cX9_tellEnds 64 = .ok (.istore 4, 2) := by decide +kernel
theorem dX9_tellEnds_66 : decode cX9_tellEnds 66 = .ok (.iload 5, 2) := by decide +kernel
theorem dX9_tellEnds_68 : decode cX9_tellEnds 68 = .ok (.aload_n 1, 1) := by decide +kernel
theorem dX9_tellEnds_69 : decode cX9_tellEnds 69 = .ok (.iload 7, 2) := by decide +kernel
theorem dX9_tellEnds_71 : decode cX9_tellEnds 71 = .ok (.invokevirtual 148, 3) := by decide +kernel
theorem dX9_tellEnds_74 : decode cX9_tellEnds 74 = .ok (.invokestatic 93, 3) := by decide +kernel
theorem dX9_tellEnds_77 : decode cX9_tellEnds 77 = .ok (.istore 5, 2) := by decide +kernel
theorem dX9_tellEnds_79 : decode cX9_tellEnds 79 = .ok (.iload 6, 2) := by decide +kernel
theorem dX9_tellEnds_81 : decode cX9_tellEnds 81 = .ok (.aload_n 1, 1) := by decide +kernel
theorem dX9_tellEnds_82 : decode cX9_tellEnds 82 = .ok (.iload 7, 2) := by decide +kernel
theorem dX9_tellEnds_84 : decode cX9_tellEnds 84 = .ok (.invokevirtual 148, 3) := by decide +kernel
theorem dX9_tellEnds_87 : decode cX9_tellEnds 87 = .ok (.invokestatic 98, 3) := by decide +kernel
theorem dX9_tellEnds_90 : decode cX9_tellEnds 90 = .ok (.istore 6, 2) := by decide +kernel
theorem dX9_tellEnds_92 : decode cX9_tellEnds 92 = .ok (.iinc 7 1, 3) := by decide +kernel
theorem dX9_tellEnds_95 : decode cX9_tellEnds 95 = .ok (.goto (-72), 3) := by decide +kernel
theorem dX9_tellEnds_98 : decode cX9_tellEnds 98 = .ok (.aload_n 0, 1) := by decide +kernel
theorem dX9_tellEnds_99 : decode cX9_tellEnds 99 = .ok (.getfield 37, 3) := by decide +kernel
theorem dX9_tellEnds_102 : decode cX9_tellEnds 102 = .ok (.invokevirtual 174, 3) := by decide +kernel
theorem dX9_tellEnds_105 : decode cX9_tellEnds 105 = .ok (.aload_n 0, 1) := by decide +kernel
theorem dX9_tellEnds_106 : decode cX9_tellEnds 106 = .ok (.getfield 37, 3) := by decide +kernel
theorem dX9_tellEnds_109 : decode cX9_tellEnds 109 = .ok (.iload_n 3, 1) := by decide +kernel
theorem dX9_tellEnds_110 : decode cX9_tellEnds 110 = .ok (.invokevirtual 177, 3) := by decide +kernel
theorem dX9_tellEnds_113 : decode cX9_tellEnds 113 = .ok (.aload_n 0, 1) := by decide +kernel
theorem dX9_tellEnds_114 : decode cX9_tellEnds 114 = .ok (.getfield 37, 3) := by decide +kernel
theorem dX9_tellEnds_117 : decode cX9_tellEnds 117 = .ok (.iload 4, 2) := by decide +kernel
theorem dX9_tellEnds_119 : decode cX9_tellEnds 119 = .ok (.invokevirtual 177, 3) := by decide +kernel
theorem dX9_tellEnds_122 : decode cX9_tellEnds 122 = .ok (.aload_n 0, 1) := by decide +kernel
theorem dX9_tellEnds_123 : decode cX9_tellEnds 123 = .ok (.getfield 37, 3) := by decide +kernel
theorem dX9_tellEnds_126 : decode cX9_tellEnds 126 = .ok (.iload 5, 2) := by decide +kernel
theorem dX9_tellEnds_128 : decode cX9_tellEnds 128 = .ok (.invokevirtual 177, 3) := by decide +kernel
theorem dX9_tellEnds_131 : decode cX9_tellEnds 131 = .ok (.aload_n 0, 1) := by decide +kernel
theorem dX9_tellEnds_132 : decode cX9_tellEnds 132 = .ok (.getfield 37, 3) := by decide +kernel
theorem dX9_tellEnds_135 : decode cX9_tellEnds 135 = .ok (.iload 6, 2) := by decide +kernel
theorem dX9_tellEnds_137 : decode cX9_tellEnds 137 = .ok (.invokevirtual 177, 3) := by decide +kernel
theorem dX9_tellEnds_140 : decode cX9_tellEnds 140 = .ok (.return_, 1) := by decide +kernel
theorem dX9_share_0 : decode cX9_share 0 = .ok (.aload_n 0, 1) := by decide +kernel
theorem dX9_share_1 : decode cX9_share 1 = .ok (.iload_n 1, 1) := by decide +kernel
theorem dX9_share_2 : decode cX9_share 2 = .ok (.invokevirtual 126, 3) := by decide +kernel
theorem dX9_share_5 : decode cX9_share 5 = .ok (.astore 4, 2) := by decide +kernel
theorem dX9_share_7 : decode cX9_share 7 = .ok (.aload 4, 2) := by decide +kernel
theorem dX9_share_9 : decode cX9_share 9 = .ok (.ifnull 19, 3) := by decide +kernel
theorem dX9_share_12 : decode cX9_share 12 = .ok (.iload_n 2, 1) := by decide +kernel
theorem dX9_share_13 : decode cX9_share 13 = .ok (.invokestatic 81, 3) := by decide +kernel
theorem dX9_share_16 : decode cX9_share 16 = .ok (.ifCond .eq 12, 3) := by decide +kernel
theorem dX9_share_19 : decode cX9_share 19 = .ok (.iload_n 3, 1) := by decide +kernel
theorem dX9_share_20 : decode cX9_share 20 = .ok (.iconst 0, 1) := by decide +kernel
theorem dX9_share_21 : decode cX9_share 21 = .ok (.iconst 1, 1) := by decide +kernel
theorem dX9_share_22 : decode cX9_share 22 = .ok (.invokestatic 85, 3) := by decide +kernel
theorem dX9_share_25 : decode cX9_share 25 = .ok (.ifCond .ne 5, 3) := by decide +kernel
theorem dX9_share_28 : decode cX9_share 28 = .ok (.iconst (-1), 1) := by decide +kernel
theorem dX9_share_29 : decode cX9_share 29 = .ok (.ireturn, 1) := by decide +kernel
theorem dX9_share_30 : decode cX9_share 30 = .ok (.aload_n 0, 1) := by decide +kernel
theorem dX9_share_31 : decode cX9_share 31 = .ok (.aload_n 0, 1) := by decide +kernel
theorem dX9_share_32 : decode cX9_share 32 = .ok (.getfield 78, 3) := by decide +kernel
theorem dX9_share_35 : decode cX9_share 35 = .ok (.invokevirtual 160, 3) := by decide +kernel
theorem dX9_share_38 : decode cX9_share 38 = .ok (.aload 4, 2) := by decide +kernel
theorem dX9_share_40 : decode cX9_share 40 = .ok (.getfield 171, 3) := by decide +kernel
theorem dX9_share_43 : decode cX9_share 43 = .ok (.invokestatic 180, 3) := by decide +kernel
theorem dX9_share_46 : decode cX9_share 46 = .ok (.istore 5, 2) := by decide +kernel
theorem dX9_share_48 : decode cX9_share 48 = .ok (.iload 5, 2) := by decide +kernel
theorem dX9_share_50 : decode cX9_share 50 = .ok (.ifCond .ne 7, 3) := by decide +kernel
theorem dX9_share_53 : decode cX9_share 53 = .ok (.iconst (-1), 1) := by decide +kernel
theorem dX9_share_54 : decode cX9_share 54 = .ok (.goto 20, 3) := by decide +kernel
theorem dX9_share_57 : decode cX9_share 57 = .ok (.sipush 1000, 3) := by decide +kernel
theorem dX9_share_60 : decode cX9_share 60 = .ok (.aload 4, 2) := by decide +kernel
theorem dX9_share_62 : decode cX9_share 62 = .ok (.iload_n 2, 1) := by decide +kernel
theorem dX9_share_63 : decode cX9_share 63 = .ok (.iload_n 3, 1) := by decide +kernel
theorem dX9_share_64 : decode cX9_share 64 = .ok (.invokevirtual 245, 3) := by decide +kernel
theorem dX9_share_67 : decode cX9_share 67 = .ok (.invokestatic 180, 3) := by decide +kernel
theorem dX9_share_70 : decode cX9_share 70 = .ok (.imul, 1) := by decide +kernel
theorem dX9_share_71 : decode cX9_share 71 = .ok (.iload 5, 2) := by decide +kernel
theorem dX9_share_73 : decode cX9_share 73 = .ok (.idiv, 1) := by decide +kernel
theorem dX9_share_74 : decode cX9_share 74 = .ok (.ireturn, 1) := by decide +kernel
theorem dX9_worst_0 : decode cX9_worst 0 = .ok (.aload_n 0, 1) := by decide +kernel
theorem dX9_worst_1 : decode cX9_worst 1 = .ok (.iload_n 1, 1) := by decide +kernel
theorem dX9_worst_2 : decode cX9_worst 2 = .ok (.invokevirtual 126, 3) := by decide +kernel
theorem dX9_worst_5 : decode cX9_worst 5 = .ok (.astore 4, 2) := by decide +kernel
theorem dX9_worst_7 : decode cX9_worst 7 = .ok (.aload 4, 2) := by decide +kernel
theorem dX9_worst_9 : decode cX9_worst 9 = .ok (.ifnull 20, 3) := by decide +kernel
theorem dX9_worst_12 : decode cX9_worst 12 = .ok (.iload_n 2, 1) := by decide +kernel
theorem dX9_worst_13 : decode cX9_worst 13 = .ok (.invokestatic 81, 3) := by decide +kernel
theorem dX9_worst_16 : decode cX9_worst 16 = .ok (.ifCond .eq 13, 3) := by decide +kernel
theorem dX9_worst_19 : decode cX9_worst 19 = .ok (.iload_n 3, 1) := by decide +kernel
theorem dX9_worst_20 : decode cX9_worst 20 = .ok (.iconst 0, 1) := by decide +kernel
theorem dX9_worst_21 : decode cX9_worst 21 = .ok (.bipush 50, 2) := by decide +kernel
theorem dX9_worst_23 : decode cX9_worst 23 = .ok (.invokestatic 85, 3) := by decide +kernel
theorem dX9_worst_26 : decode cX9_worst 26 = .ok (.ifCond .ne 5, 3) := by decide +kernel
theorem dX9_worst_29 : decode cX9_worst 29 = .ok (.iconst (-1), 1) := by decide +kernel
theorem dX9_worst_30 : decode cX9_worst 30 = .ok (.ireturn, 1) := by decide +kernel
theorem dX9_worst_31 : decode cX9_worst 31 = .ok (.aload_n 0, 1) := by decide +kernel
theorem dX9_worst_32 : decode cX9_worst 32 = .ok (.aload_n 0, 1) := by decide +kernel
theorem dX9_worst_33 : decode cX9_worst 33 = .ok (.getfield 78, 3) := by decide +kernel
theorem dX9_worst_36 : decode cX9_worst 36 = .ok (.invokevirtual 160, 3) := by decide +kernel
theorem dX9_worst_39 : decode cX9_worst 39 = .ok (.aload 4, 2) := by decide +kernel
theorem dX9_worst_41 : decode cX9_worst 41 = .ok (.getfield 171, 3) := by decide +kernel
theorem dX9_worst_44 : decode cX9_worst 44 = .ok (.lconst 0, 1) := by decide +kernel
theorem dX9_worst_45 : decode cX9_worst 45 = .ok (.lcmp, 1) := by decide +kernel
theorem dX9_worst_46 : decode cX9_worst 46 = .ok (.ifCond .ne 7, 3) := by decide +kernel
theorem dX9_worst_49 : decode cX9_worst 49 = .ok (.iconst (-1), 1) := by decide +kernel
theorem dX9_worst_50 : decode cX9_worst 50 = .ok (.goto 14, 3) := by decide +kernel
theorem dX9_worst_53 : decode cX9_worst 53 = .ok (.aload_n 0, 1) := by decide +kernel
theorem dX9_worst_54 : decode cX9_worst 54 = .ok (.getfield 51, 3) := by decide +kernel
theorem dX9_worst_57 : decode cX9_worst 57 = .ok (.aload 4, 2) := by decide +kernel
theorem dX9_worst_59 : decode cX9_worst 59 = .ok (.iload_n 2, 1) := by decide +kernel
theorem dX9_worst_60 : decode cX9_worst 60 = .ok (.iload_n 3, 1) := by decide +kernel
theorem dX9_worst_61 : decode cX9_worst 61 = .ok (.invokevirtual 248, 3) := by decide +kernel
theorem dX9_worst_64 : decode cX9_worst 64 = .ok (.ireturn, 1) := by decide +kernel
theorem dX9_next_0 : decode cX9_next 0 = .ok (.aload_n 0, 1) := by decide +kernel
theorem dX9_next_1 : decode cX9_next 1 = .ok (.iload_n 1, 1) := by decide +kernel
theorem dX9_next_2 : decode cX9_next 2 = .ok (.invokevirtual 126, 3) := by decide +kernel
theorem dX9_next_5 : decode cX9_next 5 = .ok (.astore 5, 2) := by decide +kernel
theorem dX9_next_7 : decode cX9_next 7 = .ok (.aload 5, 2) := by decide +kernel
theorem dX9_next_9 : decode cX9_next 9 = .ok (.ifnull 33, 3) := by decide +kernel
theorem dX9_next_12 : decode cX9_next 12 = .ok (.iload_n 2, 1) := by decide +kernel
theorem dX9_next_13 : decode cX9_next 13 = .ok (.invokestatic 81, 3) := by decide +kernel
theorem dX9_next_16 : decode cX9_next 16 = .ok (.ifCond .eq 26, 3) := by decide +kernel
theorem dX9_next_19 : decode cX9_next 19 = .ok (.iload_n 3, 1) := by decide +kernel
theorem dX9_next_20 : decode cX9_next 20 = .ok (.invokestatic 81, 3) := by decide +kernel
theorem dX9_next_23 : decode cX9_next 23 = .ok (.ifCond .eq 19, 3) := by decide +kernel
theorem dX9_next_26 : decode cX9_next 26 = .ok (.iload_n 3, 1) := by decide +kernel
theorem dX9_next_27 : decode cX9_next 27 = .ok (.iload_n 2, 1) := by decide +kernel
theorem dX9_next_28 : decode cX9_next 28 = .ok (.if_icmp .lt 14, 3) := by decide +kernel
theorem dX9_next_31 : decode cX9_next 31 = .ok (.iload 4, 2) := by decide +kernel
theorem dX9_next_33 : decode cX9_next 33 = .ok (.iconst 0, 1) := by decide +kernel
theorem dX9_next_34 : decode cX9_next 34 = .ok (.bipush 50, 2) := by decide +kernel
theorem dX9_next_36 : decode cX9_next 36 = .ok (.invokestatic 85, 3) := by decide +kernel
theorem dX9_next_39 : decode cX9_next 39 = .ok (.ifCond .ne 5, 3) := by decide +kernel
theorem dX9_next_42 : decode cX9_next 42 = .ok (.iconst (-1), 1) := by decide +kernel
theorem dX9_next_43 : decode cX9_next 43 = .ok (.ireturn, 1) := by decide +kernel
theorem dX9_next_44 : decode cX9_next 44 = .ok (.aload_n 0, 1) := by decide +kernel
theorem dX9_next_45 : decode cX9_next 45 = .ok (.aload_n 0, 1) := by decide +kernel
theorem dX9_next_46 : decode cX9_next 46 = .ok (.getfield 78, 3) := by decide +kernel
theorem dX9_next_49 : decode cX9_next 49 = .ok (.invokevirtual 160, 3) := by decide +kernel
theorem dX9_next_52 : decode cX9_next 52 = .ok (.aload 5, 2) := by decide +kernel
theorem dX9_next_54 : decode cX9_next 54 = .ok (.getfield 171, 3) := by decide +kernel
theorem dX9_next_57 : decode cX9_next 57 = .ok (.lconst 0, 1) := by decide +kernel
theorem dX9_next_58 : decode cX9_next 58 = .ok (.lcmp, 1) := by decide +kernel
theorem dX9_next_59 : decode cX9_next 59 = .ok (.ifCond .ne 5, 3) := by decide +kernel
theorem dX9_next_62 : decode cX9_next 62 = .ok (.iconst (-1), 1) := by decide +kernel
theorem dX9_next_63 : decode cX9_next 63 = .ok (.ireturn, 1) := by decide +kernel
theorem dX9_next_64 : decode cX9_next 64 = .ok (.bipush 65, 2) := by decide +kernel
theorem dX9_next_66 : decode cX9_next 66 = .ok (.istore 6, 2) := by decide +kernel
theorem dX9_next_68 : decode cX9_next 68 = .ok (.iload_n 2, 1) := by decide +kernel
theorem dX9_next_69 : decode cX9_next 69 = .ok (.istore 7, 2) := by decide +kernel
theorem dX9_next_71 : decode cX9_next 71 = .ok (.iload_n 2, 1) := by decide +kernel
theorem dX9_next_72 : decode cX9_next 72 = .ok (.istore 8, 2) := by decide +kernel
theorem dX9_next_74 : decode cX9_next 74 = .ok (.iload 8, 2) := by decide +kernel
theorem dX9_next_76 : decode cX9_next 76 = .ok (.iload_n 3, 1) := by decide +kernel
theorem dX9_next_77 : decode cX9_next 77 = .ok (.if_icmp .gt 45, 3) := by decide +kernel
theorem dX9_next_80 : decode cX9_next 80 = .ok (.iload 6, 2) := by decide +kernel
theorem dX9_next_82 : decode cX9_next 82 = .ok (.iconst 1, 1) := by decide +kernel
theorem dX9_next_83 : decode cX9_next 83 = .ok (.if_icmp .le 39, 3) := by decide +kernel
theorem dX9_next_86 : decode cX9_next 86 = .ok (.aload_n 0, 1) := by decide +kernel
theorem dX9_next_87 : decode cX9_next 87 = .ok (.getfield 51, 3) := by decide +kernel
theorem dX9_next_90 : decode cX9_next 90 = .ok (.aload 5, 2) := by decide +kernel
theorem dX9_next_92 : decode cX9_next 92 = .ok (.iload 8, 2) := by decide +kernel
theorem dX9_next_94 : decode cX9_next 94 = .ok (.iload 4, 2) := by decide +kernel
theorem dX9_next_96 : decode cX9_next 96 = .ok (.invokevirtual 248, 3) := by decide +kernel
theorem dX9_next_99 : decode cX9_next 99 = .ok (.istore 9, 2) := by decide +kernel
theorem dX9_next_101 : decode cX9_next 101 = .ok (.iload 9, 2) := by decide +kernel
theorem dX9_next_103 : decode cX9_next 103 = .ok (.iload 6, 2) := by decide +kernel
theorem dX9_next_105 : decode cX9_next 105 = .ok (.if_icmp .ge 11, 3) := by decide +kernel
theorem dX9_next_108 : decode cX9_next 108 = .ok (.iload 9, 2) := by decide +kernel
theorem dX9_next_110 : decode cX9_next 110 = .ok (.istore 6, 2) := by decide +kernel
theorem dX9_next_112 : decode cX9_next 112 = .ok (.iload 8, 2) := by decide +kernel
theorem dX9_next_114 : decode cX9_next 114 = .ok (.istore 7, 2) := by decide +kernel
theorem dX9_next_116 : decode cX9_next 116 = .ok (.iinc 8 1, 3) := by decide +kernel
theorem dX9_next_119 : decode cX9_next 119 = .ok (.goto (-45), 3) := by decide +kernel
theorem dX9_next_122 : decode cX9_next 122 = .ok (.aload_n 0, 1) := by decide +kernel
theorem dX9_next_123 : decode cX9_next 123 = .ok (.getfield 37, 3) := by decide +kernel
theorem dX9_next_126 : decode cX9_next 126 = .ok (.invokevirtual 174, 3) := by decide +kernel
theorem dX9_next_129 : decode cX9_next 129 = .ok (.aload_n 0, 1) := by decide +kernel
theorem dX9_next_130 : decode cX9_next 130 = .ok (.getfield 37, 3) := by decide +kernel
theorem dX9_next_133 : decode cX9_next 133 = .ok (.iload 6, 2) := by decide +kernel
theorem dX9_next_135 : decode cX9_next 135 = .ok (.invokevirtual 177, 3) := by decide +kernel
theorem dX9_next_138 : decode cX9_next 138 = .ok (.iload 7, 2) := by decide +kernel
theorem dX9_next_140 : decode cX9_next 140 = .ok (.ireturn, 1) := by decide +kernel
theorem dX9_plan_0 : decode cX9_plan 0 = .ok (.aload_n 0, 1) := by decide +kernel
theorem dX9_plan_1 : decode cX9_plan 1 = .ok (.iload_n 1, 1) := by decide +kernel
theorem dX9_plan_2 : decode cX9_plan 2 = .ok (.invokevirtual 126, 3) := by decide +kernel
theorem dX9_plan_5 : decode cX9_plan 5 = .ok (.astore 7, 2) := by decide +kernel
theorem dX9_plan_7 : decode cX9_plan 7 = .ok (.aload 7, 2) := by decide +kernel
theorem dX9_plan_9 : decode cX9_plan 9 = .ok (.ifnull 34, 3) := by decide +kernel
theorem dX9_plan_12 : decode cX9_plan 12 = .ok (.iload_n 2, 1) := by decide +kernel
theorem dX9_plan_13 : decode cX9_plan 13 = .ok (.iload_n 3, 1) := by decide +kernel
theorem dX9_plan_14 : decode cX9_plan 14 = .ok (.iload 4, 2) := by decide +kernel
theorem dX9_plan_16 : decode cX9_plan 16 = .ok (.invokestatic 252, 3) := by decide +kernel
theorem dX9_plan_19 : decode cX9_plan 19 = .ok (.ifCond .eq 24, 3) := by decide +kernel
theorem dX9_plan_22 : decode cX9_plan 22 = .ok (.iload 5, 2) := by decide +kernel
theorem dX9_plan_24 : decode cX9_plan 24 = .ok (.iconst 1, 1) := by decide +kernel
theorem dX9_plan_25 : decode cX9_plan 25 = .ok (.iconst 3, 1) := by decide +kernel
theorem dX9_plan_26 : decode cX9_plan 26 = .ok (.invokestatic 85, 3) := by decide +kernel
theorem dX9_plan_29 : decode cX9_plan 29 = .ok (.ifCond .eq 14, 3) := by decide +kernel
theorem dX9_plan_32 : decode cX9_plan 32 = .ok (.iload 6, 2) := by decide +kernel
theorem dX9_plan_34 : decode cX9_plan 34 = .ok (.iconst 0, 1) := by decide +kernel
theorem dX9_plan_35 : decode cX9_plan 35 = .ok (.bipush 50, 2) := by decide +kernel
theorem dX9_plan_37 : decode cX9_plan 37 = .ok (.invokestatic 85, 3) := by decide +kernel
theorem dX9_plan_40 : decode cX9_plan 40 = .ok (.ifCond .ne 5, 3) := by decide +kernel
theorem dX9_plan_43 : decode cX9_plan 43 = .ok (.iconst (-1), 1) := by decide +kernel
theorem dX9_plan_44 : decode cX9_plan 44 = .ok (.ireturn, 1) := by decide +kernel
theorem dX9_plan_45 : decode cX9_plan 45 = .ok (.aload_n 0, 1) := by decide +kernel
theorem dX9_plan_46 : decode cX9_plan 46 = .ok (.aload_n 0, 1) := by decide +kernel
theorem dX9_plan_47 : decode cX9_plan 47 = .ok (.getfield 78, 3) := by decide +kernel
theorem dX9_plan_50 : decode cX9_plan 50 = .ok (.invokevirtual 160, 3) := by decide +kernel
theorem dX9_plan_53 : decode cX9_plan 53 = .ok (.aload 7, 2) := by decide +kernel
theorem dX9_plan_55 : decode cX9_plan 55 = .ok (.getfield 171, 3) := by decide +kernel
theorem dX9_plan_58 : decode cX9_plan 58 = .ok (.lconst 0, 1) := by decide +kernel
theorem dX9_plan_59 : decode cX9_plan 59 = .ok (.lcmp, 1) := by decide +kernel
theorem dX9_plan_60 : decode cX9_plan 60 = .ok (.ifCond .ne 5, 3) := by decide +kernel
theorem dX9_plan_63 : decode cX9_plan 63 = .ok (.iconst (-1), 1) := by decide +kernel
theorem dX9_plan_64 : decode cX9_plan 64 = .ok (.ireturn, 1) := by decide +kernel
theorem dX9_plan_65 : decode cX9_plan 65 = .ok (.aload_n 0, 1) := by decide +kernel
theorem dX9_plan_66 : decode cX9_plan 66 = .ok (.aload 7, 2) := by decide +kernel
theorem dX9_plan_68 : decode cX9_plan 68 = .ok (.iload_n 2, 1) := by decide +kernel
theorem dX9_plan_69 : decode cX9_plan 69 = .ok (.iload_n 3, 1) := by decide +kernel
theorem dX9_plan_70 : decode cX9_plan 70 = .ok (.iload 4, 2) := by decide +kernel
theorem dX9_plan_72 : decode cX9_plan 72 = .ok (.iload 6, 2) := by decide +kernel
theorem dX9_plan_74 : decode cX9_plan 74 = .ok (.invokevirtual 255, 3) := by decide +kernel
theorem dX9_plan_77 : decode cX9_plan 77 = .ok (.aload_n 0, 1) := by decide +kernel
theorem dX9_plan_78 : decode cX9_plan 78 = .ok (.getfield 51, 3) := by decide +kernel
theorem dX9_plan_81 : decode cX9_plan 81 = .ok (.aload 7, 2) := by decide +kernel
theorem dX9_plan_83 : decode cX9_plan 83 = .ok (.getfield 171, 3) := by decide +kernel
theorem dX9_plan_86 : decode cX9_plan 86 = .ok (.iload 5, 2) := by decide +kernel
theorem dX9_plan_88 : decode cX9_plan 88 = .ok (.invokevirtual 258, 3) := by decide +kernel
theorem dX9_plan_91 : decode cX9_plan 91 = .ok (.istore 8, 2) := by decide +kernel
theorem dX9_plan_93 : decode cX9_plan 93 = .ok (.aload_n 0, 1) := by decide +kernel
theorem dX9_plan_94 : decode cX9_plan 94 = .ok (.getfield 37, 3) := by decide +kernel
theorem dX9_plan_97 : decode cX9_plan 97 = .ok (.invokevirtual 174, 3) := by decide +kernel
theorem dX9_plan_100 : decode cX9_plan 100 = .ok (.aload_n 0, 1) := by decide +kernel
theorem dX9_plan_101 : decode cX9_plan 101 = .ok (.getfield 37, 3) := by decide +kernel
theorem dX9_plan_104 : decode cX9_plan 104 = .ok (.aload_n 0, 1) := by decide +kernel
theorem dX9_plan_105 : decode cX9_plan 105 = .ok (.getfield 51, 3) := by decide +kernel
theorem dX9_plan_108 : decode cX9_plan 108 = .ok (.getfield 262, 3) := by decide +kernel
theorem dX9_plan_111 : decode cX9_plan 111 = .ok (.iconst (-1), 1) := by decide +kernel
theorem dX9_plan_112 : decode cX9_plan 112 = .ok (.if_icmp .ne 7, 3) := by decide +kernel
theorem dX9_plan_115 : decode cX9_plan 115 = .ok (.iconst (-1), 1) := by decide +kernel
theorem dX9_plan_116 : decode cX9_plan 116 = .ok (.goto 14, 3) := by decide +kernel
theorem dX9_plan_119 : decode cX9_plan 119 = .ok (.iload_n 2, 1) := by decide +kernel
theorem dX9_plan_120 : decode cX9_plan 120 = .ok (.iload_n 3, 1) := by decide +kernel
theorem dX9_plan_121 : decode cX9_plan 121 = .ok (.aload_n 0, 1) := by decide +kernel
theorem dX9_plan_122 : decode cX9_plan 122 = .ok (.getfield 51, 3) := by decide +kernel
theorem dX9_plan_125 : decode cX9_plan 125 = .ok (.getfield 262, 3) := by decide +kernel
theorem dX9_plan_128 : decode cX9_plan 128 = .ok (.imul, 1) := by decide +kernel
theorem dX9_plan_129 : decode cX9_plan 129 = .ok (.iadd, 1) := by decide +kernel
theorem dX9_plan_130 : decode cX9_plan 130 = .ok (.invokevirtual 177, 3) := by decide +kernel
theorem dX9_plan_133 : decode cX9_plan 133 = .ok (.iload 8, 2) := by decide +kernel
theorem dX9_plan_135 : decode cX9_plan 135 = .ok (.ireturn, 1) := by decide +kernel
theorem dX9_settles_0 : decode cX9_settles 0 = .ok (.aload_n 0, 1) := by decide +kernel
theorem dX9_settles_1 : decode cX9_settles 1 = .ok (.iload_n 1, 1) := by decide +kernel
theorem dX9_settles_2 : decode cX9_settles 2 = .ok (.invokevirtual 126, 3) := by decide +kernel
theorem dX9_settles_5 : decode cX9_settles 5 = .ok (.astore 8, 2) := by decide +kernel
theorem dX9_settles_7 : decode cX9_settles 7 = .ok (.aload 8, 2) := by decide +kernel
theorem dX9_settles_9 : decode cX9_settles 9 = .ok (.ifnull 42, 3) := by decide +kernel
theorem dX9_settles_12 : decode cX9_settles 12 = .ok (.iload_n 2, 1) := by decide +kernel
theorem dX9_settles_13 : decode cX9_settles 13 = .ok (.iconst 0, 1) := by decide +kernel
theorem dX9_settles_14 : decode cX9_settles 14 = .ok (.iconst 1, 1) := by decide +kernel
theorem dX9_settles_15 : decode cX9_settles 15 = .ok (.invokestatic 85, 3) := by decide +kernel
theorem dX9_settles_18 : decode cX9_settles 18 = .ok (.ifCond .eq 33, 3) := by decide +kernel
theorem dX9_settles_21 : decode cX9_settles 21 = .ok (.iload_n 3, 1) := by decide +kernel
theorem dX9_settles_22 : decode cX9_settles 22 = .ok (.invokestatic 81, 3) := by decide +kernel
theorem dX9_settles_25 : decode cX9_settles 25 = .ok (.ifCond .eq 26, 3) := by decide +kernel
theorem dX9_settles_28 : decode cX9_settles 28 = .ok (.iload 4, 2) := by decide +kernel
theorem dX9_settles_30 : decode cX9_settles 30 = .ok (.iload 5, 2) := by decide +kernel
theorem dX9_settles_32 : decode cX9_settles 32 = .ok (.iload 6, 2) := by decide +kernel
theorem dX9_settles_34 : decode cX9_settles 34 = .ok (.invokestatic 252, 3) := by decide +kernel
theorem dX9_settles_37 : decode cX9_settles 37 = .ok (.ifCond .eq 14, 3) := by decide +kernel
theorem dX9_settles_40 : decode cX9_settles 40 = .ok (.iload 7, 2) := by decide +kernel
theorem dX9_settles_42 : decode cX9_settles 42 = .ok (.iconst 0, 1) := by decide +kernel
theorem dX9_settles_43 : decode cX9_settles 43 = .ok (.bipush 50, 2) := by decide +kernel
theorem dX9_settles_45 : decode cX9_settles 45 = .ok (.invokestatic 85, 3) := by decide +kernel
theorem dX9_settles_48 : decode cX9_settles 48 = .ok (.ifCond .ne 5, 3) := by decide +kernel
theorem dX9_settles_51 : decode cX9_settles 51 = .ok (.iconst (-1), 1) := by decide +kernel
theorem dX9_settles_52 : decode cX9_settles 52 = .ok (.ireturn, 1) := by decide +kernel
theorem dX9_settles_53 : decode cX9_settles 53 = .ok (.aload_n 0, 1) := by decide +kernel
theorem dX9_settles_54 : decode cX9_settles 54 = .ok (.aload_n 0, 1) := by decide +kernel
theorem dX9_settles_55 : decode cX9_settles 55 = .ok (.getfield 78, 3) := by decide +kernel
theorem dX9_settles_58 : decode cX9_settles 58 = .ok (.invokevirtual 160, 3) := by decide +kernel
theorem dX9_settles_61 : decode cX9_settles 61 = .ok (.aload 8, 2) := by decide +kernel
theorem dX9_settles_63 : decode cX9_settles 63 = .ok (.getfield 171, 3) := by decide +kernel
theorem dX9_settles_66 : decode cX9_settles 66 = .ok (.lconst 0, 1) := by decide +kernel
theorem dX9_settles_67 : decode cX9_settles 67 = .ok (.lcmp, 1) := by decide +kernel
theorem dX9_settles_68 : decode cX9_settles 68 = .ok (.ifCond .ne 5, 3) := by decide +kernel
theorem dX9_settles_71 : decode cX9_settles 71 = .ok (.iconst (-1), 1) := by decide +kernel
theorem dX9_settles_72 : decode cX9_settles 72 = .ok (.ireturn, 1) := by decide +kernel
theorem dX9_settles_73 : decode cX9_settles 73 = .ok (.aload_n 0, 1) := by decide +kernel
theorem dX9_settles_74 : decode cX9_settles 74 = .ok (.aload 8, 2) := by decide +kernel
theorem dX9_settles_76 : decode cX9_settles 76 = .ok (.iload 4, 2) := by decide +kernel
theorem dX9_settles_78 : decode cX9_settles 78 = .ok (.iload 5, 2) := by decide +kernel
theorem dX9_settles_80 : decode cX9_settles 80 = .ok (.iload 6, 2) := by decide +kernel
theorem dX9_settles_82 : decode cX9_settles 82 = .ok (.iload 7, 2) := by decide +kernel
theorem dX9_settles_84 : decode cX9_settles 84 = .ok (.invokevirtual 255, 3) := by decide +kernel
theorem dX9_settles_87 : decode cX9_settles 87 = .ok (.aload_n 0, 1) := by decide +kernel
theorem dX9_settles_88 : decode cX9_settles 88 = .ok (.getfield 51, 3) := by decide +kernel
theorem dX9_settles_91 : decode cX9_settles 91 = .ok (.aload 8, 2) := by decide +kernel
theorem dX9_settles_93 : decode cX9_settles 93 = .ok (.getfield 171, 3) := by decide +kernel
theorem dX9_settles_96 : decode cX9_settles 96 = .ok (.aload 8, 2) := by decide +kernel
theorem dX9_settles_98 : decode cX9_settles 98 = .ok (.iload_n 3, 1) := by decide +kernel
theorem dX9_settles_99 : decode cX9_settles 99 = .ok (.iload_n 2, 1) := by decide +kernel
theorem dX9_settles_100 : decode cX9_settles 100 = .ok (.invokevirtual 245, 3) := by decide +kernel
theorem dX9_settles_103 : decode cX9_settles 103 = .ok (.invokevirtual 265, 3) := by decide +kernel
theorem dX9_settles_106 : decode cX9_settles 106 = .ok (.ireturn, 1) := by decide +kernel
theorem dX9_isRowOfDays_0 : decode cX9_isRowOfDays 0 = .ok (.iload_n 0, 1) := by decide +kernel
theorem dX9_isRowOfDays_1 : decode cX9_isRowOfDays 1 = .ok (.invokestatic 81, 3) := by decide +kernel
theorem dX9_isRowOfDays_4 : decode cX9_isRowOfDays 4 = .ok (.ifCond .eq 40, 3) := by decide +kernel
theorem dX9_isRowOfDays_7 : decode cX9_isRowOfDays 7 = .ok (.iload_n 1, 1) := by decide +kernel
theorem dX9_isRowOfDays_8 : decode cX9_isRowOfDays 8 = .ok (.iconst 1, 1) := by decide +kernel
theorem dX9_isRowOfDays_9 : decode cX9_isRowOfDays 9 = .ok (.bipush 50, 2) := by decide +kernel
theorem dX9_isRowOfDays_11 : decode cX9_isRowOfDays 11 = .ok (.invokestatic 85, 3) := by decide +kernel
theorem dX9_isRowOfDays_14 : decode cX9_isRowOfDays 14 = .ok (.ifCond .eq 30, 3) := by decide +kernel
theorem dX9_isRowOfDays_17 : decode cX9_isRowOfDays 17 = .ok (.iload_n 2, 1) := by decide +kernel
theorem dX9_isRowOfDays_18 : decode cX9_isRowOfDays 18 = .ok (.iconst 1, 1) := by decide +kernel
theorem dX9_isRowOfDays_19 : decode cX9_isRowOfDays 19 = .ok (.bipush 6, 2) := by decide +kernel
theorem dX9_isRowOfDays_21 : decode cX9_isRowOfDays 21 = .ok (.invokestatic 85, 3) := by decide +kernel
theorem dX9_isRowOfDays_24 : decode cX9_isRowOfDays 24 = .ok (.ifCond .eq 20, 3) := by decide +kernel
theorem dX9_isRowOfDays_27 : decode cX9_isRowOfDays 27 = .ok (.iload_n 0, 1) := by decide +kernel
theorem dX9_isRowOfDays_28 : decode cX9_isRowOfDays 28 = .ok (.iload_n 1, 1) := by decide +kernel
theorem dX9_isRowOfDays_29 : decode cX9_isRowOfDays 29 = .ok (.iload_n 2, 1) := by decide +kernel
theorem dX9_isRowOfDays_30 : decode cX9_isRowOfDays 30 = .ok (.iconst 1, 1) := by decide +kernel
theorem dX9_isRowOfDays_31 : decode cX9_isRowOfDays 31 = .ok (.isub, 1) := by decide +kernel
theorem dX9_isRowOfDays_32 : decode cX9_isRowOfDays 32 = .ok (.imul, 1) := by decide +kernel
theorem dX9_isRowOfDays_33 : decode cX9_isRowOfDays 33 = .ok (.iadd, 1) := by decide +kernel
theorem dX9_isRowOfDays_34 : decode cX9_isRowOfDays 34 = .ok (.invokestatic 81, 3) := by decide +kernel
theorem dX9_isRowOfDays_37 : decode cX9_isRowOfDays 37 = .ok (.ifCond .eq 7, 3) := by decide +kernel
theorem dX9_isRowOfDays_40 : decode cX9_isRowOfDays 40 = .ok (.iconst 1, 1) := by decide +kernel
theorem dX9_isRowOfDays_41 : decode cX9_isRowOfDays 41 = .ok (.goto 4, 3) := by decide +kernel
theorem dX9_isRowOfDays_44 : decode cX9_isRowOfDays 44 = .ok (.iconst 0, 1) := by decide +kernel
theorem dX9_isRowOfDays_45 : decode cX9_isRowOfDays 45 = .ok (.ireturn, 1) := by decide +kernel
theorem dX9_prepareAhead_0 : decode cX9_prepareAhead 0 = .ok (.aload_n 0, 1) := by decide +kernel
theorem dX9_prepareAhead_1 : decode cX9_prepareAhead 1 = .ok (.getfield 51, 3) := by decide +kernel
theorem dX9_prepareAhead_4 : decode cX9_prepareAhead 4 = .ok (.invokevirtual 269, 3) := by decide +kernel
theorem dX9_prepareAhead_7 : decode cX9_prepareAhead 7 = .ok (.iconst 0, 1) := by decide +kernel
theorem dX9_prepareAhead_8 : decode cX9_prepareAhead 8 = .ok (.istore 6, 2) := by decide +kernel
theorem dX9_prepareAhead_10 : decode cX9_prepareAhead 10 = .ok (.iload 6, 2) := by decide +kernel
theorem dX9_prepareAhead_12 : decode cX9_prepareAhead 12 = .ok (.iload 4, 2) := by decide +kernel
theorem dX9_prepareAhead_14 : decode cX9_prepareAhead 14 = .ok (.if_icmp .ge 25, 3) := by decide +kernel
theorem dX9_prepareAhead_17 : decode cX9_prepareAhead 17 = .ok (.aload_n 0, 1) := by decide +kernel
theorem dX9_prepareAhead_18 : decode cX9_prepareAhead 18 = .ok (.getfield 51, 3) := by decide +kernel
theorem dX9_prepareAhead_21 : decode cX9_prepareAhead 21 = .ok (.aload_n 1, 1) := by decide +kernel
theorem dX9_prepareAhead_22 : decode cX9_prepareAhead 22 = .ok (.iload_n 2, 1) := by decide +kernel
theorem dX9_prepareAhead_23 : decode cX9_prepareAhead 23 = .ok (.iload_n 3, 1) := by decide +kernel
theorem dX9_prepareAhead_24 : decode cX9_prepareAhead 24 = .ok (.iload 6, 2) := by decide +kernel
theorem dX9_prepareAhead_26 : decode cX9_prepareAhead 26 = .ok (.imul, 1) := by decide +kernel
theorem dX9_prepareAhead_27 : decode cX9_prepareAhead 27 = .ok (.iadd, 1) := by decide +kernel
theorem dX9_prepareAhead_28 : decode cX9_prepareAhead 28 = .ok (.iload 5, 2) := by decide +kernel
theorem dX9_prepareAhead_30 : decode cX9_prepareAhead 30 = .ok (.invokevirtual 270, 3) := by decide +kernel
theorem dX9_prepareAhead_33 : decode cX9_prepareAhead 33 = .ok (.iinc 6 1, 3) := by decide +kernel
theorem dX9_prepareAhead_36 : decode cX9_prepareAhead 36 = .ok (.goto (-26), 3) := by decide +kernel
theorem dX9_prepareAhead_39 : decode cX9_prepareAhead 39 = .ok (.return_, 1) := by decide +kernel
theorem dX9_prove_0 : decode cX9_prove 0 = .ok (.iload_n 1, 1) := by decide +kernel
theorem dX9_prove_1 : decode cX9_prove 1 = .ok (.invokestatic 138, 3) := by decide +kernel
theorem dX9_prove_4 : decode cX9_prove 4 = .ok (.ifCond .eq 25, 3) := by decide +kernel
theorem dX9_prove_7 : decode cX9_prove 7 = .ok (.iload_n 2, 1) := by decide +kernel
theorem dX9_prove_8 : decode cX9_prove 8 = .ok (.iconst 0, 1) := by decide +kernel
theorem dX9_prove_9 : decode cX9_prove 9 = .ok (.bipush 39, 2) := by decide +kernel
theorem dX9_prove_11 : decode cX9_prove 11 = .ok (.invokestatic 85, 3) := by decide +kernel
theorem dX9_prove_14 : decode cX9_prove 14 = .ok (.ifCond .eq 15, 3) := by decide +kernel
theorem dX9_prove_17 : decode cX9_prove 17 = .ok (.aload_n 0, 1) := by decide +kernel
theorem dX9_prove_18 : decode cX9_prove 18 = .ok (.getfield 44, 3) := by decide +kernel
theorem dX9_prove_21 : decode cX9_prove 21 = .ok (.getfield 274, 3) := by decide +kernel
theorem dX9_prove_24 : decode cX9_prove 24 = .ok (.bipush 64, 2) := by decide +kernel
theorem dX9_prove_26 : decode cX9_prove 26 = .ok (.if_icmp .lt 5, 3) := by decide +kernel
theorem dX9_prove_29 : decode cX9_prove 29 = .ok (.iconst (-1), 1) := by decide +kernel
theorem dX9_prove_30 : decode cX9_prove 30 = .ok (.ireturn, 1) := by decide +kernel
theorem dX9_prove_31 : decode cX9_prove 31 = .ok (.aload_n 0, 1) := by decide +kernel
theorem dX9_prove_32 : decode cX9_prove 32 = .ok (.getfield 44, 3) := by decide +kernel
theorem dX9_prove_35 : decode cX9_prove 35 = .ok (.iload_n 1, 1) := by decide +kernel
theorem dX9_prove_36 : decode cX9_prove 36 = .ok (.iload_n 2, 1) := by decide +kernel
theorem dX9_prove_37 : decode cX9_prove 37 = .ok (.invokevirtual 277, 3) := by decide +kernel
theorem dX9_prove_40 : decode cX9_prove 40 = .ok (.aload_n 0, 1) := by decide +kernel
theorem dX9_prove_41 : decode cX9_prove 41 = .ok (.getfield 44, 3) := by decide +kernel
theorem dX9_prove_44 : decode cX9_prove 44 = .ok (.getfield 274, 3) := by decide +kernel
theorem dX9_prove_47 : decode cX9_prove 47 = .ok (.ireturn, 1) := by decide +kernel
theorem dX9_check_0 : decode cX9_check 0 = .ok (.aload_n 0, 1) := by decide +kernel
theorem dX9_check_1 : decode cX9_check 1 = .ok (.getfield 44, 3) := by decide +kernel
theorem dX9_check_4 : decode cX9_check 4 = .ok (.getfield 274, 3) := by decide +kernel
theorem dX9_check_7 : decode cX9_check 7 = .ok (.istore_n 2, 1) := by decide +kernel
theorem dX9_check_8 : decode cX9_check 8 = .ok (.aload_n 0, 1) := by decide +kernel
theorem dX9_check_9 : decode cX9_check 9 = .ok (.getfield 44, 3) := by decide +kernel
theorem dX9_check_12 : decode cX9_check 12 = .ok (.invokevirtual 280, 3) := by decide +kernel
theorem dX9_check_15 : decode cX9_check 15 = .ok (.aload_n 0, 1) := by decide +kernel
theorem dX9_check_16 : decode cX9_check 16 = .ok (.iload_n 1, 1) := by decide +kernel
theorem dX9_check_17 : decode cX9_check 17 = .ok (.invokevirtual 126, 3) := by decide +kernel
theorem dX9_check_20 : decode cX9_check 20 = .ok (.astore_n 3, 1) := by decide +kernel
theorem dX9_check_21 : decode cX9_check 21 = .ok (.aload_n 3, 1) := by decide +kernel
theorem dX9_check_22 : decode cX9_check 22 = .ok (.ifnonnull 6, 3) := by decide +kernel
theorem dX9_check_25 : decode cX9_check 25 = .ok (.bipush (-100), 2) := by decide +kernel
theorem dX9_check_27 : decode cX9_check 27 = .ok (.ireturn, 1) := by decide +kernel
theorem dX9_check_28 : decode cX9_check 28 = .ok (.aload_n 0, 1) := by decide +kernel
theorem dX9_check_29 : decode cX9_check 29 = .ok (.aload_n 0, 1) := by decide +kernel
theorem dX9_check_30 : decode cX9_check 30 = .ok (.getfield 78, 3) := by decide +kernel
theorem dX9_check_33 : decode cX9_check 33 = .ok (.invokevirtual 160, 3) := by decide +kernel
theorem dX9_check_36 : decode cX9_check 36 = .ok (.lconst 0, 1) := by decide +kernel
theorem dX9_check_37 : decode cX9_check 37 = .ok (.lstore 4, 2) := by decide +kernel
theorem dX9_check_39 : decode cX9_check 39 = .ok (.iconst 0, 1) := by decide +kernel
theorem dX9_check_40 : decode cX9_check 40 = .ok (.istore 6, 2) := by decide +kernel
theorem dX9_check_42 : decode cX9_check 42 = .ok (.iload 6, 2) := by decide +kernel
theorem dX9_check_44 : decode cX9_check 44 = .ok (.iload_n 2, 1) := by decide +kernel
theorem dX9_check_45 : decode cX9_check 45 = .ok (.if_icmp .ge 81, 3) := by decide +kernel
theorem dX9_check_48 : decode cX9_check 48 = .ok (.aload_n 0, 1) := by decide +kernel
theorem dX9_check_49 : decode cX9_check 49 = .ok (.getfield 44, 3) := by decide +kernel
theorem dX9_check_52 : decode cX9_check 52 = .ok (.getfield 281, 3) := by decide +kernel
theorem dX9_check_55 : decode cX9_check 55 = .ok (.iload 6, 2) := by decide +kernel
theorem dX9_check_57 : decode cX9_check 57 = .ok (.iaload, 1) := by decide +kernel
theorem dX9_check_58 : decode cX9_check 58 = .ok (.istore 7, 2) := by decide +kernel
theorem dX9_check_60 : decode cX9_check 60 = .ok (.aload_n 0, 1) := by decide +kernel
theorem dX9_check_61 : decode cX9_check 61 = .ok (.aload_n 0, 1) := by decide +kernel
theorem dX9_check_62 : decode cX9_check 62 = .ok (.getfield 44, 3) := by decide +kernel
theorem dX9_check_65 : decode cX9_check 65 = .ok (.getfield 284, 3) := by decide +kernel
theorem dX9_check_68 : decode cX9_check 68 = .ok (.iload 6, 2) := by decide +kernel
theorem dX9_check_70 : decode cX9_check 70 = .ok (.iaload, 1) := by decide +kernel
theorem dX9_check_71 : decode cX9_check 71 = .ok (.invokevirtual 222, 3) := by decide +kernel
theorem dX9_check_74 : decode cX9_check 74 = .ok (.astore 8, 2) := by decide +kernel
theorem dX9_check_76 : decode cX9_check 76 = .ok (.aload 8, 2) := by decide +kernel
theorem dX9_check_78 : decode cX9_check 78 = .ok (.ifnull 28, 3) := by decide +kernel
theorem dX9_check_81 : decode cX9_check 81 = .ok (.aload 8, 2) := by decide +kernel
theorem dX9_check_83 : decode cX9_check 83 = .ok (.aload_n 3, 1) := by decide +kernel
theorem dX9_check_84 : decode cX9_check 84 = .ok (.iload 7, 2) := by decide +kernel
theorem dX9_check_86 : decode cX9_check 86 = .ok (.aload_n 0, 1) := by decide +kernel
theorem dX9_check_87 : decode cX9_check 87 = .ok (.getfield 78, 3) := by decide +kernel
theorem dX9_check_90 : decode cX9_check 90 = .ok (.invokevirtual 233, 3) := by decide +kernel
theorem dX9_check_93 : decode cX9_check 93 = .ok (.ifCond .eq 13, 3) := by decide +kernel
theorem dX9_check_96 : decode cX9_check 96 = .ok (.lload 4, 2) := by decide +kernel
theorem dX9_check_98 : decode cX9_check 98 = .ok (.iload 7, 2) := by decide +kernel
theorem dX9_check_100 : decode cX9_check 100 = .ok (.invokestatic 167, 3) := by decide +kernel
theorem dX9_check_103 : decode cX9_check 103 = .ok (.ifCond .eq 8, 3) := by decide +kernel
theorem dX9_check_106 : decode cX9_check 106 = .ok (.iconst (-1), 1) := by decide +kernel
theorem dX9_check_107 : decode cX9_check 107 = .ok (.iload 6, 2) := by decide +kernel
theorem dX9_check_109 : decode cX9_check 109 = .ok (.isub, 1) := by decide +kernel
theorem dX9_check_110 : decode cX9_check 110 = .ok (.ireturn, 1) := by decide +kernel
theorem dX9_check_111 : decode cX9_check 111 = .ok (.lload 4, 2) := by decide +kernel
theorem dX9_check_113 : decode cX9_check 113 = .ok (.lconst 1, 1) := by decide +kernel
theorem dX9_check_114 : decode cX9_check 114 = .ok (.iload 7, 2) := by decide +kernel
theorem dX9_check_116 : decode cX9_check 116 = .ok (.lshl, 1) := by decide +kernel
theorem dX9_check_117 : decode cX9_check 117 = .ok (.lor, 1) := by decide +kernel
theorem dX9_check_118 : decode cX9_check 118 = .ok (.lstore 4, 2) := by decide +kernel
theorem dX9_check_120 : decode cX9_check 120 = .ok (.iinc 6 1, 3) := by decide +kernel
theorem dX9_check_123 : decode cX9_check 123 = .ok (.goto (-81), 3) := by decide +kernel
theorem dX9_check_126 : decode cX9_check 126 = .ok (.lload 4, 2) := by decide +kernel
theorem dX9_check_128 : decode cX9_check 128 = .ok (.aload_n 3, 1) := by decide +kernel
theorem dX9_check_129 : decode cX9_check 129 = .ok (.getfield 163, 3) := by decide +kernel
theorem dX9_check_132 : decode cX9_check 132 = .ok (.lor, 1) := by decide +kernel
theorem dX9_check_133 : decode cX9_check 133 = .ok (.ldc2_w 186, 3) := by decide +kernel
theorem dX9_check_136 : decode cX9_check 136 = .ok (.lcmp, 1) := by decide +kernel
theorem dX9_check_137 : decode cX9_check 137 = .ok (.ifCond .ne 7, 3) := by decide +kernel
theorem dX9_check_140 : decode cX9_check 140 = .ok (.iconst 0, 1) := by decide +kernel
theorem dX9_check_141 : decode cX9_check 141 = .ok (.goto 4, 3) := by decide +kernel
theorem dX9_check_144 : decode cX9_check 144 = .ok (.iconst 1, 1) := by decide +kernel
theorem dX9_check_145 : decode cX9_check 145 = .ok (.ireturn, 1) := by decide +kernel
theorem dX9_lay_0 : decode cX9_lay 0 = .ok (.aload_n 0, 1) := by decide +kernel
theorem dX9_lay_1 : decode cX9_lay 1 = .ok (.iload_n 1, 1) := by decide +kernel
theorem dX9_lay_2 : decode cX9_lay 2 = .ok (.invokevirtual 126, 3) := by decide +kernel
theorem dX9_lay_5 : decode cX9_lay 5 = .ok (.astore_n 2, 1) := by decide +kernel
theorem dX9_lay_6 : decode cX9_lay 6 = .ok (.aload_n 2, 1) := by decide +kernel
theorem dX9_lay_7 : decode cX9_lay 7 = .ok (.ifnonnull 5, 3) := by decide +kernel
theorem dX9_lay_10 : decode cX9_lay 10 = .ok (.iconst (-1), 1) := by decide +kernel
theorem dX9_lay_11 : decode cX9_lay 11 = .ok (.ireturn, 1) := by decide +kernel
theorem dX9_lay_12 : decode cX9_lay 12 = .ok (.aload_n 0, 1) := by decide +kernel
theorem dX9_lay_13 : decode cX9_lay 13 = .ok (.aload_n 0, 1) := by decide +kernel
theorem dX9_lay_14 : decode cX9_lay 14 = .ok (.getfield 78, 3) := by decide +kernel
theorem dX9_lay_17 : decode cX9_lay 17 = .ok (.invokevirtual 160, 3) := by decide +kernel
theorem dX9_lay_20 : decode cX9_lay 20 = .ok (.aload_n 0, 1) := by decide +kernel
theorem dX9_lay_21 : decode cX9_lay 21 = .ok (.getfield 44, 3) := by decide +kernel
theorem dX9_lay_24 : decode cX9_lay 24 = .ok (.invokevirtual 280, 3) := by decide +kernel
theorem dX9_lay_27 : decode cX9_lay 27 = .ok (.iconst 0, 1) := by decide +kernel
theorem dX9_lay_28 : decode cX9_lay 28 = .ok (.istore_n 3, 1) := by decide +kernel
theorem dX9_lay_29 : decode cX9_lay 29 = .ok (.iload_n 3, 1) := by decide +kernel
theorem dX9_lay_30 : decode cX9_lay 30 = .ok (.bipush 64, 2) := by decide +kernel
theorem dX9_lay_32 : decode cX9_lay 32 = .ok (.if_icmp .ge 33, 3) := by decide +kernel
theorem dX9_lay_35 : decode cX9_lay 35 = .ok (.aload_n 0, 1) := by decide +kernel
theorem dX9_lay_36 : decode cX9_lay 36 = .ok (.aload_n 2, 1) := by decide +kernel
theorem dX9_lay_37 : decode cX9_lay 37 = .ok (.iload_n 3, 1) := by decide +kernel
theorem dX9_lay_38 : decode cX9_lay 38 = .ok (.invokevirtual 287, 3) := by decide +kernel
theorem dX9_lay_41 : decode cX9_lay 41 = .ok (.istore 4, 2) := by decide +kernel
theorem dX9_lay_43 : decode cX9_lay 43 = .ok (.iload 4, 2) := by decide +kernel
theorem dX9_lay_45 : decode cX9_lay 45 = .ok (.iconst (-1), 1) := by decide +kernel
theorem dX9_lay_46 : decode cX9_lay 46 = .ok (.if_icmp .eq 13, 3) := by decide +kernel
theorem dX9_lay_49 : decode cX9_lay 49 = .ok (.aload_n 0, 1) := by decide +kernel
theorem dX9_lay_50 : decode cX9_lay 50 = .ok (.getfield 44, 3) := by decide +kernel
theorem dX9_lay_53 : decode cX9_lay 53 = .ok (.iload_n 3, 1) := by decide +kernel
theorem dX9_lay_54 : decode cX9_lay 54 = .ok (.iload 4, 2) := by decide +kernel
theorem dX9_lay_56 : decode cX9_lay 56 = .ok (.invokevirtual 277, 3) := by decide +kernel
theorem dX9_lay_59 : decode cX9_lay 59 = .ok (.iinc 3 1, 3) := by decide +kernel
theorem dX9_lay_62 : decode cX9_lay 62 = .ok (.goto (-33), 3) := by decide +kernel
theorem dX9_lay_65 : decode cX9_lay 65 = .ok (.aload_n 0, 1) := by decide +kernel
theorem dX9_lay_66 : decode cX9_lay 66 = .ok (.getfield 44, 3) := by decide +kernel
theorem dX9_lay_69 : decode cX9_lay 69 = .ok (.getfield 274, 3) := by decide +kernel
theorem dX9_lay_72 : decode cX9_lay 72 = .ok (.ireturn, 1) := by decide +kernel
theorem dX9_firstThatBars_0 : decode cX9_firstThatBars 0 = .ok (.iconst 0, 1) := by decide +kernel
theorem dX9_firstThatBars_1 : decode cX9_firstThatBars 1 = .ok (.istore_n 3, 1) := by decide +kernel
theorem dX9_firstThatBars_2 : decode cX9_firstThatBars 2 = .ok (.iload_n 3, 1) := by decide +kernel
theorem dX9_firstThatBars_3 : decode cX9_firstThatBars 3 = .ok (.aload_n 0, 1) := by decide +kernel
theorem dX9_firstThatBars_4 : decode cX9_firstThatBars 4 = .ok (.getfield 25, 3) := by decide +kernel
theorem dX9_firstThatBars_7 : decode cX9_firstThatBars 7 = .ok (.invokevirtual 105, 3) := by decide +kernel
theorem dX9_firstThatBars_10 : decode cX9_firstThatBars 10 = .ok (.if_icmp .ge 34, 3) := by decide +kernel
theorem dX9_firstThatBars_13 : decode cX9_firstThatBars 13 = .ok (.aload_n 0, 1) := by decide +kernel
theorem dX9_firstThatBars_14 : decode cX9_firstThatBars 14 = .ok (.getfield 25, 3) := by decide +kernel
theorem dX9_firstThatBars_17 : decode cX9_firstThatBars 17 = .ok (.iload_n 3, 1) := by decide +kernel
theorem dX9_firstThatBars_18 : decode cX9_firstThatBars 18 = .ok (.invokevirtual 109, 3) := by decide +kernel
theorem dX9_firstThatBars_21 : decode cX9_firstThatBars 21 = .ok (.checkcast 116, 3) := by decide +kernel
theorem dX9_firstThatBars_24 : decode cX9_firstThatBars 24 = .ok (.aload_n 1, 1) := by decide +kernel
theorem dX9_firstThatBars_25 : decode cX9_firstThatBars 25 = .ok (.iload_n 2, 1) := by decide +kernel
theorem dX9_firstThatBars_26 : decode cX9_firstThatBars 26 = .ok (.aload_n 0, 1) := by decide +kernel
theorem dX9_firstThatBars_27 : decode cX9_firstThatBars 27 = .ok (.getfield 78, 3) := by decide +kernel
theorem dX9_firstThatBars_30 : decode cX9_firstThatBars 30 = .ok (.invokevirtual 233, 3) := by decide +kernel
theorem dX9_firstThatBars_33 : decode cX9_firstThatBars 33 = .ok (.ifCond .eq 5, 3) := by decide +kernel
theorem dX9_firstThatBars_36 : decode cX9_firstThatBars 36 = .ok (.iload_n 3, 1) := by decide +kernel
theorem dX9_firstThatBars_37 : decode cX9_firstThatBars 37 = .ok (.ireturn, 1) := by decide +kernel
theorem dX9_firstThatBars_38 : decode cX9_firstThatBars 38 = .ok (.iinc 3 1, 3) := by decide +kernel
theorem dX9_firstThatBars_41 : decode cX9_firstThatBars 41 = .ok (.goto (-39), 3) := by decide +kernel
theorem dX9_firstThatBars_44 : decode cX9_firstThatBars 44 = .ok (.iconst (-1), 1) := by decide +kernel
theorem dX9_firstThatBars_45 : decode cX9_firstThatBars 45 = .ok (.ireturn, 1) := by decide +kernel
theorem dX9_proof_0 : decode cX9_proof 0 = .ok (.iload_n 1, 1) := by decide +kernel
theorem dX9_proof_1 : decode cX9_proof 1 = .ok (.iconst 0, 1) := by decide +kernel
theorem dX9_proof_2 : decode cX9_proof 2 = .ok (.aload_n 0, 1) := by decide +kernel
theorem dX9_proof_3 : decode cX9_proof 3 = .ok (.getfield 44, 3) := by decide +kernel
theorem dX9_proof_6 : decode cX9_proof 6 = .ok (.getfield 274, 3) := by decide +kernel
theorem dX9_proof_9 : decode cX9_proof 9 = .ok (.iconst 1, 1) := by decide +kernel
theorem dX9_proof_10 : decode cX9_proof 10 = .ok (.isub, 1) := by decide +kernel
theorem dX9_proof_11 : decode cX9_proof 11 = .ok (.invokestatic 85, 3) := by decide +kernel
theorem dX9_proof_14 : decode cX9_proof 14 = .ok (.ifCond .eq 12, 3) := by decide +kernel
theorem dX9_proof_17 : decode cX9_proof 17 = .ok (.iload_n 2, 1) := by decide +kernel
theorem dX9_proof_18 : decode cX9_proof 18 = .ok (.iconst 0, 1) := by decide +kernel
theorem dX9_proof_19 : decode cX9_proof 19 = .ok (.iconst 1, 1) := by decide +kernel
theorem dX9_proof_20 : decode cX9_proof 20 = .ok (.invokestatic 85, 3) := by decide +kernel
theorem dX9_proof_23 : decode cX9_proof 23 = .ok (.ifCond .ne 5, 3) := by decide +kernel
theorem dX9_proof_26 : decode cX9_proof 26 = .ok (.iconst (-1), 1) := by decide +kernel
theorem dX9_proof_27 : decode cX9_proof 27 = .ok (.ireturn, 1) := by decide +kernel
theorem dX9_proof_28 : decode cX9_proof 28 = .ok (.iload_n 2, 1) := by decide +kernel
theorem dX9_proof_29 : decode cX9_proof 29 = .ok (.ifCond .ne 15, 3) := by decide +kernel
theorem dX9_proof_32 : decode cX9_proof 32 = .ok (.aload_n 0, 1) := by decide +kernel
theorem dX9_proof_33 : decode cX9_proof 33 = .ok (.getfield 44, 3) := by decide +kernel
theorem dX9_proof_36 : decode cX9_proof 36 = .ok (.getfield 281, 3) := by decide +kernel
theorem dX9_proof_39 : decode cX9_proof 39 = .ok (.iload_n 1, 1) := by decide +kernel
theorem dX9_proof_40 : decode cX9_proof 40 = .ok (.iaload, 1) := by decide +kernel
theorem dX9_proof_41 : decode cX9_proof 41 = .ok (.goto 12, 3) := by decide +kernel
theorem dX9_proof_44 : decode cX9_proof 44 = .ok (.aload_n 0, 1) := by decide +kernel
theorem dX9_proof_45 : decode cX9_proof 45 = .ok (.getfield 44, 3) := by decide +kernel
theorem dX9_proof_48 : decode cX9_proof 48 = .ok (.getfield 284, 3) := by decide +kernel
theorem dX9_proof_51 : decode cX9_proof 51 = .ok (.iload_n 1, 1) := by decide +kernel
theorem dX9_proof_52 : decode cX9_proof 52 = .ok (.iaload, 1) := by decide +kernel
theorem dX9_proof_53 : decode cX9_proof 53 = .ok (.ireturn, 1) := by decide +kernel
theorem dX9_bridge_0 : decode cX9_bridge 0 = .ok (.iload_n 1, 1) := by decide +kernel
theorem dX9_bridge_1 : decode cX9_bridge 1 = .ok (.iconst 1, 1) := by decide +kernel
theorem dX9_bridge_2 : decode cX9_bridge 2 = .ok (.iconst 1, 1) := by decide +kernel
theorem dX9_bridge_3 : decode cX9_bridge 3 = .ok (.aload_n 0, 1) := by decide +kernel
theorem dX9_bridge_4 : decode cX9_bridge 4 = .ok (.getfield 21, 3) := by decide +kernel
theorem dX9_bridge_7 : decode cX9_bridge 7 = .ok (.invokevirtual 105, 3) := by decide +kernel
theorem dX9_bridge_10 : decode cX9_bridge 10 = .ok (.ishl, 1) := by decide +kernel
theorem dX9_bridge_11 : decode cX9_bridge 11 = .ok (.iconst 1, 1) := by decide +kernel
theorem dX9_bridge_12 : decode cX9_bridge 12 = .ok (.isub, 1) := by decide +kernel
theorem dX9_bridge_13 : decode cX9_bridge 13 = .ok (.invokestatic 85, 3) := by decide +kernel
theorem dX9_bridge_16 : decode cX9_bridge 16 = .ok (.ifCond .eq 18, 3) := by decide +kernel
theorem dX9_bridge_19 : decode cX9_bridge 19 = .ok (.iload_n 2, 1) := by decide +kernel
theorem dX9_bridge_20 : decode cX9_bridge 20 = .ok (.iconst 0, 1) := by decide +kernel
theorem dX9_bridge_21 : decode cX9_bridge 21 = .ok (.sipush 999, 3) := by decide +kernel
theorem dX9_bridge_24 : decode cX9_bridge 24 = .ok (.invokestatic 85, 3) := by decide +kernel
theorem dX9_bridge_27 : decode cX9_bridge 27 = .ok (.ifCond .eq 7, 3) := by decide +kernel
theorem dX9_bridge_30 : decode cX9_bridge 30 = .ok (.iconst 1, 1) := by decide +kernel
theorem dX9_bridge_31 : decode cX9_bridge 31 = .ok (.goto 4, 3) := by decide +kernel
theorem dX9_bridge_34 : decode cX9_bridge 34 = .ok (.iconst 0, 1) := by decide +kernel
theorem dX9_bridge_35 : decode cX9_bridge 35 = .ok (.istore_n 3, 1) := by decide +kernel
theorem dX9_bridge_36 : decode cX9_bridge 36 = .ok (.iload_n 3, 1) := by decide +kernel
theorem dX9_bridge_37 : decode cX9_bridge 37 = .ok (.ifCond .eq 14, 3) := by decide +kernel
theorem dX9_bridge_40 : decode cX9_bridge 40 = .ok (.aload_n 0, 1) := by decide +kernel
theorem dX9_bridge_41 : decode cX9_bridge 41 = .ok (.getfield 28, 3) := by decide +kernel
theorem dX9_bridge_44 : decode cX9_bridge 44 = .ok (.invokevirtual 105, 3) := by decide +kernel
theorem dX9_bridge_47 : decode cX9_bridge 47 = .ok (.iconst 4, 1) := by decide +kernel
theorem dX9_bridge_48 : decode cX9_bridge 48 = .ok (.if_icmp .lt 5, 3) := by decide +kernel
theorem dX9_bridge_51 : decode cX9_bridge 51 = .ok (.iconst (-1), 1) := by decide +kernel
theorem dX9_bridge_52 : decode cX9_bridge 52 = .ok (.ireturn, 1) := by decide +kernel
theorem dX9_bridge_53 : decode cX9_bridge 53 = .ok (.aload_n 0, 1) := by decide +kernel
theorem dX9_bridge_54 : decode cX9_bridge 54 = .ok (.getfield 28, 3) := by decide +kernel
theorem dX9_bridge_57 : decode cX9_bridge 57 = .ok (.new 290, 3) := by decide +kernel
theorem dX9_bridge_60 : decode cX9_bridge 60 = .ok (.dup, 1) := by decide +kernel
theorem dX9_bridge_61 : decode cX9_bridge 61 = .ok (.iload_n 1, 1) := by decide +kernel
theorem dX9_bridge_62 : decode cX9_bridge 62 = .ok (.iload_n 2, 1) := by decide +kernel
theorem dX9_bridge_63 : decode cX9_bridge 63 = .ok (.invokespecial 292, 3) := by decide +kernel
theorem dX9_bridge_66 : decode cX9_bridge 66 = .ok (.invokevirtual 122, 3) := by decide +kernel
theorem dX9_bridge_69 : decode cX9_bridge 69 = .ok (.pop, 1) := by decide +kernel
theorem dX9_bridge_70 : decode cX9_bridge 70 = .ok (.aload_n 0, 1) := by decide +kernel
theorem dX9_bridge_71 : decode cX9_bridge 71 = .ok (.getfield 28, 3) := by decide +kernel
theorem dX9_bridge_74 : decode cX9_bridge 74 = .ok (.invokevirtual 105, 3) := by decide +kernel
theorem dX9_bridge_77 : decode cX9_bridge 77 = .ok (.iconst 1, 1) := by decide +kernel
theorem dX9_bridge_78 : decode cX9_bridge 78 = .ok (.isub, 1) := by decide +kernel
theorem dX9_bridge_79 : decode cX9_bridge 79 = .ok (.ireturn, 1) := by decide +kernel
theorem dX9_truth_0 : decode cX9_truth 0 = .ok (.aload_n 0, 1) := by decide +kernel
theorem dX9_truth_1 : decode cX9_truth 1 = .ok (.iload_n 1, 1) := by decide +kernel
theorem dX9_truth_2 : decode cX9_truth 2 = .ok (.invokevirtual 126, 3) := by decide +kernel
theorem dX9_truth_5 : decode cX9_truth 5 = .ok (.astore_n 3, 1) := by decide +kernel
theorem dX9_truth_6 : decode cX9_truth 6 = .ok (.aload_n 3, 1) := by decide +kernel
theorem dX9_truth_7 : decode cX9_truth 7 = .ok (.ifnull 10, 3) := by decide +kernel
theorem dX9_truth_10 : decode cX9_truth 10 = .ok (.iload_n 2, 1) := by decide +kernel
theorem dX9_truth_11 : decode cX9_truth 11 = .ok (.invokestatic 138, 3) := by decide +kernel
theorem dX9_truth_14 : decode cX9_truth 14 = .ok (.ifCond .ne 5, 3) := by decide +kernel
theorem dX9_truth_17 : decode cX9_truth 17 = .ok (.iconst (-1), 1) := by decide +kernel
theorem dX9_truth_18 : decode cX9_truth 18 = .ok (.ireturn, 1) := by decide +kernel
theorem dX9_truth_19 : decode cX9_truth 19 = .ok (.aload_n 3, 1) := by decide +kernel
theorem dX9_truth_20 : decode cX9_truth 20 = .ok (.getfield 294, 3) := by decide +kernel
theorem dX9_truth_23 : decode cX9_truth 23 = .ok (.istore 4, 2) := by decide +kernel
theorem dX9_truth_25 : decode cX9_truth 25 = .ok (.aload_n 3, 1) := by decide +kernel
theorem dX9_truth_26 : decode cX9_truth 26 = .ok (.iload_n 2, 1) := by decide +kernel
theorem dX9_truth_27 : decode cX9_truth 27 = .ok (.putfield 294, 3) := by decide +kernel
theorem dX9_truth_30 : decode cX9_truth 30 = .ok (.iload 4, 2) := by decide +kernel
theorem dX9_truth_32 : decode cX9_truth 32 = .ok (.ireturn, 1) := by decide +kernel
theorem dX9_shut_0 : decode cX9_shut 0 = .ok (.aload_n 0, 1) := by decide +kernel
theorem dX9_shut_1 : decode cX9_shut 1 = .ok (.iload_n 1, 1) := by decide +kernel
theorem dX9_shut_2 : decode cX9_shut 2 = .ok (.invokevirtual 297, 3) := by decide +kernel
theorem dX9_shut_5 : decode cX9_shut 5 = .ok (.astore 4, 2) := by decide +kernel
theorem dX9_shut_7 : decode cX9_shut 7 = .ok (.aload 4, 2) := by decide +kernel
theorem dX9_shut_9 : decode cX9_shut 9 = .ok (.ifnull 21, 3) := by decide +kernel
theorem dX9_shut_12 : decode cX9_shut 12 = .ok (.iload_n 2, 1) := by decide +kernel
theorem dX9_shut_13 : decode cX9_shut 13 = .ok (.invokestatic 81, 3) := by decide +kernel
theorem dX9_shut_16 : decode cX9_shut 16 = .ok (.ifCond .eq 14, 3) := by decide +kernel
theorem dX9_shut_19 : decode cX9_shut 19 = .ok (.iload_n 3, 1) := by decide +kernel
theorem dX9_shut_20 : decode cX9_shut 20 = .ok (.iconst 0, 1) := by decide +kernel
theorem dX9_shut_21 : decode cX9_shut 21 = .ok (.sipush 1000, 3) := by decide +kernel
theorem dX9_shut_24 : decode cX9_shut 24 = .ok (.invokestatic 85, 3) := by decide +kernel
theorem dX9_shut_27 : decode cX9_shut 27 = .ok (.ifCond .ne 5, 3) := by decide +kernel
theorem dX9_shut_30 : decode cX9_shut 30 = .ok (.iconst (-1), 1) := by decide +kernel
theorem dX9_shut_31 : decode cX9_shut 31 = .ok (.ireturn, 1) := by decide +kernel
theorem dX9_shut_32 : decode cX9_shut 32 = .ok (.aload_n 0, 1) := by decide +kernel
theorem dX9_shut_33 : decode cX9_shut 33 = .ok (.iload_n 2, 1) := by decide +kernel
theorem dX9_shut_34 : decode cX9_shut 34 = .ok (.invokevirtual 160, 3) := by decide +kernel
theorem dX9_shut_37 : decode cX9_shut 37 = .ok (.iload_n 3, 1) := by decide +kernel
theorem dX9_shut_38 : decode cX9_shut 38 = .ok (.aload_n 0, 1) := by decide +kernel
theorem dX9_shut_39 : decode cX9_shut 39 = .ok (.aload 4, 2) := by decide +kernel
theorem dX9_shut_41 : decode cX9_shut 41 = .ok (.iload_n 2, 1) := by decide +kernel
theorem dX9_shut_42 : decode cX9_shut 42 = .ok (.invokevirtual 301, 3) := by decide +kernel
theorem dX9_shut_45 : decode cX9_shut 45 = .ok (.if_icmp .ge 7, 3) := by decide +kernel
theorem dX9_shut_48 : decode cX9_shut 48 = .ok (.iconst 1, 1) := by decide +kernel
theorem dX9_shut_49 : decode cX9_shut 49 = .ok (.goto 4, 3) := by decide +kernel
theorem dX9_shut_52 : decode cX9_shut 52 = .ok (.iconst 0, 1) := by decide +kernel
theorem dX9_shut_53 : decode cX9_shut 53 = .ok (.ireturn, 1) := by decide +kernel
theorem dX9_run_0 : decode cX9_run 0 = .ok (.aload_n 0, 1) := by decide +kernel
theorem dX9_run_1 : decode cX9_run 1 = .ok (.iload_n 1, 1) := by decide +kernel
theorem dX9_run_2 : decode cX9_run 2 = .ok (.invokevirtual 297, 3) := by decide +kernel
theorem dX9_run_5 : decode cX9_run 5 = .ok (.astore 5, 2) := by decide +kernel
theorem dX9_run_7 : decode cX9_run 7 = .ok (.aload 5, 2) := by decide +kernel
theorem dX9_run_9 : decode cX9_run 9 = .ok (.ifnull 23, 3) := by decide +kernel
theorem dX9_run_12 : decode cX9_run 12 = .ok (.iload_n 2, 1) := by decide +kernel
theorem dX9_run_13 : decode cX9_run 13 = .ok (.iload_n 3, 1) := by decide +kernel
theorem dX9_run_14 : decode cX9_run 14 = .ok (.invokestatic 305, 3) := by decide +kernel
theorem dX9_run_17 : decode cX9_run 17 = .ok (.ifCond .eq 15, 3) := by decide +kernel
theorem dX9_run_20 : decode cX9_run 20 = .ok (.iload 4, 2) := by decide +kernel
theorem dX9_run_22 : decode cX9_run 22 = .ok (.iconst 0, 1) := by decide +kernel
theorem dX9_run_23 : decode cX9_run 23 = .ok (.sipush 1000, 3) := by decide +kernel
theorem dX9_run_26 : decode cX9_run 26 = .ok (.invokestatic 85, 3) := by decide +kernel
theorem dX9_run_29 : decode cX9_run 29 = .ok (.ifCond .ne 5, 3) := by decide +kernel
theorem dX9_run_32 : decode cX9_run 32 = .ok (.iconst (-1), 1) := by decide +kernel
theorem dX9_run_33 : decode cX9_run 33 = .ok (.ireturn, 1) := by decide +kernel
theorem dX9_run_34 : decode cX9_run 34 = .ok (.aload_n 0, 1) := by decide +kernel
theorem dX9_run_35 : decode cX9_run 35 = .ok (.aload 5, 2) := by decide +kernel
theorem dX9_run_37 : decode cX9_run 37 = .ok (.iload_n 2, 1) := by decide +kernel
theorem dX9_run_38 : decode cX9_run 38 = .ok (.iload_n 3, 1) := by decide +kernel
theorem dX9_run_39 : decode cX9_run 39 = .ok (.invokevirtual 309, 3) := by decide +kernel
theorem dX9_run_42 : decode cX9_run 42 = .ok (.aload_n 0, 1) := by decide +kernel
theorem dX9_run_43 : decode cX9_run 43 = .ok (.getfield 58, 3) := by decide +kernel
theorem dX9_run_46 : decode cX9_run 46 = .ok (.iload 4, 2) := by decide +kernel
theorem dX9_run_48 : decode cX9_run 48 = .ok (.invokevirtual 313, 3) := by decide +kernel
theorem dX9_run_51 : decode cX9_run 51 = .ok (.istore 6, 2) := by decide +kernel
theorem dX9_run_53 : decode cX9_run 53 = .ok (.aload_n 0, 1) := by decide +kernel
theorem dX9_run_54 : decode cX9_run 54 = .ok (.getfield 37, 3) := by decide +kernel
theorem dX9_run_57 : decode cX9_run 57 = .ok (.invokevirtual 174, 3) := by decide +kernel
theorem dX9_run_60 : decode cX9_run 60 = .ok (.aload_n 0, 1) := by decide +kernel
theorem dX9_run_61 : decode cX9_run 61 = .ok (.getfield 37, 3) := by decide +kernel
theorem dX9_run_64 : decode cX9_run 64 = .ok (.aload_n 0, 1) := by decide +kernel
theorem dX9_run_65 : decode cX9_run 65 = .ok (.getfield 58, 3) := by decide +kernel
theorem dX9_run_68 : decode cX9_run 68 = .ok (.iload 4, 2) := by decide +kernel
theorem dX9_run_70 : decode cX9_run 70 = .ok (.invokevirtual 316, 3) := by decide +kernel
theorem dX9_run_73 : decode cX9_run 73 = .ok (.invokevirtual 177, 3) := by decide +kernel
theorem dX9_run_76 : decode cX9_run 76 = .ok (.aload_n 0, 1) := by decide +kernel
theorem dX9_run_77 : decode cX9_run 77 = .ok (.getfield 37, 3) := by decide +kernel
theorem dX9_run_80 : decode cX9_run 80 = .ok (.aload_n 0, 1) := by decide +kernel
theorem dX9_run_81 : decode cX9_run 81 = .ok (.getfield 58, 3) := by decide +kernel
theorem dX9_run_84 : decode cX9_run 84 = .ok (.iload 4, 2) := by decide +kernel
theorem dX9_run_86 : decode cX9_run 86 = .ok (.invokevirtual 319, 3) := by decide +kernel
theorem dX9_run_89 : decode cX9_run 89 = .ok (.invokevirtual 177, 3) := by decide +kernel
theorem dX9_run_92 : decode cX9_run 92 = .ok (.aload_n 0, 1) := by decide +kernel
theorem dX9_run_93 : decode cX9_run 93 = .ok (.getfield 37, 3) := by decide +kernel
theorem dX9_run_96 : decode cX9_run 96 = .ok (.aload 5, 2) := by decide +kernel
theorem dX9_run_98 : decode cX9_run 98 = .ok (.getfield 322, 3) := by decide +kernel
theorem dX9_run_101 : decode cX9_run 101 = .ok (.iload 6, 2) := by decide +kernel
theorem dX9_run_103 : decode cX9_run 103 = .ok (.imul, 1) := by decide +kernel
theorem dX9_run_104 : decode cX9_run 104 = .ok (.invokevirtual 177, 3) := by decide +kernel
theorem dX9_run_107 : decode cX9_run 107 = .ok (.iload 6, 2) := by decide +kernel
theorem dX9_run_109 : decode cX9_run 109 = .ok (.ireturn, 1) := by decide +kernel
theorem dX9_best_0 : decode cX9_best 0 = .ok (.aload_n 0, 1) := by decide +kernel
theorem dX9_best_1 : decode cX9_best 1 = .ok (.iload_n 1, 1) := by decide +kernel
theorem dX9_best_2 : decode cX9_best 2 = .ok (.invokevirtual 297, 3) := by decide +kernel
theorem dX9_best_5 : decode cX9_best 5 = .ok (.astore 5, 2) := by decide +kernel
theorem dX9_best_7 : decode cX9_best 7 = .ok (.aload 5, 2) := by decide +kernel
theorem dX9_best_9 : decode cX9_best 9 = .ok (.ifnull 23, 3) := by decide +kernel
theorem dX9_best_12 : decode cX9_best 12 = .ok (.iload_n 2, 1) := by decide +kernel
theorem dX9_best_13 : decode cX9_best 13 = .ok (.iload_n 3, 1) := by decide +kernel
theorem dX9_best_14 : decode cX9_best 14 = .ok (.invokestatic 305, 3) := by decide +kernel
theorem dX9_best_17 : decode cX9_best 17 = .ok (.ifCond .eq 15, 3) := by decide +kernel
theorem dX9_best_20 : decode cX9_best 20 = .ok (.iload 4, 2) := by decide +kernel
theorem dX9_best_22 : decode cX9_best 22 = .ok (.iconst 0, 1) := by decide +kernel
theorem dX9_best_23 : decode cX9_best 23 = .ok (.sipush 9999, 3) := by decide +kernel
theorem dX9_best_26 : decode cX9_best 26 = .ok (.invokestatic 85, 3) := by decide +kernel
theorem dX9_best_29 : decode cX9_best 29 = .ok (.ifCond .ne 5, 3) := by decide +kernel
theorem dX9_best_32 : decode cX9_best 32 = .ok (.iconst (-1), 1) := by decide +kernel
theorem dX9_best_33 : decode cX9_best 33 = .ok (.ireturn, 1) := by decide +kernel
theorem dX9_best_34 : decode cX9_best 34 = .ok (.aload_n 0, 1) := by decide +kernel
theorem dX9_best_35 : decode cX9_best 35 = .ok (.aload 5, 2) := by decide +kernel
theorem dX9_best_37 : decode cX9_best 37 = .ok (.iload_n 2, 1) := by decide +kernel
theorem dX9_best_38 : decode cX9_best 38 = .ok (.iload_n 3, 1) := by decide +kernel
theorem dX9_best_39 : decode cX9_best 39 = .ok (.invokevirtual 309, 3) := by decide +kernel
theorem dX9_best_42 : decode cX9_best 42 = .ok (.iconst 0, 1) := by decide +kernel
theorem dX9_best_43 : decode cX9_best 43 = .ok (.istore 6, 2) := by decide +kernel
theorem dX9_best_45 : decode cX9_best 45 = .ok (.iconst 0, 1) := by decide +kernel
theorem dX9_best_46 : decode cX9_best 46 = .ok (.istore 7, 2) := by decide +kernel
theorem dX9_best_48 : decode cX9_best 48 = .ok (.iconst 0, 1) := by decide +kernel
theorem dX9_best_49 : decode cX9_best 49 = .ok (.istore 8, 2) := by decide +kernel
theorem dX9_best_51 : decode cX9_best 51 = .ok (.iload 8, 2) := by decide +kernel
theorem dX9_best_53 : decode cX9_best 53 = .ok (.sipush 1000, 3) := by decide +kernel
theorem dX9_best_56 : decode cX9_best 56 = .ok (.if_icmp .gt 59, 3) := by decide +kernel
theorem dX9_best_59 : decode cX9_best 59 = .ok (.aload 5, 2) := by decide +kernel
theorem dX9_best_61 : decode cX9_best 61 = .ok (.getfield 322, 3) := by decide +kernel
theorem dX9_best_64 : decode cX9_best 64 = .ok (.aload_n 0, 1) := by decide +kernel
theorem dX9_best_65 : decode cX9_best 65 = .ok (.getfield 58, 3) := by decide +kernel
theorem dX9_best_68 : decode cX9_best 68 = .ok (.iload 8, 2) := by decide +kernel
theorem dX9_best_70 : decode cX9_best 70 = .ok (.invokevirtual 313, 3) := by decide +kernel
theorem dX9_best_73 : decode cX9_best 73 = .ok (.imul, 1) := by decide +kernel
theorem dX9_best_74 : decode cX9_best 74 = .ok (.iload 4, 2) := by decide +kernel
theorem dX9_best_76 : decode cX9_best 76 = .ok (.aload_n 0, 1) := by decide +kernel
theorem dX9_best_77 : decode cX9_best 77 = .ok (.getfield 58, 3) := by decide +kernel
theorem dX9_best_80 : decode cX9_best 80 = .ok (.iload 8, 2) := by decide +kernel
theorem dX9_best_82 : decode cX9_best 82 = .ok (.invokevirtual 316, 3) := by decide +kernel
theorem dX9_best_85 : decode cX9_best 85 = .ok (.imul, 1) := by decide +kernel
theorem dX9_best_86 : decode cX9_best 86 = .ok (.iadd, 1) := by decide +kernel
theorem dX9_best_87 : decode cX9_best 87 = .ok (.istore 9, 2) := by decide +kernel
theorem dX9_best_89 : decode cX9_best 89 = .ok (.iload 8, 2) := by decide +kernel
theorem dX9_best_91 : decode cX9_best 91 = .ok (.ifCond .eq 10, 3) := by decide +kernel
theorem dX9_best_94 : decode cX9_best 94 = .ok (.iload 9, 2) := by decide +kernel
theorem dX9_best_96 : decode cX9_best 96 = .ok (.iload 7, 2) := by decide +kernel
theorem dX9_best_98 : decode cX9_best 98 = .ok (.if_icmp .gt 11, 3) := by decide +kernel
theorem dX9_best_101 : decode cX9_best 101 = .ok (.iload 9, 2) := by decide +kernel
theorem dX9_best_103 : decode cX9_best 103 = .ok (.istore 7, 2) := by decide +kernel
theorem dX9_best_105 : decode cX9_best 105 = .ok (.iload 8, 2) := by decide +kernel
theorem dX9_best_107 : decode cX9_best 107 = .ok (.istore 6, 2) := by decide +kernel
theorem dX9_best_109 : decode cX9_best 109 = .ok (.iinc 8 100, 3) := by decide +kernel
theorem dX9_best_112 : decode cX9_best 112 = .ok (.goto (-61), 3) := by decide +kernel
theorem dX9_best_115 : decode cX9_best 115 = .ok (.aload_n 0, 1) := by decide +kernel
theorem dX9_best_116 : decode cX9_best 116 = .ok (.getfield 37, 3) := by decide +kernel
theorem dX9_best_119 : decode cX9_best 119 = .ok (.invokevirtual 174, 3) := by decide +kernel
theorem dX9_best_122 : decode cX9_best 122 = .ok (.aload_n 0, 1) := by decide +kernel
theorem dX9_best_123 : decode cX9_best 123 = .ok (.getfield 37, 3) := by decide +kernel
theorem dX9_best_126 : decode cX9_best 126 = .ok (.iload 7, 2) := by decide +kernel
theorem dX9_best_128 : decode cX9_best 128 = .ok (.invokevirtual 177, 3) := by decide +kernel
theorem dX9_best_131 : decode cX9_best 131 = .ok (.iload 6, 2) := by decide +kernel
theorem dX9_best_133 : decode cX9_best 133 = .ok (.ireturn, 1) := by decide +kernel
theorem dX9_isRun_0 : decode cX9_isRun 0 = .ok (.iload_n 0, 1) := by decide +kernel
theorem dX9_isRun_1 : decode cX9_isRun 1 = .ok (.invokestatic 81, 3) := by decide +kernel
theorem dX9_isRun_4 : decode cX9_isRun 4 = .ok (.ifCond .eq 27, 3) := by decide +kernel
theorem dX9_isRun_7 : decode cX9_isRun 7 = .ok (.iload_n 1, 1) := by decide +kernel
theorem dX9_isRun_8 : decode cX9_isRun 8 = .ok (.invokestatic 81, 3) := by decide +kernel
theorem dX9_isRun_11 : decode cX9_isRun 11 = .ok (.ifCond .eq 20, 3) := by decide +kernel
theorem dX9_isRun_14 : decode cX9_isRun 14 = .ok (.iload_n 0, 1) := by decide +kernel
theorem dX9_isRun_15 : decode cX9_isRun 15 = .ok (.iload_n 1, 1) := by decide +kernel
theorem dX9_isRun_16 : decode cX9_isRun 16 = .ok (.if_icmp .gt 15, 3) := by decide +kernel
theorem dX9_isRun_19 : decode cX9_isRun 19 = .ok (.iload_n 1, 1) := by decide +kernel
theorem dX9_isRun_20 : decode cX9_isRun 20 = .ok (.iload_n 0, 1) := by decide +kernel
theorem dX9_isRun_21 : decode cX9_isRun 21 = .ok (.isub, 1) := by decide +kernel
theorem dX9_isRun_22 : decode cX9_isRun 22 = .ok (.bipush 60, 2) := by decide +kernel
theorem dX9_isRun_24 : decode cX9_isRun 24 = .ok (.if_icmp .ge 7, 3) := by decide +kernel
theorem dX9_isRun_27 : decode cX9_isRun 27 = .ok (.iconst 1, 1) := by decide +kernel
theorem dX9_isRun_28 : decode cX9_isRun 28 = .ok (.goto 4, 3) := by decide +kernel
theorem dX9_isRun_31 : decode cX9_isRun 31 = .ok (.iconst 0, 1) := by decide +kernel
theorem dX9_isRun_32 : decode cX9_isRun 32 = .ok (.ireturn, 1) := by decide +kernel
theorem dX9_watchDays_0 : decode cX9_watchDays 0 = .ok (.aload_n 0, 1) := by decide +kernel
theorem dX9_watchDays_1 : decode cX9_watchDays 1 = .ok (.getfield 58, 3) := by decide +kernel
theorem dX9_watchDays_4 : decode cX9_watchDays 4 = .ok (.invokevirtual 325, 3) := by decide +kernel
theorem dX9_watchDays_7 : decode cX9_watchDays 7 = .ok (.iload_n 2, 1) := by decide +kernel
theorem dX9_watchDays_8 : decode cX9_watchDays 8 = .ok (.istore 4, 2) := by decide +kernel
theorem dX9_watchDays_10 : decode cX9_watchDays 10 = .ok (.iload 4, 2) := by decide +kernel
theorem dX9_watchDays_12 : decode cX9_watchDays 12 = .ok (.iload_n 3, 1) := by decide +kernel
theorem dX9_watchDays_13 : decode cX9_watchDays 13 = .ok (.if_icmp .gt 36, 3) := by decide +kernel
theorem dX9_watchDays_16 : decode cX9_watchDays 16 = .ok (.aload_n 0, 1) := by decide +kernel
theorem dX9_watchDays_17 : decode cX9_watchDays 17 = .ok (.iload 4, 2) := by decide +kernel
theorem dX9_watchDays_19 : decode cX9_watchDays 19 = .ok (.invokevirtual 160, 3) := by decide +kernel
theorem dX9_watchDays_22 : decode cX9_watchDays 22 = .ok (.aload_n 0, 1) := by decide +kernel
theorem dX9_watchDays_23 : decode cX9_watchDays 23 = .ok (.getfield 58, 3) := by decide +kernel
theorem dX9_watchDays_26 : decode cX9_watchDays 26 = .ok (.aload_n 0, 1) := by decide +kernel
theorem dX9_watchDays_27 : decode cX9_watchDays 27 = .ok (.aload_n 1, 1) := by decide +kernel
theorem dX9_watchDays_28 : decode cX9_watchDays 28 = .ok (.iload 4, 2) := by decide +kernel
theorem dX9_watchDays_30 : decode cX9_watchDays 30 = .ok (.invokevirtual 301, 3) := by decide +kernel
theorem dX9_watchDays_33 : decode cX9_watchDays 33 = .ok (.aload_n 0, 1) := by decide +kernel
theorem dX9_watchDays_34 : decode cX9_watchDays 34 = .ok (.aload_n 1, 1) := by decide +kernel
theorem dX9_watchDays_35 : decode cX9_watchDays 35 = .ok (.iload 4, 2) := by decide +kernel
theorem dX9_watchDays_37 : decode cX9_watchDays 37 = .ok (.invokevirtual 326, 3) := by decide +kernel
theorem dX9_watchDays_40 : decode cX9_watchDays 40 = .ok (.invokevirtual 329, 3) := by decide +kernel
theorem dX9_watchDays_43 : decode cX9_watchDays 43 = .ok (.iinc 4 1, 3) := by decide +kernel
theorem dX9_watchDays_46 : decode cX9_watchDays 46 = .ok (.goto (-36), 3) := by decide +kernel
theorem dX9_watchDays_49 : decode cX9_watchDays 49 = .ok (.return_, 1) := by decide +kernel
theorem dX9_openFrom_0 : decode cX9_openFrom 0 = .ok (.iconst 0, 1) := by decide +kernel
theorem dX9_openFrom_1 : decode cX9_openFrom 1 = .ok (.istore_n 3, 1) := by decide +kernel
theorem dX9_openFrom_2 : decode cX9_openFrom 2 = .ok (.iconst 0, 1) := by decide +kernel
theorem dX9_openFrom_3 : decode cX9_openFrom 3 = .ok (.istore 4, 2) := by decide +kernel
theorem dX9_openFrom_5 : decode cX9_openFrom 5 = .ok (.iload 4, 2) := by decide +kernel
theorem dX9_openFrom_7 : decode cX9_openFrom 7 = .ok (.aload_n 0, 1) := by decide +kernel
theorem dX9_openFrom_8 : decode cX9_openFrom 8 = .ok (.getfield 21, 3) := by decide +kernel
theorem dX9_openFrom_11 : decode cX9_openFrom 11 = .ok (.invokevirtual 105, 3) := by decide +kernel
theorem dX9_openFrom_14 : decode cX9_openFrom 14 = .ok (.if_icmp .ge 39, 3) := by decide +kernel
theorem dX9_openFrom_17 : decode cX9_openFrom 17 = .ok (.aload_n 1, 1) := by decide +kernel
theorem dX9_openFrom_18 : decode cX9_openFrom 18 = .ok (.iload 4, 2) := by decide +kernel
theorem dX9_openFrom_20 : decode cX9_openFrom 20 = .ok (.invokevirtual 331, 3) := by decide +kernel
theorem dX9_openFrom_23 : decode cX9_openFrom 23 = .ok (.ifCond .eq 24, 3) := by decide +kernel
theorem dX9_openFrom_26 : decode cX9_openFrom 26 = .ok (.iload_n 3, 1) := by decide +kernel
theorem dX9_openFrom_27 : decode cX9_openFrom 27 = .ok (.aload_n 0, 1) := by decide +kernel
theorem dX9_openFrom_28 : decode cX9_openFrom 28 = .ok (.getfield 21, 3) := by decide +kernel
theorem dX9_openFrom_31 : decode cX9_openFrom 31 = .ok (.iload 4, 2) := by decide +kernel
theorem dX9_openFrom_33 : decode cX9_openFrom 33 = .ok (.invokevirtual 109, 3) := by decide +kernel
theorem dX9_openFrom_36 : decode cX9_openFrom 36 = .ok (.checkcast 113, 3) := by decide +kernel
theorem dX9_openFrom_39 : decode cX9_openFrom 39 = .ok (.iload_n 2, 1) := by decide +kernel
theorem dX9_openFrom_40 : decode cX9_openFrom 40 = .ok (.invokestatic 334, 3) := by decide +kernel
theorem dX9_openFrom_43 : decode cX9_openFrom 43 = .ok (.invokestatic 98, 3) := by decide +kernel
theorem dX9_openFrom_46 : decode cX9_openFrom 46 = .ok (.istore_n 3, 1) := by decide +kernel
theorem dX9_openFrom_47 : decode cX9_openFrom 47 = .ok (.iinc 4 1, 3) := by decide +kernel
theorem dX9_openFrom_50 : decode cX9_openFrom 50 = .ok (.goto (-45), 3) := by decide +kernel
theorem dX9_openFrom_53 : decode cX9_openFrom 53 = .ok (.iload_n 3, 1) := by decide +kernel
theorem dX9_openFrom_54 : decode cX9_openFrom 54 = .ok (.ireturn, 1) := by decide +kernel
theorem dX9_pierOpenFrom_0 : decode cX9_pierOpenFrom 0 = .ok (.aload_n 0, 1) := by decide +kernel
theorem dX9_pierOpenFrom_1 : decode cX9_pierOpenFrom 1 = .ok (.getfield 171, 3) := by decide +kernel
theorem dX9_pierOpenFrom_4 : decode cX9_pierOpenFrom 4 = .ok (.invokestatic 180, 3) := by decide +kernel
theorem dX9_pierOpenFrom_7 : decode cX9_pierOpenFrom 7 = .ok (.istore_n 2, 1) := by decide +kernel
theorem dX9_pierOpenFrom_8 : decode cX9_pierOpenFrom 8 = .ok (.iload_n 2, 1) := by decide +kernel
theorem dX9_pierOpenFrom_9 : decode cX9_pierOpenFrom 9 = .ok (.ifCond .ne 7, 3) := by decide +kernel
theorem dX9_pierOpenFrom_12 : decode cX9_pierOpenFrom 12 = .ok (.sipush 1001, 3) := by decide +kernel
theorem dX9_pierOpenFrom_15 : decode cX9_pierOpenFrom 15 = .ok (.ireturn, 1) := by decide +kernel
theorem dX9_pierOpenFrom_16 : decode cX9_pierOpenFrom 16 = .ok (.iload_n 2, 1) := by decide +kernel
theorem dX9_pierOpenFrom_17 : decode cX9_pierOpenFrom 17 = .ok (.aload_n 0, 1) := by decide +kernel
theorem dX9_pierOpenFrom_18 : decode cX9_pierOpenFrom 18 = .ok (.iload_n 1, 1) := by decide +kernel
theorem dX9_pierOpenFrom_19 : decode cX9_pierOpenFrom 19 = .ok (.iconst 0, 1) := by decide +kernel
theorem dX9_pierOpenFrom_20 : decode cX9_pierOpenFrom 20 = .ok (.invokevirtual 237, 3) := by decide +kernel
theorem dX9_pierOpenFrom_23 : decode cX9_pierOpenFrom 23 = .ok (.invokestatic 180, 3) := by decide +kernel
theorem dX9_pierOpenFrom_26 : decode cX9_pierOpenFrom 26 = .ok (.isub, 1) := by decide +kernel
theorem dX9_pierOpenFrom_27 : decode cX9_pierOpenFrom 27 = .ok (.istore_n 3, 1) := by decide +kernel
theorem dX9_pierOpenFrom_28 : decode cX9_pierOpenFrom 28 = .ok (.sipush 1000, 3) := by decide +kernel
theorem dX9_pierOpenFrom_31 : decode cX9_pierOpenFrom 31 = .ok (.iload_n 3, 1) := by decide +kernel
theorem dX9_pierOpenFrom_32 : decode cX9_pierOpenFrom 32 = .ok (.imul, 1) := by decide +kernel
theorem dX9_pierOpenFrom_33 : decode cX9_pierOpenFrom 33 = .ok (.iload_n 2, 1) := by decide +kernel
theorem dX9_pierOpenFrom_34 : decode cX9_pierOpenFrom 34 = .ok (.iadd, 1) := by decide +kernel
theorem dX9_pierOpenFrom_35 : decode cX9_pierOpenFrom 35 = .ok (.iconst 1, 1) := by decide +kernel
theorem dX9_pierOpenFrom_36 : decode cX9_pierOpenFrom 36 = .ok (.isub, 1) := by decide +kernel
theorem dX9_pierOpenFrom_37 : decode cX9_pierOpenFrom 37 = .ok (.iload_n 2, 1) := by decide +kernel
theorem dX9_pierOpenFrom_38 : decode cX9_pierOpenFrom 38 = .ok (.idiv, 1) := by decide +kernel
theorem dX9_pierOpenFrom_39 : decode cX9_pierOpenFrom 39 = .ok (.ireturn, 1) := by decide +kernel
theorem dX9_worstByTruth_0 : decode cX9_worstByTruth 0 = .ok (.iconst 0, 1) := by decide +kernel
theorem dX9_worstByTruth_1 : decode cX9_worstByTruth 1 = .ok (.istore_n 3, 1) := by decide +kernel
theorem dX9_worstByTruth_2 : decode cX9_worstByTruth 2 = .ok (.iconst 0, 1) := by decide +kernel
theorem dX9_worstByTruth_3 : decode cX9_worstByTruth 3 = .ok (.istore 4, 2) := by decide +kernel
theorem dX9_worstByTruth_5 : decode cX9_worstByTruth 5 = .ok (.iload 4, 2) := by decide +kernel
theorem dX9_worstByTruth_7 : decode cX9_worstByTruth 7 = .ok (.aload_n 0, 1) := by decide +kernel
theorem dX9_worstByTruth_8 : decode cX9_worstByTruth 8 = .ok (.getfield 21, 3) := by decide +kernel
theorem dX9_worstByTruth_11 : decode cX9_worstByTruth 11 = .ok (.invokevirtual 105, 3) := by decide +kernel
theorem dX9_worstByTruth_14 : decode cX9_worstByTruth 14 = .ok (.if_icmp .ge 53, 3) := by decide +kernel
theorem dX9_worstByTruth_17 : decode cX9_worstByTruth 17 = .ok (.aload_n 1, 1) := by decide +kernel
theorem dX9_worstByTruth_18 : decode cX9_worstByTruth 18 = .ok (.iload 4, 2) := by decide +kernel
theorem dX9_worstByTruth_20 : decode cX9_worstByTruth 20 = .ok (.invokevirtual 331, 3) := by decide +kernel
theorem dX9_worstByTruth_23 : decode cX9_worstByTruth 23 = .ok (.ifCond .eq 38, 3) := by decide +kernel
theorem dX9_worstByTruth_26 : decode cX9_worstByTruth 26 = .ok (.aload_n 0, 1) := by decide +kernel
theorem dX9_worstByTruth_27 : decode cX9_worstByTruth 27 = .ok (.getfield 21, 3) := by decide +kernel
theorem dX9_worstByTruth_30 : decode cX9_worstByTruth 30 = .ok (.iload 4, 2) := by decide +kernel
theorem dX9_worstByTruth_32 : decode cX9_worstByTruth 32 = .ok (.invokevirtual 109, 3) := by decide +kernel
theorem dX9_worstByTruth_35 : decode cX9_worstByTruth 35 = .ok (.checkcast 113, 3) := by decide +kernel
theorem dX9_worstByTruth_38 : decode cX9_worstByTruth 38 = .ok (.astore 5, 2) := by decide +kernel
theorem dX9_worstByTruth_40 : decode cX9_worstByTruth 40 = .ok (.aload 5, 2) := by decide +kernel
theorem dX9_worstByTruth_42 : decode cX9_worstByTruth 42 = .ok (.iload_n 2, 1) := by decide +kernel
theorem dX9_worstByTruth_43 : decode cX9_worstByTruth 43 = .ok (.invokevirtual 141, 3) := by decide +kernel
theorem dX9_worstByTruth_46 : decode cX9_worstByTruth 46 = .ok (.iload_n 3, 1) := by decide +kernel
theorem dX9_worstByTruth_47 : decode cX9_worstByTruth 47 = .ok (.aload 5, 2) := by decide +kernel
theorem dX9_worstByTruth_49 : decode cX9_worstByTruth 49 = .ok (.aload 5, 2) := by decide +kernel
theorem dX9_worstByTruth_51 : decode cX9_worstByTruth 51 = .ok (.getfield 294, 3) := by decide +kernel
theorem dX9_worstByTruth_54 : decode cX9_worstByTruth 54 = .ok (.invokevirtual 154, 3) := by decide +kernel
theorem dX9_worstByTruth_57 : decode cX9_worstByTruth 57 = .ok (.invokestatic 98, 3) := by decide +kernel
theorem dX9_worstByTruth_60 : decode cX9_worstByTruth 60 = .ok (.istore_n 3, 1) := by decide +kernel
theorem dX9_worstByTruth_61 : decode cX9_worstByTruth 61 = .ok (.iinc 4 1, 3) := by decide +kernel
theorem dX9_worstByTruth_64 : decode cX9_worstByTruth 64 = .ok (.goto (-59), 3) := by decide +kernel
theorem dX9_worstByTruth_67 : decode cX9_worstByTruth 67 = .ok (.iload_n 3, 1) := by decide +kernel
theorem dX9_worstByTruth_68 : decode cX9_worstByTruth 68 = .ok (.ireturn, 1) := by decide +kernel
theorem dX9_offer_0 : decode cX9_offer 0 = .ok (.aload_n 0, 1) := by decide +kernel
theorem dX9_offer_1 : decode cX9_offer 1 = .ok (.iload_n 1, 1) := by decide +kernel
theorem dX9_offer_2 : decode cX9_offer 2 = .ok (.invokevirtual 126, 3) := by decide +kernel
theorem dX9_offer_5 : decode cX9_offer 5 = .ok (.ifnull 36, 3) := by decide +kernel
theorem dX9_offer_8 : decode cX9_offer 8 = .ok (.iload_n 2, 1) := by decide +kernel
theorem dX9_offer_9 : decode cX9_offer 9 = .ok (.iconst 1, 1) := by decide +kernel
theorem dX9_offer_10 : decode cX9_offer 10 = .ok (.bipush 99, 2) := by decide +kernel
theorem dX9_offer_12 : decode cX9_offer 12 = .ok (.invokestatic 85, 3) := by decide +kernel
theorem dX9_offer_15 : decode cX9_offer 15 = .ok (.ifCond .eq 26, 3) := by decide +kernel
theorem dX9_offer_18 : decode cX9_offer 18 = .ok (.iload_n 3, 1) := by decide +kernel
theorem dX9_offer_19 : decode cX9_offer 19 = .ok (.iconst 1, 1) := by decide +kernel
theorem dX9_offer_20 : decode cX9_offer 20 = .ok (.sipush 999, 3) := by decide +kernel
theorem dX9_offer_23 : decode cX9_offer 23 = .ok (.invokestatic 85, 3) := by decide +kernel
theorem dX9_offer_26 : decode cX9_offer 26 = .ok (.ifCond .eq 15, 3) := by decide +kernel
theorem dX9_offer_29 : decode cX9_offer 29 = .ok (.aload_n 0, 1) := by decide +kernel
theorem dX9_offer_30 : decode cX9_offer 30 = .ok (.getfield 31, 3) := by decide +kernel
theorem dX9_offer_33 : decode cX9_offer 33 = .ok (.invokevirtual 105, 3) := by decide +kernel
theorem dX9_offer_36 : decode cX9_offer 36 = .ok (.bipush 10, 2) := by decide +kernel
theorem dX9_offer_38 : decode cX9_offer 38 = .ok (.if_icmp .lt 5, 3) := by decide +kernel
theorem dX9_offer_41 : decode cX9_offer 41 = .ok (.iconst (-1), 1) := by decide +kernel
theorem dX9_offer_42 : decode cX9_offer 42 = .ok (.ireturn, 1) := by decide +kernel
theorem dX9_offer_43 : decode cX9_offer 43 = .ok (.aload_n 0, 1) := by decide +kernel
theorem dX9_offer_44 : decode cX9_offer 44 = .ok (.getfield 31, 3) := by decide +kernel
theorem dX9_offer_47 : decode cX9_offer 47 = .ok (.new 337, 3) := by decide +kernel
theorem dX9_offer_50 : decode cX9_offer 50 = .ok (.dup, 1) := by decide +kernel
theorem dX9_offer_51 : decode cX9_offer 51 = .ok (.iload_n 1, 1) := by decide +kernel
theorem dX9_offer_52 : decode cX9_offer 52 = .ok (.iload_n 2, 1) := by decide +kernel
theorem dX9_offer_53 : decode cX9_offer 53 = .ok (.iload_n 3, 1) := by decide +kernel
theorem dX9_offer_54 : decode cX9_offer 54 = .ok (.invokespecial 339, 3) := by decide +kernel
theorem dX9_offer_57 : decode cX9_offer 57 = .ok (.invokevirtual 122, 3) := by decide +kernel
theorem dX9_offer_60 : decode cX9_offer 60 = .ok (.pop, 1) := by decide +kernel
theorem dX9_offer_61 : decode cX9_offer 61 = .ok (.aload_n 0, 1) := by decide +kernel
theorem dX9_offer_62 : decode cX9_offer 62 = .ok (.getfield 31, 3) := by decide +kernel
theorem dX9_offer_65 : decode cX9_offer 65 = .ok (.invokevirtual 105, 3) := by decide +kernel
theorem dX9_offer_68 : decode cX9_offer 68 = .ok (.ireturn, 1) := by decide +kernel
theorem dX9_choose_0 : decode cX9_choose 0 = .ok (.iload_n 1, 1) := by decide +kernel
theorem dX9_choose_1 : decode cX9_choose 1 = .ok (.iconst 0, 1) := by decide +kernel
theorem dX9_choose_2 : decode cX9_choose 2 = .ok (.sipush 9999, 3) := by decide +kernel
theorem dX9_choose_5 : decode cX9_choose 5 = .ok (.invokestatic 85, 3) := by decide +kernel
theorem dX9_choose_8 : decode cX9_choose 8 = .ok (.ifCond .eq 10, 3) := by decide +kernel
theorem dX9_choose_11 : decode cX9_choose 11 = .ok (.iload_n 2, 1) := by decide +kernel
theorem dX9_choose_12 : decode cX9_choose 12 = .ok (.invokestatic 81, 3) := by decide +kernel
theorem dX9_choose_15 : decode cX9_choose 15 = .ok (.ifCond .ne 5, 3) := by decide +kernel
theorem dX9_choose_18 : decode cX9_choose 18 = .ok (.iconst (-1), 1) := by decide +kernel
theorem dX9_choose_19 : decode cX9_choose 19 = .ok (.ireturn, 1) := by decide +kernel
theorem dX9_choose_20 : decode cX9_choose 20 = .ok (.aload_n 0, 1) := by decide +kernel
theorem dX9_choose_21 : decode cX9_choose 21 = .ok (.iload_n 2, 1) := by decide +kernel
theorem dX9_choose_22 : decode cX9_choose 22 = .ok (.invokevirtual 342, 3) := by decide +kernel
theorem dX9_choose_25 : decode cX9_choose 25 = .ok (.iconst (-1), 1) := by decide +kernel
theorem dX9_choose_26 : decode cX9_choose 26 = .ok (.istore_n 3, 1) := by decide +kernel
theorem dX9_choose_27 : decode cX9_choose 27 = .ok (.iconst 0, 1) := by decide +kernel
theorem dX9_choose_28 : decode cX9_choose 28 = .ok (.istore 4, 2) := by decide +kernel
theorem dX9_choose_30 : decode cX9_choose 30 = .ok (.iconst 0, 1) := by decide +kernel
theorem dX9_choose_31 : decode cX9_choose 31 = .ok (.istore 5, 2) := by decide +kernel
theorem dX9_choose_33 : decode cX9_choose 33 = .ok (.iconst 0, 1) := by decide +kernel
theorem dX9_choose_34 : decode cX9_choose 34 = .ok (.istore 6, 2) := by decide +kernel
theorem dX9_choose_36 : decode cX9_choose 36 = .ok (.iload 6, 2) := by decide +kernel
theorem dX9_choose_38 : decode cX9_choose 38 = .ok (.iconst 1, 1) := by decide +kernel
theorem dX9_choose_39 : decode cX9_choose 39 = .ok (.aload_n 0, 1) := by decide +kernel
theorem dX9_choose_40 : decode cX9_choose 40 = .ok (.getfield 31, 3) := by decide +kernel
theorem dX9_choose_43 : decode cX9_choose 43 = .ok (.invokevirtual 105, 3) := by decide +kernel
theorem dX9_choose_46 : decode cX9_choose 46 = .ok (.ishl, 1) := by decide +kernel
theorem dX9_choose_47 : decode cX9_choose 47 = .ok (.if_icmp .ge 61, 3) := by decide +kernel
theorem dX9_choose_50 : decode cX9_choose 50 = .ok (.aload_n 0, 1) := by decide +kernel
theorem dX9_choose_51 : decode cX9_choose 51 = .ok (.iload 6, 2) := by decide +kernel
theorem dX9_choose_53 : decode cX9_choose 53 = .ok (.invokevirtual 345, 3) := by decide +kernel
theorem dX9_choose_56 : decode cX9_choose 56 = .ok (.istore 7, 2) := by decide +kernel
theorem dX9_choose_58 : decode cX9_choose 58 = .ok (.iload 7, 2) := by decide +kernel
theorem dX9_choose_60 : decode cX9_choose 60 = .ok (.iload_n 1, 1) := by decide +kernel
theorem dX9_choose_61 : decode cX9_choose 61 = .ok (.if_icmp .gt 41, 3) := by decide +kernel
theorem dX9_choose_64 : decode cX9_choose 64 = .ok (.aload_n 0, 1) := by decide +kernel
theorem dX9_choose_65 : decode cX9_choose 65 = .ok (.iload 6, 2) := by decide +kernel
theorem dX9_choose_67 : decode cX9_choose 67 = .ok (.invokevirtual 348, 3) := by decide +kernel
theorem dX9_choose_70 : decode cX9_choose 70 = .ok (.istore 8, 2) := by decide +kernel
theorem dX9_choose_72 : decode cX9_choose 72 = .ok (.iload 8, 2) := by decide +kernel
theorem dX9_choose_74 : decode cX9_choose 74 = .ok (.iload_n 3, 1) := by decide +kernel
theorem dX9_choose_75 : decode cX9_choose 75 = .ok (.if_icmp .gt 16, 3) := by decide +kernel
theorem dX9_choose_78 : decode cX9_choose 78 = .ok (.iload 8, 2) := by decide +kernel
theorem dX9_choose_80 : decode cX9_choose 80 = .ok (.iload_n 3, 1) := by decide +kernel
theorem dX9_choose_81 : decode cX9_choose 81 = .ok (.if_icmp .ne 21, 3) := by decide +kernel
theorem dX9_choose_84 : decode cX9_choose 84 = .ok (.iload 7, 2) := by decide +kernel
theorem dX9_choose_86 : decode cX9_choose 86 = .ok (.iload 4, 2) := by decide +kernel
theorem dX9_choose_88 : decode cX9_choose 88 = .ok (.if_icmp .ge 14, 3) := by decide +kernel
theorem dX9_choose_91 : decode cX9_choose 91 = .ok (.iload 8, 2) := by decide +kernel
theorem dX9_choose_93 : decode cX9_choose 93 = .ok (.istore_n 3, 1) := by decide +kernel
theorem dX9_choose_94 : decode cX9_choose 94 = .ok (.iload 7, 2) := by decide +kernel
theorem dX9_choose_96 : decode cX9_choose 96 = .ok (.istore 4, 2) := by decide +kernel
theorem dX9_choose_98 : decode cX9_choose 98 = .ok (.iload 6, 2) := by decide +kernel
theorem dX9_choose_100 : decode cX9_choose 100 = .ok (.istore 5, 2) := by decide +kernel
theorem dX9_choose_102 : decode cX9_choose 102 = .ok (.iinc 6 1, 3) := by decide +kernel
theorem dX9_choose_105 : decode cX9_choose 105 = .ok (.goto (-69), 3) := by decide +kernel
theorem dX9_choose_108 : decode cX9_choose 108 = .ok (.aload_n 0, 1) := by decide +kernel
theorem dX9_choose_109 : decode cX9_choose 109 = .ok (.getfield 37, 3) := by decide +kernel
theorem dX9_choose_112 : decode cX9_choose 112 = .ok (.invokevirtual 174, 3) := by decide +kernel
theorem dX9_choose_115 : decode cX9_choose 115 = .ok (.aload_n 0, 1) := by decide +kernel
theorem dX9_choose_116 : decode cX9_choose 116 = .ok (.getfield 37, 3) := by decide +kernel
theorem dX9_choose_119 : decode cX9_choose 119 = .ok (.iload 5, 2) := by decide +kernel
theorem dX9_choose_121 : decode cX9_choose 121 = .ok (.invokevirtual 177, 3) := by decide +kernel
theorem dX9_choose_124 : decode cX9_choose 124 = .ok (.aload_n 0, 1) := by decide +kernel
theorem dX9_choose_125 : decode cX9_choose 125 = .ok (.getfield 37, 3) := by decide +kernel
theorem dX9_choose_128 : decode cX9_choose 128 = .ok (.iload 4, 2) := by decide +kernel
theorem dX9_choose_130 : decode cX9_choose 130 = .ok (.invokevirtual 177, 3) := by decide +kernel
theorem dX9_choose_133 : decode cX9_choose 133 = .ok (.iload_n 3, 1) := by decide +kernel
theorem dX9_choose_134 : decode cX9_choose 134 = .ok (.ireturn, 1) := by decide +kernel
theorem dX9_findLacking_0 : decode cX9_findLacking 0 = .ok (.aload_n 0, 1) := by decide +kernel
theorem dX9_findLacking_1 : decode cX9_findLacking 1 = .ok (.aload_n 0, 1) := by decide +kernel
theorem dX9_findLacking_2 : decode cX9_findLacking 2 = .ok (.getfield 78, 3) := by decide +kernel
theorem dX9_findLacking_5 : decode cX9_findLacking 5 = .ok (.invokevirtual 160, 3) := by decide +kernel
theorem dX9_findLacking_8 : decode cX9_findLacking 8 = .ok (.iconst 0, 1) := by decide +kernel
theorem dX9_findLacking_9 : decode cX9_findLacking 9 = .ok (.istore_n 2, 1) := by decide +kernel
theorem dX9_findLacking_10 : decode cX9_findLacking 10 = .ok (.iload_n 2, 1) := by decide +kernel
theorem dX9_findLacking_11 : decode cX9_findLacking 11 = .ok (.aload_n 0, 1) := by decide +kernel
theorem dX9_findLacking_12 : decode cX9_findLacking 12 = .ok (.getfield 21, 3) := by decide +kernel
theorem dX9_findLacking_15 : decode cX9_findLacking 15 = .ok (.invokevirtual 105, 3) := by decide +kernel
theorem dX9_findLacking_18 : decode cX9_findLacking 18 = .ok (.if_icmp .ge 66, 3) := by decide +kernel
theorem dX9_findLacking_21 : decode cX9_findLacking 21 = .ok (.iload_n 2, 1) := by decide +kernel
theorem dX9_findLacking_22 : decode cX9_findLacking 22 = .ok (.aload_n 0, 1) := by decide +kernel
theorem dX9_findLacking_23 : decode cX9_findLacking 23 = .ok (.getfield 65, 3) := by decide +kernel
theorem dX9_findLacking_26 : decode cX9_findLacking 26 = .ok (.arraylength, 1) := by decide +kernel
theorem dX9_findLacking_27 : decode cX9_findLacking 27 = .ok (.if_icmp .ge 57, 3) := by decide +kernel
theorem dX9_findLacking_30 : decode cX9_findLacking 30 = .ok (.aload_n 0, 1) := by decide +kernel
theorem dX9_findLacking_31 : decode cX9_findLacking 31 = .ok (.getfield 21, 3) := by decide +kernel
theorem dX9_findLacking_34 : decode cX9_findLacking 34 = .ok (.iload_n 2, 1) := by decide +kernel
theorem dX9_findLacking_35 : decode cX9_findLacking 35 = .ok (.invokevirtual 109, 3) := by decide +kernel
theorem dX9_findLacking_38 : decode cX9_findLacking 38 = .ok (.checkcast 113, 3) := by decide +kernel
theorem dX9_findLacking_41 : decode cX9_findLacking 41 = .ok (.astore_n 3, 1) := by decide +kernel
theorem dX9_findLacking_42 : decode cX9_findLacking 42 = .ok (.aload_n 0, 1) := by decide +kernel
theorem dX9_findLacking_43 : decode cX9_findLacking 43 = .ok (.getfield 65, 3) := by decide +kernel
theorem dX9_findLacking_46 : decode cX9_findLacking 46 = .ok (.iload_n 2, 1) := by decide +kernel
theorem dX9_findLacking_47 : decode cX9_findLacking 47 = .ok (.aload_n 3, 1) := by decide +kernel
theorem dX9_findLacking_48 : decode cX9_findLacking 48 = .ok (.getfield 171, 3) := by decide +kernel
theorem dX9_findLacking_51 : decode cX9_findLacking 51 = .ok (.lconst 0, 1) := by decide +kernel
theorem dX9_findLacking_52 : decode cX9_findLacking 52 = .ok (.lcmp, 1) := by decide +kernel
theorem dX9_findLacking_53 : decode cX9_findLacking 53 = .ok (.ifCond .ne 9, 3) := by decide +kernel
theorem dX9_findLacking_56 : decode cX9_findLacking 56 = .ok (.sipush 1001, 3) := by decide +kernel
theorem dX9_findLacking_59 : decode cX9_findLacking 59 = .ok (.goto 18, 3) := by decide +kernel
theorem dX9_findLacking_62 : decode cX9_findLacking 62 = .ok (.aload_n 3, 1) := by decide +kernel
theorem dX9_findLacking_63 : decode cX9_findLacking 63 = .ok (.iload_n 1, 1) := by decide +kernel
theorem dX9_findLacking_64 : decode cX9_findLacking 64 = .ok (.invokevirtual 351, 3) := by decide +kernel
theorem dX9_findLacking_67 : decode cX9_findLacking 67 = .ok (.aload_n 3, 1) := by decide +kernel
theorem dX9_findLacking_68 : decode cX9_findLacking 68 = .ok (.getfield 354, 3) := by decide +kernel
theorem dX9_findLacking_71 : decode cX9_findLacking 71 = .ok (.isub, 1) := by decide +kernel
theorem dX9_findLacking_72 : decode cX9_findLacking 72 = .ok (.aload_n 3, 1) := by decide +kernel
theorem dX9_findLacking_73 : decode cX9_findLacking 73 = .ok (.getfield 357, 3) := by decide +kernel
theorem dX9_findLacking_76 : decode cX9_findLacking 76 = .ok (.isub, 1) := by decide +kernel
theorem dX9_findLacking_77 : decode cX9_findLacking 77 = .ok (.iastore, 1) := by decide +kernel
theorem dX9_findLacking_78 : decode cX9_findLacking 78 = .ok (.iinc 2 1, 3) := by decide +kernel
theorem dX9_findLacking_81 : decode cX9_findLacking 81 = .ok (.goto (-71), 3) := by decide +kernel
theorem dX9_findLacking_84 : decode cX9_findLacking 84 = .ok (.return_, 1) := by decide +kernel
theorem dX9_costOf_0 : decode cX9_costOf 0 = .ok (.iconst 0, 1) := by decide +kernel
theorem dX9_costOf_1 : decode cX9_costOf 1 = .ok (.istore_n 2, 1) := by decide +kernel
theorem dX9_costOf_2 : decode cX9_costOf 2 = .ok (.iconst 0, 1) := by decide +kernel
theorem dX9_costOf_3 : decode cX9_costOf 3 = .ok (.istore_n 3, 1) := by decide +kernel
theorem dX9_costOf_4 : decode cX9_costOf 4 = .ok (.iload_n 3, 1) := by decide +kernel
theorem dX9_costOf_5 : decode cX9_costOf 5 = .ok (.aload_n 0, 1) := by decide +kernel
theorem dX9_costOf_6 : decode cX9_costOf 6 = .ok (.getfield 31, 3) := by decide +kernel
theorem dX9_costOf_9 : decode cX9_costOf 9 = .ok (.invokevirtual 105, 3) := by decide +kernel
theorem dX9_costOf_12 : decode cX9_costOf 12 = .ok (.if_icmp .ge 34, 3) := by decide +kernel
theorem dX9_costOf_15 : decode cX9_costOf 15 = .ok (.iload_n 1, 1) := by decide +kernel
theorem dX9_costOf_16 : decode cX9_costOf 16 = .ok (.iload_n 3, 1) := by decide +kernel
theorem dX9_costOf_17 : decode cX9_costOf 17 = .ok (.ishr, 1) := by decide +kernel
theorem dX9_costOf_18 : decode cX9_costOf 18 = .ok (.iconst 1, 1) := by decide +kernel
theorem dX9_costOf_19 : decode cX9_costOf 19 = .ok (.iand, 1) := by decide +kernel
theorem dX9_costOf_20 : decode cX9_costOf 20 = .ok (.ifCond .eq 20, 3) := by decide +kernel
theorem dX9_costOf_23 : decode cX9_costOf 23 = .ok (.iload_n 2, 1) := by decide +kernel
theorem dX9_costOf_24 : decode cX9_costOf 24 = .ok (.aload_n 0, 1) := by decide +kernel
theorem dX9_costOf_25 : decode cX9_costOf 25 = .ok (.getfield 31, 3) := by decide +kernel
theorem dX9_costOf_28 : decode cX9_costOf 28 = .ok (.iload_n 3, 1) := by decide +kernel
theorem dX9_costOf_29 : decode cX9_costOf 29 = .ok (.invokevirtual 109, 3) := by decide +kernel
theorem dX9_costOf_32 : decode cX9_costOf 32 = .ok (.checkcast 337, 3) := by decide +kernel
theorem dX9_costOf_35 : decode cX9_costOf 35 = .ok (.getfield 360, 3) := by decide +kernel
theorem dX9_costOf_38 : decode cX9_costOf 38 = .ok (.iadd, 1) := by decide +kernel
theorem dX9_costOf_39 : decode cX9_costOf 39 = .ok (.istore_n 2, 1) := by decide +kernel
theorem dX9_costOf_40 : decode cX9_costOf 40 = .ok (.iinc 3 1, 3) := by decide +kernel
theorem dX9_costOf_43 : decode cX9_costOf 43 = .ok (.goto (-39), 3) := by decide +kernel
theorem dX9_costOf_46 : decode cX9_costOf 46 = .ok (.iload_n 2, 1) := by decide +kernel
theorem dX9_costOf_47 : decode cX9_costOf 47 = .ok (.ireturn, 1) := by decide +kernel
theorem dX9_sureWith_0 : decode cX9_sureWith 0 = .ok (.aload_n 0, 1) := by decide +kernel
theorem dX9_sureWith_1 : decode cX9_sureWith 1 = .ok (.getfield 68, 3) := by decide +kernel
theorem dX9_sureWith_4 : decode cX9_sureWith 4 = .ok (.iconst 0, 1) := by decide +kernel
theorem dX9_sureWith_5 : decode cX9_sureWith 5 = .ok (.invokestatic 201, 3) := by decide +kernel
theorem dX9_sureWith_8 : decode cX9_sureWith 8 = .ok (.iconst 0, 1) := by decide +kernel
theorem dX9_sureWith_9 : decode cX9_sureWith 9 = .ok (.istore_n 2, 1) := by decide +kernel
theorem dX9_sureWith_10 : decode cX9_sureWith 10 = .ok (.iload_n 2, 1) := by decide +kernel
theorem dX9_sureWith_11 : decode cX9_sureWith 11 = .ok (.aload_n 0, 1) := by decide +kernel
theorem dX9_sureWith_12 : decode cX9_sureWith 12 = .ok (.getfield 31, 3) := by decide +kernel
theorem dX9_sureWith_15 : decode cX9_sureWith 15 = .ok (.invokevirtual 105, 3) := by decide +kernel
theorem dX9_sureWith_18 : decode cX9_sureWith 18 = .ok (.if_icmp .ge 45, 3) := by decide +kernel
theorem dX9_sureWith_21 : decode cX9_sureWith 21 = .ok (.iload_n 1, 1) := by decide +kernel
theorem dX9_sureWith_22 : decode cX9_sureWith 22 = .ok (.iload_n 2, 1) := by decide +kernel
theorem dX9_sureWith_23 : decode cX9_sureWith 23 = .ok (.ishr, 1) := by decide +kernel
theorem dX9_sureWith_24 : decode cX9_sureWith 24 = .ok (.iconst 1, 1) := by decide +kernel
theorem dX9_sureWith_25 : decode cX9_sureWith 25 = .ok (.iand, 1) := by decide +kernel
theorem dX9_sureWith_26 : decode cX9_sureWith 26 = .ok (.ifCond .eq 31, 3) := by decide +kernel
theorem dX9_sureWith_29 : decode cX9_sureWith 29 = .ok (.aload_n 0, 1) := by decide +kernel
theorem dX9_sureWith_30 : decode cX9_sureWith 30 = .ok (.getfield 31, 3) := by decide +kernel
theorem dX9_sureWith_33 : decode cX9_sureWith 33 = .ok (.iload_n 2, 1) := by decide +kernel
theorem dX9_sureWith_34 : decode cX9_sureWith 34 = .ok (.invokevirtual 109, 3) := by decide +kernel
theorem dX9_sureWith_37 : decode cX9_sureWith 37 = .ok (.checkcast 337, 3) := by decide +kernel
theorem dX9_sureWith_40 : decode cX9_sureWith 40 = .ok (.astore_n 3, 1) := by decide +kernel
theorem dX9_sureWith_41 : decode cX9_sureWith 41 = .ok (.aload_n 0, 1) := by decide +kernel
theorem dX9_sureWith_42 : decode cX9_sureWith 42 = .ok (.getfield 68, 3) := by decide +kernel
theorem dX9_sureWith_45 : decode cX9_sureWith 45 = .ok (.aload_n 3, 1) := by decide +kernel
theorem dX9_sureWith_46 : decode cX9_sureWith 46 = .ok (.getfield 363, 3) := by decide +kernel
theorem dX9_sureWith_49 : decode cX9_sureWith 49 = .ok (.dup2, 1) := by decide +kernel
theorem dX9_sureWith_50 : decode cX9_sureWith 50 = .ok (.iaload, 1) := by decide +kernel
theorem dX9_sureWith_51 : decode cX9_sureWith 51 = .ok (.aload_n 3, 1) := by decide +kernel
theorem dX9_sureWith_52 : decode cX9_sureWith 52 = .ok (.getfield 365, 3) := by decide +kernel
theorem dX9_sureWith_55 : decode cX9_sureWith 55 = .ok (.iadd, 1) := by decide +kernel
theorem dX9_sureWith_56 : decode cX9_sureWith 56 = .ok (.iastore, 1) := by decide +kernel
theorem dX9_sureWith_57 : decode cX9_sureWith 57 = .ok (.iinc 2 1, 3) := by decide +kernel
theorem dX9_sureWith_60 : decode cX9_sureWith 60 = .ok (.goto (-50), 3) := by decide +kernel
theorem dX9_sureWith_63 : decode cX9_sureWith 63 = .ok (.iconst 0, 1) := by decide +kernel
theorem dX9_sureWith_64 : decode cX9_sureWith 64 = .ok (.istore_n 2, 1) := by decide +kernel
theorem dX9_sureWith_65 : decode cX9_sureWith 65 = .ok (.iconst 0, 1) := by decide +kernel
theorem dX9_sureWith_66 : decode cX9_sureWith 66 = .ok (.istore_n 3, 1) := by decide +kernel
theorem dX9_sureWith_67 : decode cX9_sureWith 67 = .ok (.iload_n 3, 1) := by decide +kernel
theorem dX9_sureWith_68 : decode cX9_sureWith 68 = .ok (.aload_n 0, 1) := by decide +kernel
theorem dX9_sureWith_69 : decode cX9_sureWith 69 = .ok (.getfield 21, 3) := by decide +kernel
theorem dX9_sureWith_72 : decode cX9_sureWith 72 = .ok (.invokevirtual 105, 3) := by decide +kernel
theorem dX9_sureWith_75 : decode cX9_sureWith 75 = .ok (.if_icmp .ge 36, 3) := by decide +kernel
theorem dX9_sureWith_78 : decode cX9_sureWith 78 = .ok (.iload_n 3, 1) := by decide +kernel
theorem dX9_sureWith_79 : decode cX9_sureWith 79 = .ok (.aload_n 0, 1) := by decide +kernel
theorem dX9_sureWith_80 : decode cX9_sureWith 80 = .ok (.getfield 65, 3) := by decide +kernel
theorem dX9_sureWith_83 : decode cX9_sureWith 83 = .ok (.arraylength, 1) := by decide +kernel
theorem dX9_sureWith_84 : decode cX9_sureWith 84 = .ok (.if_icmp .ge 27, 3) := by decide +kernel
theorem dX9_sureWith_87 : decode cX9_sureWith 87 = .ok (.aload_n 0, 1) := by decide +kernel
theorem dX9_sureWith_88 : decode cX9_sureWith 88 = .ok (.getfield 68, 3) := by decide +kernel
theorem dX9_sureWith_91 : decode cX9_sureWith 91 = .ok (.iload_n 3, 1) := by decide +kernel
theorem dX9_sureWith_92 : decode cX9_sureWith 92 = .ok (.iaload, 1) := by decide +kernel
theorem dX9_sureWith_93 : decode cX9_sureWith 93 = .ok (.aload_n 0, 1) := by decide +kernel
theorem dX9_sureWith_94 : decode cX9_sureWith 94 = .ok (.getfield 65, 3) := by decide +kernel
theorem dX9_sureWith_97 : decode cX9_sureWith 97 = .ok (.iload_n 3, 1) := by decide +kernel
theorem dX9_sureWith_98 : decode cX9_sureWith 98 = .ok (.iaload, 1) := by decide +kernel
theorem dX9_sureWith_99 : decode cX9_sureWith 99 = .ok (.if_icmp .lt 6, 3) := by decide +kernel
theorem dX9_sureWith_102 : decode cX9_sureWith 102 = .ok (.iinc 2 1, 3) := by decide +kernel
theorem dX9_sureWith_105 : decode cX9_sureWith 105 = .ok (.iinc 3 1, 3) := by decide +kernel
theorem dX9_sureWith_108 : decode cX9_sureWith 108 = .ok (.goto (-41), 3) := by decide +kernel
theorem dX9_sureWith_111 : decode cX9_sureWith 111 = .ok (.iload_n 2, 1) := by decide +kernel
theorem dX9_sureWith_112 : decode cX9_sureWith 112 = .ok (.ireturn, 1) := by decide +kernel
theorem dX9_count_0 : decode cX9_count 0 = .ok (.iload_n 1, 1) := by decide +kernel
theorem dX9_count_1 : decode cX9_count 1 = .ok (.tableswitch 132 0 10 #[59, 64, 72, 77, 85, 90, 95, 103, 111, 119, 127], 59) := by decide +kernel
theorem dX9_count_60 : decode cX9_count 60 = .ok (.aload_n 0, 1) := by decide +kernel
theorem dX9_count_61 : decode cX9_count 61 = .ok (.getfield 71, 3) := by decide +kernel
theorem dX9_count_64 : decode cX9_count 64 = .ok (.ireturn, 1) := by decide +kernel
theorem dX9_count_65 : decode cX9_count 65 = .ok (.aload_n 0, 1) := by decide +kernel
theorem dX9_count_66 : decode cX9_count 66 = .ok (.getfield 21, 3) := by decide +kernel
theorem dX9_count_69 : decode cX9_count 69 = .ok (.invokevirtual 105, 3) := by decide +kernel
theorem dX9_count_72 : decode cX9_count 72 = .ok (.ireturn, 1) := by decide +kernel
theorem dX9_count_73 : decode cX9_count 73 = .ok (.aload_n 0, 1) := by decide +kernel
theorem dX9_count_74 : decode cX9_count 74 = .ok (.getfield 75, 3) := by decide +kernel
theorem dX9_count_77 : decode cX9_count 77 = .ok (.ireturn, 1) := by decide +kernel
theorem dX9_count_78 : decode cX9_count 78 = .ok (.aload_n 0, 1) := by decide +kernel
theorem dX9_count_79 : decode cX9_count 79 = .ok (.getfield 25, 3) := by decide +kernel
theorem dX9_count_82 : decode cX9_count 82 = .ok (.invokevirtual 105, 3) := by decide +kernel
theorem dX9_count_85 : decode cX9_count 85 = .ok (.ireturn, 1) := by decide +kernel
theorem dX9_count_86 : decode cX9_count 86 = .ok (.aload_n 0, 1) := by decide +kernel
theorem dX9_count_87 : decode cX9_count 87 = .ok (.invokevirtual 368, 3) := by decide +kernel
theorem dX9_count_90 : decode cX9_count 90 = .ok (.ireturn, 1) := by decide +kernel
theorem dX9_count_91 : decode cX9_count 91 = .ok (.aload_n 0, 1) := by decide +kernel
theorem dX9_count_92 : decode cX9_count 92 = .ok (.getfield 78, 3) := by decide +kernel
theorem dX9_count_95 : decode cX9_count 95 = .ok (.ireturn, 1) := by decide +kernel
theorem dX9_count_96 : decode cX9_count 96 = .ok (.aload_n 0, 1) := by decide +kernel
theorem dX9_count_97 : decode cX9_count 97 = .ok (.getfield 44, 3) := by decide +kernel
theorem dX9_count_100 : decode cX9_count 100 = .ok (.getfield 274, 3) := by decide +kernel
theorem dX9_count_103 : decode cX9_count 103 = .ok (.ireturn, 1) := by decide +kernel
theorem dX9_count_104 : decode cX9_count 104 = .ok (.aload_n 0, 1) := by decide +kernel
theorem dX9_count_105 : decode cX9_count 105 = .ok (.getfield 28, 3) := by decide +kernel
theorem dX9_count_108 : decode cX9_count 108 = .ok (.invokevirtual 105, 3) := by decide +kernel
theorem dX9_count_111 : decode cX9_count 111 = .ok (.ireturn, 1) := by decide +kernel
theorem dX9_count_112 : decode cX9_count 112 = .ok (.aload_n 0, 1) := by decide +kernel
theorem dX9_count_113 : decode cX9_count 113 = .ok (.getfield 31, 3) := by decide +kernel
theorem dX9_count_116 : decode cX9_count 116 = .ok (.invokevirtual 105, 3) := by decide +kernel
theorem dX9_count_119 : decode cX9_count 119 = .ok (.ireturn, 1) := by decide +kernel
theorem dX9_count_120 : decode cX9_count 120 = .ok (.aload_n 0, 1) := by decide +kernel
theorem dX9_count_121 : decode cX9_count 121 = .ok (.getfield 37, 3) := by decide +kernel
theorem dX9_count_124 : decode cX9_count 124 = .ok (.getfield 371, 3) := by decide +kernel
theorem dX9_count_127 : decode cX9_count 127 = .ok (.ireturn, 1) := by decide +kernel
theorem dX9_count_128 : decode cX9_count 128 = .ok (.aload_n 0, 1) := by decide +kernel
theorem dX9_count_129 : decode cX9_count 129 = .ok (.invokevirtual 372, 3) := by decide +kernel
theorem dX9_count_132 : decode cX9_count 132 = .ok (.ireturn, 1) := by decide +kernel
theorem dX9_count_133 : decode cX9_count 133 = .ok (.iconst (-1), 1) := by decide +kernel
theorem dX9_count_134 : decode cX9_count 134 = .ok (.ireturn, 1) := by decide +kernel
theorem dX9_knownLooks_0 : decode cX9_knownLooks 0 = .ok (.iconst 0, 1) := by decide +kernel
theorem dX9_knownLooks_1 : decode cX9_knownLooks 1 = .ok (.istore_n 1, 1) := by decide +kernel
theorem dX9_knownLooks_2 : decode cX9_knownLooks 2 = .ok (.iconst 0, 1) := by decide +kernel
theorem dX9_knownLooks_3 : decode cX9_knownLooks 3 = .ok (.istore_n 2, 1) := by decide +kernel
theorem dX9_knownLooks_4 : decode cX9_knownLooks 4 = .ok (.iload_n 2, 1) := by decide +kernel
theorem dX9_knownLooks_5 : decode cX9_knownLooks 5 = .ok (.aload_n 0, 1) := by decide +kernel
theorem dX9_knownLooks_6 : decode cX9_knownLooks 6 = .ok (.getfield 25, 3) := by decide +kernel
theorem dX9_knownLooks_9 : decode cX9_knownLooks 9 = .ok (.invokevirtual 105, 3) := by decide +kernel
theorem dX9_knownLooks_12 : decode cX9_knownLooks 12 = .ok (.if_icmp .ge 33, 3) := by decide +kernel
theorem dX9_knownLooks_15 : decode cX9_knownLooks 15 = .ok (.aload_n 0, 1) := by decide +kernel
theorem dX9_knownLooks_16 : decode cX9_knownLooks 16 = .ok (.getfield 25, 3) := by decide +kernel
theorem dX9_knownLooks_19 : decode cX9_knownLooks 19 = .ok (.iload_n 2, 1) := by decide +kernel
theorem dX9_knownLooks_20 : decode cX9_knownLooks 20 = .ok (.invokevirtual 109, 3) := by decide +kernel
theorem dX9_knownLooks_23 : decode cX9_knownLooks 23 = .ok (.checkcast 116, 3) := by decide +kernel
theorem dX9_knownLooks_26 : decode cX9_knownLooks 26 = .ok (.aload_n 0, 1) := by decide +kernel
theorem dX9_knownLooks_27 : decode cX9_knownLooks 27 = .ok (.getfield 78, 3) := by decide +kernel
theorem dX9_knownLooks_30 : decode cX9_knownLooks 30 = .ok (.invokevirtual 191, 3) := by decide +kernel
theorem dX9_knownLooks_33 : decode cX9_knownLooks 33 = .ok (.ifCond .eq 6, 3) := by decide +kernel
theorem dX9_knownLooks_36 : decode cX9_knownLooks 36 = .ok (.iinc 1 1, 3) := by decide +kernel
theorem dX9_knownLooks_39 : decode cX9_knownLooks 39 = .ok (.iinc 2 1, 3) := by decide +kernel
theorem dX9_knownLooks_42 : decode cX9_knownLooks 42 = .ok (.goto (-38), 3) := by decide +kernel
theorem dX9_knownLooks_45 : decode cX9_knownLooks 45 = .ok (.iload_n 1, 1) := by decide +kernel
theorem dX9_knownLooks_46 : decode cX9_knownLooks 46 = .ok (.ireturn, 1) := by decide +kernel
theorem dX9_quarrelling_0 : decode cX9_quarrelling 0 = .ok (.aload_n 0, 1) := by decide +kernel
theorem dX9_quarrelling_1 : decode cX9_quarrelling 1 = .ok (.aload_n 0, 1) := by decide +kernel
theorem dX9_quarrelling_2 : decode cX9_quarrelling 2 = .ok (.getfield 78, 3) := by decide +kernel
theorem dX9_quarrelling_5 : decode cX9_quarrelling 5 = .ok (.invokevirtual 160, 3) := by decide +kernel
theorem dX9_quarrelling_8 : decode cX9_quarrelling 8 = .ok (.iconst 0, 1) := by decide +kernel
theorem dX9_quarrelling_9 : decode cX9_quarrelling 9 = .ok (.istore_n 1, 1) := by decide +kernel
theorem dX9_quarrelling_10 : decode cX9_quarrelling 10 = .ok (.iconst 0, 1) := by decide +kernel
theorem dX9_quarrelling_11 : decode cX9_quarrelling 11 = .ok (.istore_n 2, 1) := by decide +kernel
theorem dX9_quarrelling_12 : decode cX9_quarrelling 12 = .ok (.iload_n 2, 1) := by decide +kernel
theorem dX9_quarrelling_13 : decode cX9_quarrelling 13 = .ok (.aload_n 0, 1) := by decide +kernel
theorem dX9_quarrelling_14 : decode cX9_quarrelling 14 = .ok (.getfield 21, 3) := by decide +kernel
theorem dX9_quarrelling_17 : decode cX9_quarrelling 17 = .ok (.invokevirtual 105, 3) := by decide +kernel
theorem dX9_quarrelling_20 : decode cX9_quarrelling 20 = .ok (.if_icmp .ge 31, 3) := by decide +kernel
theorem dX9_quarrelling_23 : decode cX9_quarrelling 23 = .ok (.aload_n 0, 1) := by decide +kernel
theorem dX9_quarrelling_24 : decode cX9_quarrelling 24 = .ok (.getfield 21, 3) := by decide +kernel
theorem dX9_quarrelling_27 : decode cX9_quarrelling 27 = .ok (.iload_n 2, 1) := by decide +kernel
theorem dX9_quarrelling_28 : decode cX9_quarrelling 28 = .ok (.invokevirtual 109, 3) := by decide +kernel
theorem dX9_quarrelling_31 : decode cX9_quarrelling 31 = .ok (.checkcast 113, 3) := by decide +kernel
theorem dX9_quarrelling_34 : decode cX9_quarrelling 34 = .ok (.getfield 171, 3) := by decide +kernel
theorem dX9_quarrelling_37 : decode cX9_quarrelling 37 = .ok (.lconst 0, 1) := by decide +kernel
theorem dX9_quarrelling_38 : decode cX9_quarrelling 38 = .ok (.lcmp, 1) := by decide +kernel
theorem dX9_quarrelling_39 : decode cX9_quarrelling 39 = .ok (.ifCond .ne 6, 3) := by decide +kernel
theorem dX9_quarrelling_42 : decode cX9_quarrelling 42 = .ok (.iinc 1 1, 3) := by decide +kernel
theorem dX9_quarrelling_45 : decode cX9_quarrelling 45 = .ok (.iinc 2 1, 3) := by decide +kernel
theorem dX9_quarrelling_48 : decode cX9_quarrelling 48 = .ok (.goto (-36), 3) := by decide +kernel
theorem dX9_quarrelling_51 : decode cX9_quarrelling 51 = .ok (.iload_n 1, 1) := by decide +kernel
theorem dX9_quarrelling_52 : decode cX9_quarrelling 52 = .ok (.ireturn, 1) := by decide +kernel
theorem dX9_row_0 : decode cX9_row 0 = .ok (.iload_n 1, 1) := by decide +kernel
theorem dX9_row_1 : decode cX9_row 1 = .ok (.iconst 0, 1) := by decide +kernel
theorem dX9_row_2 : decode cX9_row 2 = .ok (.aload_n 0, 1) := by decide +kernel
theorem dX9_row_3 : decode cX9_row 3 = .ok (.getfield 37, 3) := by decide +kernel
theorem dX9_row_6 : decode cX9_row 6 = .ok (.getfield 371, 3) := by decide +kernel
theorem dX9_row_9 : decode cX9_row 9 = .ok (.iconst 1, 1) := by decide +kernel
theorem dX9_row_10 : decode cX9_row 10 = .ok (.isub, 1) := by decide +kernel
theorem dX9_row_11 : decode cX9_row 11 = .ok (.invokestatic 85, 3) := by decide +kernel
theorem dX9_row_14 : decode cX9_row 14 = .ok (.ifCond .ne 14, 3) := by decide +kernel
theorem dX9_row_17 : decode cX9_row 17 = .ok (.new 375, 3) := by decide +kernel
theorem dX9_row_20 : decode cX9_row 20 = .ok (.dup, 1) := by decide +kernel
theorem dX9_row_21 : decode cX9_row 21 = .ok (.ldc_w 377, 3) := by decide +kernel
theorem dX9_row_24 : decode cX9_row 24 = .ok (.invokespecial 379, 3) := by decide +kernel
theorem dX9_row_27 : decode cX9_row 27 = .ok (.athrow, 1) := by decide +kernel
theorem dX9_row_28 : decode cX9_row 28 = .ok (.aload_n 0, 1) := by decide +kernel
theorem dX9_row_29 : decode cX9_row 29 = .ok (.getfield 37, 3) := by decide +kernel
theorem dX9_row_32 : decode cX9_row 32 = .ok (.getfield 382, 3) := by decide +kernel
theorem dX9_row_35 : decode cX9_row 35 = .ok (.iload_n 1, 1) := by decide +kernel
theorem dX9_row_36 : decode cX9_row 36 = .ok (.iaload, 1) := by decide +kernel
theorem dX9_row_37 : decode cX9_row 37 = .ok (.ireturn, 1) := by decide +kernel
theorem dX9_within_0 : decode cX9_within 0 = .ok (.iload_n 0, 1) := by decide +kernel
theorem dX9_within_1 : decode cX9_within 1 = .ok (.iload_n 1, 1) := by decide +kernel
theorem dX9_within_2 : decode cX9_within 2 = .ok (.if_icmp .lt 12, 3) := by decide +kernel
theorem dX9_within_5 : decode cX9_within 5 = .ok (.iload_n 0, 1) := by decide +kernel
theorem dX9_within_6 : decode cX9_within 6 = .ok (.iload_n 2, 1) := by decide +kernel
theorem dX9_within_7 : decode cX9_within 7 = .ok (.if_icmp .gt 7, 3) := by decide +kernel
theorem dX9_within_10 : decode cX9_within 10 = .ok (.iconst 1, 1) := by decide +kernel
theorem dX9_within_11 : decode cX9_within 11 = .ok (.goto 4, 3) := by decide +kernel
theorem dX9_within_14 : decode cX9_within 14 = .ok (.iconst 0, 1) := by decide +kernel
theorem dX9_within_15 : decode cX9_within 15 = .ok (.ireturn, 1) := by decide +kernel
theorem dX9_isDay_0 : decode cX9_isDay 0 = .ok (.iload_n 0, 1) := by decide +kernel
theorem dX9_isDay_1 : decode cX9_isDay 1 = .ok (.iconst 0, 1) := by decide +kernel
theorem dX9_isDay_2 : decode cX9_isDay 2 = .ok (.sipush 399, 3) := by decide +kernel
theorem dX9_isDay_5 : decode cX9_isDay 5 = .ok (.invokestatic 85, 3) := by decide +kernel
theorem dX9_isDay_8 : decode cX9_isDay 8 = .ok (.ireturn, 1) := by decide +kernel
theorem dX9_isMind_0 : decode cX9_isMind 0 = .ok (.iload_n 0, 1) := by decide +kernel
theorem dX9_isMind_1 : decode cX9_isMind 1 = .ok (.iconst 0, 1) := by decide +kernel
theorem dX9_isMind_2 : decode cX9_isMind 2 = .ok (.bipush 63, 2) := by decide +kernel
theorem dX9_isMind_4 : decode cX9_isMind 4 = .ok (.invokestatic 85, 3) := by decide +kernel
theorem dX9_isMind_7 : decode cX9_isMind 7 = .ok (.ireturn, 1) := by decide +kernel
theorem dX9_holds_0 : decode cX9_holds 0 = .ok (.lload_n 0, 1) := by decide +kernel
theorem dX9_holds_1 : decode cX9_holds 1 = .ok (.iload_n 2, 1) := by decide +kernel
theorem dX9_holds_2 : decode cX9_holds 2 = .ok (.lushr, 1) := by decide +kernel
theorem dX9_holds_3 : decode cX9_holds 3 = .ok (.lconst 1, 1) := by decide +kernel
theorem dX9_holds_4 : decode cX9_holds 4 = .ok (.land, 1) := by decide +kernel
theorem dX9_holds_5 : decode cX9_holds 5 = .ok (.lconst 0, 1) := by decide +kernel
theorem dX9_holds_6 : decode cX9_holds 6 = .ok (.lcmp, 1) := by decide +kernel
theorem dX9_holds_7 : decode cX9_holds 7 = .ok (.ifCond .eq 7, 3) := by decide +kernel
theorem dX9_holds_10 : decode cX9_holds 10 = .ok (.iconst 1, 1) := by decide +kernel
theorem dX9_holds_11 : decode cX9_holds 11 = .ok (.goto 4, 3) := by decide +kernel
theorem dX9_holds_14 : decode cX9_holds 14 = .ok (.iconst 0, 1) := by decide +kernel
theorem dX9_holds_15 : decode cX9_holds 15 = .ok (.ireturn, 1) := by decide +kernel
theorem dX9_pierOf_0 : decode cX9_pierOf 0 = .ok (.iload_n 1, 1) := by decide +kernel
theorem dX9_pierOf_1 : decode cX9_pierOf 1 = .ok (.iconst 0, 1) := by decide +kernel
theorem dX9_pierOf_2 : decode cX9_pierOf 2 = .ok (.aload_n 0, 1) := by decide +kernel
theorem dX9_pierOf_3 : decode cX9_pierOf 3 = .ok (.getfield 21, 3) := by decide +kernel
theorem dX9_pierOf_6 : decode cX9_pierOf 6 = .ok (.invokevirtual 105, 3) := by decide +kernel
theorem dX9_pierOf_9 : decode cX9_pierOf 9 = .ok (.iconst 1, 1) := by decide +kernel
theorem dX9_pierOf_10 : decode cX9_pierOf 10 = .ok (.isub, 1) := by decide +kernel
theorem dX9_pierOf_11 : decode cX9_pierOf 11 = .ok (.invokestatic 85, 3) := by decide +kernel
theorem dX9_pierOf_14 : decode cX9_pierOf 14 = .ok (.ifCond .eq 17, 3) := by decide +kernel
theorem dX9_pierOf_17 : decode cX9_pierOf 17 = .ok (.aload_n 0, 1) := by decide +kernel
theorem dX9_pierOf_18 : decode cX9_pierOf 18 = .ok (.getfield 21, 3) := by decide +kernel
theorem dX9_pierOf_21 : decode cX9_pierOf 21 = .ok (.iload_n 1, 1) := by decide +kernel
theorem dX9_pierOf_22 : decode cX9_pierOf 22 = .ok (.invokevirtual 109, 3) := by decide +kernel
theorem dX9_pierOf_25 : decode cX9_pierOf 25 = .ok (.checkcast 113, 3) := by decide +kernel
theorem dX9_pierOf_28 : decode cX9_pierOf 28 = .ok (.goto 4, 3) := by decide +kernel
theorem dX9_pierOf_31 : decode cX9_pierOf 31 = .ok (.aconst_null, 1) := by decide +kernel
theorem dX9_pierOf_32 : decode cX9_pierOf 32 = .ok (.areturn, 1) := by decide +kernel
theorem dX9_lookOf_0 : decode cX9_lookOf 0 = .ok (.iload_n 1, 1) := by decide +kernel
theorem dX9_lookOf_1 : decode cX9_lookOf 1 = .ok (.iconst 0, 1) := by decide +kernel
theorem dX9_lookOf_2 : decode cX9_lookOf 2 = .ok (.aload_n 0, 1) := by decide +kernel
theorem dX9_lookOf_3 : decode cX9_lookOf 3 = .ok (.getfield 25, 3) := by decide +kernel
theorem dX9_lookOf_6 : decode cX9_lookOf 6 = .ok (.invokevirtual 105, 3) := by decide +kernel
theorem dX9_lookOf_9 : decode cX9_lookOf 9 = .ok (.iconst 1, 1) := by decide +kernel
theorem dX9_lookOf_10 : decode cX9_lookOf 10 = .ok (.isub, 1) := by decide +kernel
theorem dX9_lookOf_11 : decode cX9_lookOf 11 = .ok (.invokestatic 85, 3) := by decide +kernel
theorem dX9_lookOf_14 : decode cX9_lookOf 14 = .ok (.ifCond .eq 17, 3) := by decide +kernel
theorem dX9_lookOf_17 : decode cX9_lookOf 17 = .ok (.aload_n 0, 1) := by decide +kernel
theorem dX9_lookOf_18 : decode cX9_lookOf 18 = .ok (.getfield 25, 3) := by decide +kernel
theorem dX9_lookOf_21 : decode cX9_lookOf 21 = .ok (.iload_n 1, 1) := by decide +kernel
theorem dX9_lookOf_22 : decode cX9_lookOf 22 = .ok (.invokevirtual 109, 3) := by decide +kernel
theorem dX9_lookOf_25 : decode cX9_lookOf 25 = .ok (.checkcast 116, 3) := by decide +kernel
theorem dX9_lookOf_28 : decode cX9_lookOf 28 = .ok (.goto 4, 3) := by decide +kernel
theorem dX9_lookOf_31 : decode cX9_lookOf 31 = .ok (.aconst_null, 1) := by decide +kernel
theorem dX9_lookOf_32 : decode cX9_lookOf 32 = .ok (.areturn, 1) := by decide +kernel
theorem dX9_bridgeOf_0 : decode cX9_bridgeOf 0 = .ok (.iload_n 1, 1) := by decide +kernel
theorem dX9_bridgeOf_1 : decode cX9_bridgeOf 1 = .ok (.iconst 0, 1) := by decide +kernel
theorem dX9_bridgeOf_2 : decode cX9_bridgeOf 2 = .ok (.aload_n 0, 1) := by decide +kernel
theorem dX9_bridgeOf_3 : decode cX9_bridgeOf 3 = .ok (.getfield 28, 3) := by decide +kernel
theorem dX9_bridgeOf_6 : decode cX9_bridgeOf 6 = .ok (.invokevirtual 105, 3) := by decide +kernel
theorem dX9_bridgeOf_9 : decode cX9_bridgeOf 9 = .ok (.iconst 1, 1) := by decide +kernel
theorem dX9_bridgeOf_10 : decode cX9_bridgeOf 10 = .ok (.isub, 1) := by decide +kernel
theorem dX9_bridgeOf_11 : decode cX9_bridgeOf 11 = .ok (.invokestatic 85, 3) := by decide +kernel
theorem dX9_bridgeOf_14 : decode cX9_bridgeOf 14 = .ok (.ifCond .eq 17, 3) := by decide +kernel
theorem dX9_bridgeOf_17 : decode cX9_bridgeOf 17 = .ok (.aload_n 0, 1) := by decide +kernel
theorem dX9_bridgeOf_18 : decode cX9_bridgeOf 18 = .ok (.getfield 28, 3) := by decide +kernel
theorem dX9_bridgeOf_21 : decode cX9_bridgeOf 21 = .ok (.iload_n 1, 1) := by decide +kernel
theorem dX9_bridgeOf_22 : decode cX9_bridgeOf 22 = .ok (.invokevirtual 109, 3) := by decide +kernel
theorem dX9_bridgeOf_25 : decode cX9_bridgeOf 25 = .ok (.checkcast 290, 3) := by decide +kernel
theorem dX9_bridgeOf_28 : decode cX9_bridgeOf 28 = .ok (.goto 4, 3) := by decide +kernel
theorem dX9_bridgeOf_31 : decode cX9_bridgeOf 31 = .ok (.aconst_null, 1) := by decide +kernel
theorem dX9_bridgeOf_32 : decode cX9_bridgeOf 32 = .ok (.areturn, 1) := by decide +kernel
theorem dX10_init_0 : decode cX10_init 0 = .ok (.aload_n 0, 1) := by decide +kernel
theorem dX10_init_1 : decode cX10_init 1 = .ok (.invokespecial 1, 3) := by decide +kernel
theorem dX10_init_4 : decode cX10_init 4 = .ok (.aload_n 0, 1) := by decide +kernel
theorem dX10_init_5 : decode cX10_init 5 = .ok (.sipush 400, 3) := by decide +kernel
theorem dX10_init_8 : decode cX10_init 8 = .ok (.newarray .int, 2) := by decide +kernel
theorem dX10_init_10 : decode cX10_init 10 = .ok (.putfield 9, 3) := by decide +kernel
theorem dX10_init_13 : decode cX10_init 13 = .ok (.aload_n 0, 1) := by decide +kernel
theorem dX10_init_14 : decode cX10_init 14 = .ok (.bipush 8, 2) := by decide +kernel
theorem dX10_init_16 : decode cX10_init 16 = .ok (.newarray .int, 2) := by decide +kernel
theorem dX10_init_18 : decode cX10_init 18 = .ok (.putfield 13, 3) := by decide +kernel
theorem dX10_init_21 : decode cX10_init 21 = .ok (.aload_n 0, 1) := by decide +kernel
theorem dX10_init_22 : decode cX10_init 22 = .ok (.bipush 8, 2) := by decide +kernel
theorem dX10_init_24 : decode cX10_init 24 = .ok (.newarray .int, 2) := by decide +kernel
theorem dX10_init_26 : decode cX10_init 26 = .ok (.putfield 16, 3) := by decide +kernel
theorem dX10_init_29 : decode cX10_init 29 = .ok (.aload_n 0, 1) := by decide +kernel
theorem dX10_init_30 : decode cX10_init 30 = .ok (.bipush 8, 2) := by decide +kernel
theorem dX10_init_32 : decode cX10_init 32 = .ok (.newarray .int, 2) := by decide +kernel
theorem dX10_init_34 : decode cX10_init 34 = .ok (.putfield 19, 3) := by decide +kernel
theorem dX10_init_37 : decode cX10_init 37 = .ok (.aload_n 0, 1) := by decide +kernel
theorem dX10_init_38 : decode cX10_init 38 = .ok (.bipush 8, 2) := by decide +kernel
theorem dX10_init_40 : decode cX10_init 40 = .ok (.newarray .int, 2) := by decide +kernel
theorem dX10_init_42 : decode cX10_init 42 = .ok (.putfield 22, 3) := by decide +kernel
theorem dX10_init_45 : decode cX10_init 45 = .ok (.aload_n 0, 1) := by decide +kernel
theorem dX10_init_46 : decode cX10_init 46 = .ok (.bipush 8, 2) := by decide +kernel
theorem dX10_init_48 : decode cX10_init 48 = .ok (.newarray .int, 2) := by decide +kernel
theorem dX10_init_50 : decode cX10_init 50 = .ok (.putfield 25, 3) := by decide +kernel
theorem dX10_init_53 : decode cX10_init 53 = .ok (.aload_n 0, 1) := by decide +kernel
theorem dX10_init_54 : decode cX10_init 54 = .ok (.bipush 20, 2) := by decide +kernel
theorem dX10_init_56 : decode cX10_init 56 = .ok (.newarray .int, 2) := by decide +kernel
theorem dX10_init_58 : decode cX10_init 58 = .ok (.putfield 28, 3) := by decide +kernel
theorem dX10_init_61 : decode cX10_init 61 = .ok (.aload_n 0, 1) := by decide +kernel
theorem dX10_init_62 : decode cX10_init 62 = .ok (.bipush 20, 2) := by decide +kernel
theorem dX10_init_64 : decode cX10_init 64 = .ok (.newarray .int, 2) := by decide +kernel
theorem dX10_init_66 : decode cX10_init 66 = .ok (.putfield 31, 3) := by decide +kernel
theorem dX10_init_69 : decode cX10_init 69 = .ok (.aload_n 0, 1) := by decide +kernel
theorem dX10_init_70 : decode cX10_init 70 = .ok (.bipush 20, 2) := by decide +kernel
theorem dX10_init_72 : decode cX10_init 72 = .ok (.newarray .int, 2) := by decide +kernel
theorem dX10_init_74 : decode cX10_init 74 = .ok (.putfield 34, 3) := by decide +kernel
theorem dX10_init_77 : decode cX10_init 77 = .ok (.aload_n 0, 1) := by decide +kernel
theorem dX10_init_78 : decode cX10_init 78 = .ok (.bipush 40, 2) := by decide +kernel
theorem dX10_init_80 : decode cX10_init 80 = .ok (.newarray .int, 2) := by decide +kernel
theorem dX10_init_82 : decode cX10_init 82 = .ok (.putfield 37, 3) := by decide +kernel
theorem dX10_init_85 : decode cX10_init 85 = .ok (.aload_n 0, 1) := by decide +kernel
theorem dX10_init_86 : decode cX10_init 86 = .ok (.bipush 40, 2) := by decide +kernel
theorem dX10_init_88 : decode cX10_init 88 = .ok (.newarray .int, 2) := by decide +kernel
theorem dX10_init_90 : decode cX10_init 90 = .ok (.putfield 40, 3) := by decide +kernel
theorem dX10_init_93 : decode cX10_init 93 = .ok (.aload_n 0, 1) := by decide +kernel
theorem dX10_init_94 : decode cX10_init 94 = .ok (.bipush 40, 2) := by decide +kernel
theorem dX10_init_96 : decode cX10_init 96 = .ok (.newarray .int, 2) := by decide +kernel
theorem dX10_init_98 : decode cX10_init 98 = .ok (.putfield 43, 3) := by decide +kernel
theorem dX10_init_101 : decode cX10_init 101 = .ok (.aload_n 0, 1) := by decide +kernel
theorem dX10_init_102 : decode cX10_init 102 = .ok (.bipush 40, 2) := by decide +kernel
theorem dX10_init_104 : decode cX10_init 104 = .ok (.newarray .int, 2) := by decide +kernel
theorem dX10_init_106 : decode cX10_init 106 = .ok (.putfield 46, 3) := by decide +kernel
theorem dX10_init_109 : decode cX10_init 109 = .ok (.aload_n 0, 1) := by decide +kernel
theorem dX10_init_110 : decode cX10_init 110 = .ok (.bipush 40, 2) := by decide +kernel
theorem dX10_init_112 : decode cX10_init 112 = .ok (.newarray .int, 2) := by decide +kernel
theorem dX10_init_114 : decode cX10_init 114 = .ok (.putfield 49, 3) := by decide +kernel
theorem dX10_init_117 : decode cX10_init 117 = .ok (.aload_n 0, 1) := by decide +kernel
theorem dX10_init_118 : decode cX10_init 118 = .ok (.bipush 40, 2) := by decide +kernel
theorem dX10_init_120 : decode cX10_init 120 = .ok (.newarray .int, 2) := by decide +kernel
theorem dX10_init_122 : decode cX10_init 122 = .ok (.putfield 52, 3) := by decide +kernel
theorem dX10_init_125 : decode cX10_init 125 = .ok (.aload_n 0, 1) := by decide +kernel
theorem dX10_init_126 : decode cX10_init 126 = .ok (.sipush 399, 3) := by decide +kernel
theorem dX10_init_129 : decode cX10_init 129 = .ok (.putfield 55, 3) := by decide +kernel
theorem dX10_init_132 : decode cX10_init 132 = .ok (.aload_n 0, 1) := by decide +kernel
theorem dX10_init_133 : decode cX10_init 133 = .ok (.bipush 64, 2) := by decide +kernel
theorem dX10_init_135 : decode cX10_init 135 = .ok (.newarray .int, 2) := by decide +kernel
theorem dX10_init_137 : decode cX10_init 137 = .ok (.putfield 59, 3) := by decide +kernel
theorem dX10_init_140 : decode cX10_init 140 = .ok (.aload_n 0, 1) := by decide +kernel
theorem dX10_init_141 : decode cX10_init 141 = .ok (.bipush 64, 2) := by decide +kernel
theorem dX10_init_143 : decode cX10_init 143 = .ok (.newarray .int, 2) := by decide +kernel
theorem dX10_init_145 : decode cX10_init 145 = .ok (.putfield 62, 3) := by decide +kernel
theorem dX10_init_148 : decode cX10_init 148 = .ok (.aload_n 0, 1) := by decide +kernel
theorem dX10_init_149 : decode cX10_init 149 = .ok (.iconst 4, 1) := by decide +kernel
theorem dX10_init_150 : decode cX10_init 150 = .ok (.newarray .int, 2) := by decide +kernel
theorem dX10_init_152 : decode cX10_init 152 = .ok (.putfield 65, 3) := by decide +kernel
theorem dX10_init_155 : decode cX10_init 155 = .ok (.aload_n 0, 1) := by decide +kernel
theorem dX10_init_156 : decode cX10_init 156 = .ok (.iconst 4, 1) := by decide +kernel
theorem dX10_init_157 : decode cX10_init 157 = .ok (.newarray .int, 2) := by decide +kernel
theorem dX10_init_159 : decode cX10_init 159 = .ok (.putfield 68, 3) := by decide +kernel
theorem dX10_init_162 : decode cX10_init 162 = .ok (.aload_n 0, 1) := by decide +kernel
theorem dX10_init_163 : decode cX10_init 163 = .ok (.bipush 8, 2) := by decide +kernel
theorem dX10_init_165 : decode cX10_init 165 = .ok (.newarray .int, 2) := by decide +kernel
theorem dX10_init_167 : decode cX10_init 167 = .ok (.putfield 71, 3) := by decide +kernel
theorem dX10_init_170 : decode cX10_init 170 = .ok (.aload_n 0, 1) := by decide +kernel
theorem dX10_init_171 : decode cX10_init 171 = .ok (.bipush 10, 2) := by decide +kernel
theorem dX10_init_173 : decode cX10_init 173 = .ok (.newarray .int, 2) := by decide +kernel
theorem dX10_init_175 : decode cX10_init 175 = .ok (.putfield 74, 3) := by decide +kernel
theorem dX10_init_178 : decode cX10_init 178 = .ok (.aload_n 0, 1) := by decide +kernel
theorem dX10_init_179 : decode cX10_init 179 = .ok (.bipush 10, 2) := by decide +kernel
theorem dX10_init_181 : decode cX10_init 181 = .ok (.newarray .int, 2) := by decide +kernel
theorem dX10_init_183 : decode cX10_init 183 = .ok (.putfield 77, 3) := by decide +kernel
theorem dX10_init_186 : decode cX10_init 186 = .ok (.aload_n 0, 1) := by decide +kernel
theorem dX10_init_187 : decode cX10_init 187 = .ok (.bipush 10, 2) := by decide +kernel
theorem dX10_init_189 : decode cX10_init 189 = .ok (.newarray .int, 2) := by decide +kernel
theorem dX10_init_191 : decode cX10_init 191 = .ok (.putfield 80, 3) := by decide +kernel
theorem dX10_init_194 : decode cX10_init 194 = .ok (.aload_n 0, 1) := by decide +kernel
theorem dX10_init_195 : decode cX10_init 195 = .ok (.bipush 64, 2) := by decide +kernel
theorem dX10_init_197 : decode cX10_init 197 = .ok (.newarray .int, 2) := by decide +kernel
theorem dX10_init_199 : decode cX10_init 199 = .ok (.putfield 83, 3) := by decide +kernel
theorem dX10_init_202 : decode cX10_init 202 = .ok (.aload_n 0, 1) := by decide +kernel
theorem dX10_init_203 : decode cX10_init 203 = .ok (.ldc 86, 2) := by decide +kernel
theorem dX10_init_205 : decode cX10_init 205 = .ok (.newarray .int, 2) := by decide +kernel
theorem dX10_init_207 : decode cX10_init 207 = .ok (.putfield 87, 3) := by decide +kernel
theorem dX10_init_210 : decode cX10_init 210 = .ok (.aload_n 0, 1) := by decide +kernel
theorem dX10_init_211 : decode cX10_init 211 = .ok (.ldc 86, 2) := by decide +kernel
theorem dX10_init_213 : decode cX10_init 213 = .ok (.newarray .int, 2) := by decide +kernel
theorem dX10_init_215 : decode cX10_init 215 = .ok (.putfield 90, 3) := by decide +kernel
theorem dX10_init_218 : decode cX10_init 218 = .ok (.aload_n 0, 1) := by decide +kernel
theorem dX10_init_219 : decode cX10_init 219 = .ok (.bipush 8, 2) := by decide +kernel
theorem dX10_init_221 : decode cX10_init 221 = .ok (.newarray .boolean, 2) := by decide +kernel
theorem dX10_init_223 : decode cX10_init 223 = .ok (.putfield 93, 3) := by decide +kernel
theorem dX10_init_226 : decode cX10_init 226 = .ok (.aload_n 0, 1) := by decide +kernel
theorem dX10_init_227 : decode cX10_init 227 = .ok (.bipush 40, 2) := by decide +kernel
theorem dX10_init_229 : decode cX10_init 229 = .ok (.newarray .long, 2) := by decide +kernel
theorem dX10_init_231 : decode cX10_init 231 = .ok (.putfield 97, 3) := by decide +kernel
theorem dX10_init_234 : decode cX10_init 234 = .ok (.aload_n 0, 1) := by decide +kernel
theorem dX10_init_235 : decode cX10_init 235 = .ok (.bipush 40, 2) := by decide +kernel
theorem dX10_init_237 : decode cX10_init 237 = .ok (.newarray .boolean, 2) := by decide +kernel
theorem dX10_init_239 : decode cX10_init 239 = .ok (.putfield 101, 3) := by decide +kernel
theorem dX10_init_242 : decode cX10_init 242 = .ok (.aload_n 0, 1) := by decide +kernel
theorem dX10_init_243 : decode cX10_init 243 = .ok (.bipush 6, 2) := by decide +kernel
theorem dX10_init_245 : decode cX10_init 245 = .ok (.newarray .int, 2) := by decide +kernel
theorem dX10_init_247 : decode cX10_init 247 = .ok (.putfield 104, 3) := by decide +kernel
theorem dX10_init_250 : decode cX10_init 250 = .ok (.aload_n 0, 1) := by decide +kernel
theorem dX10_init_251 : decode cX10_init 251 = .ok (.bipush 8, 2) := by decide +kernel
theorem dX10_init_253 : decode cX10_init 253 = .ok (.newarray .int, 2) := by decide +kernel
theorem dX10_init_255 : decode cX10_init 255 = .ok (.putfield 107, 3) := by decide +kernel
theorem dX10_init_258 : decode cX10_init 258 = .ok (.aload_n 0, 1) := by decide +kernel
theorem dX10_init_259 : decode cX10_init 259 = .ok (.bipush 8, 2) := by decide +kernel
theorem dX10_init_261 : decode cX10_init 261 = .ok (.newarray .int, 2) := by decide +kernel
theorem dX10_init_263 : decode cX10_init 263 = .ok (.putfield 110, 3) := by decide +kernel
theorem dX10_init_266 : decode cX10_init 266 = .ok (.return_, 1) := by decide +kernel
theorem dX10_thrown_0 : decode cX10_thrown 0 = .ok (.aload_n 0, 1) := by decide +kernel
theorem dX10_thrown_1 : decode cX10_thrown 1 = .ok (.getfield 113, 3) := by decide +kernel
theorem dX10_thrown_4 : decode cX10_thrown 4 = .ok (.ireturn, 1) := by decide +kernel
theorem dX10_in_0 : decode cX10_in 0 = .ok (.iload_n 0, 1) := by decide +kernel
theorem dX10_in_1 : decode cX10_in 1 = .ok (.iload_n 1, 1) := by decide +kernel
theorem dX10_in_2 : decode cX10_in 2 = .ok (.if_icmp .lt 12, 3) := by decide +kernel
theorem dX10_in_5 : decode cX10_in 5 = .ok (.iload_n 0, 1) := by decide +kernel
theorem dX10_in_6 : decode cX10_in 6 = .ok (.iload_n 2, 1) := by decide +kernel
theorem dX10_in_7 : decode cX10_in 7 = .ok (.if_icmp .gt 7, 3) := by decide +kernel
theorem dX10_in_10 : decode cX10_in 10 = .ok (.iconst 1, 1) := by decide +kernel
theorem dX10_in_11 : decode cX10_in 11 = .ok (.goto 4, 3) := by decide +kernel
theorem dX10_in_14 : decode cX10_in 14 = .ok (.iconst 0, 1) := by decide +kernel
theorem dX10_in_15 : decode cX10_in 15 = .ok (.ireturn, 1) := by decide +kernel
theorem dX10_lost_0 : decode cX10_lost 0 = .ok (.aload_n 0, 1) := by decide +kernel
theorem dX10_lost_1 : decode cX10_lost 1 = .ok (.iconst 1, 1) := by decide +kernel
theorem dX10_lost_2 : decode cX10_lost 2 = .ok (.putfield 113, 3) := by decide +kernel
theorem dX10_lost_5 : decode cX10_lost 5 = .ok (.iconst 0, 1) := by decide +kernel
theorem dX10_lost_6 : decode cX10_lost 6 = .ok (.ireturn, 1) := by decide +kernel
theorem dX10_isPier_0 : decode cX10_isPier 0 = .ok (.iload_n 1, 1) := by decide +kernel
theorem dX10_isPier_1 : decode cX10_isPier 1 = .ok (.iconst 0, 1) := by decide +kernel
theorem dX10_isPier_2 : decode cX10_isPier 2 = .ok (.aload_n 0, 1) := by decide +kernel
theorem dX10_isPier_3 : decode cX10_isPier 3 = .ok (.getfield 116, 3) := by decide +kernel
theorem dX10_isPier_6 : decode cX10_isPier 6 = .ok (.iconst 1, 1) := by decide +kernel
theorem dX10_isPier_7 : decode cX10_isPier 7 = .ok (.isub, 1) := by decide +kernel
theorem dX10_isPier_8 : decode cX10_isPier 8 = .ok (.invokestatic 119, 3) := by decide +kernel
theorem dX10_isPier_11 : decode cX10_isPier 11 = .ok (.ireturn, 1) := by decide +kernel
theorem dX10_isDay_0 : decode cX10_isDay 0 = .ok (.iload_n 0, 1) := by decide +kernel
theorem dX10_isDay_1 : decode cX10_isDay 1 = .ok (.iconst 0, 1) := by decide +kernel
theorem dX10_isDay_2 : decode cX10_isDay 2 = .ok (.sipush 399, 3) := by decide +kernel
theorem dX10_isDay_5 : decode cX10_isDay 5 = .ok (.invokestatic 119, 3) := by decide +kernel
theorem dX10_isDay_8 : decode cX10_isDay 8 = .ok (.ireturn, 1) := by decide +kernel
theorem dX10_isMind_0 : decode cX10_isMind 0 = .ok (.iload_n 0, 1) := by decide +kernel
theorem dX10_isMind_1 : decode cX10_isMind 1 = .ok (.iconst 0, 1) := by decide +kernel
theorem dX10_isMind_2 : decode cX10_isMind 2 = .ok (.bipush 63, 2) := by decide +kernel
theorem dX10_isMind_4 : decode cX10_isMind 4 = .ok (.invokestatic 119, 3) := by decide +kernel
theorem dX10_isMind_7 : decode cX10_isMind 7 = .ok (.ireturn, 1) := by decide +kernel
theorem dX10_tell_0 : decode cX10_tell 0 = .ok (.aload_n 0, 1) := by decide +kernel
theorem dX10_tell_1 : decode cX10_tell 1 = .ok (.getfield 83, 3) := by decide +kernel
theorem dX10_tell_4 : decode cX10_tell 4 = .ok (.aload_n 0, 1) := by decide +kernel
theorem dX10_tell_5 : decode cX10_tell 5 = .ok (.getfield 123, 3) := by decide +kernel
theorem dX10_tell_8 : decode cX10_tell 8 = .ok (.iload_n 1, 1) := by decide +kernel
theorem dX10_tell_9 : decode cX10_tell 9 = .ok (.iastore, 1) := by decide +kernel
theorem dX10_tell_10 : decode cX10_tell 10 = .ok (.aload_n 0, 1) := by decide +kernel
theorem dX10_tell_11 : decode cX10_tell 11 = .ok (.dup, 1) := by decide +kernel
theorem dX10_tell_12 : decode cX10_tell 12 = .ok (.getfield 123, 3) := by decide +kernel
theorem dX10_tell_15 : decode cX10_tell 15 = .ok (.iconst 1, 1) := by decide +kernel
theorem dX10_tell_16 : decode cX10_tell 16 = .ok (.iadd, 1) := by decide +kernel
theorem dX10_tell_17 : decode cX10_tell 17 = .ok (.putfield 123, 3) := by decide +kernel
theorem dX10_tell_20 : decode cX10_tell 20 = .ok (.return_, 1) := by decide +kernel
theorem dX10_forget_0 : decode cX10_forget 0 = .ok (.iconst 0, 1) := by decide +kernel
theorem dX10_forget_1 : decode cX10_forget 1 = .ok (.istore_n 1, 1) := by decide +kernel
theorem dX10_forget_2 : decode cX10_forget 2 = .ok (.iload_n 1, 1) := by decide +kernel
theorem dX10_forget_3 : decode cX10_forget 3 = .ok (.bipush 8, 2) := by decide +kernel
theorem dX10_forget_5 : decode cX10_forget 5 = .ok (.if_icmp .ge 16, 3) := by decide +kernel
theorem dX10_forget_8 : decode cX10_forget 8 = .ok (.aload_n 0, 1) := by decide +kernel
theorem dX10_forget_9 : decode cX10_forget 9 = .ok (.getfield 93, 3) := by decide +kernel
theorem dX10_forget_12 : decode cX10_forget 12 = .ok (.iload_n 1, 1) := by decide +kernel
theorem dX10_forget_13 : decode cX10_forget 13 = .ok (.iconst 0, 1) := by decide +kernel
theorem dX10_forget_14 : decode cX10_forget 14 = .ok (.bastore, 1) := by decide +kernel
theorem dX10_forget_15 : decode cX10_forget 15 = .ok (.iinc 1 1, 3) := by decide +kernel
theorem dX10_forget_18 : decode cX10_forget 18 = .ok (.goto (-16), 3) := by decide +kernel
theorem dX10_forget_21 : decode cX10_forget 21 = .ok (.iconst 0, 1) := by decide +kernel
theorem dX10_forget_22 : decode cX10_forget 22 = .ok (.istore_n 1, 1) := by decide +kernel
theorem dX10_forget_23 : decode cX10_forget 23 = .ok (.iload_n 1, 1) := by decide +kernel
theorem dX10_forget_24 : decode cX10_forget 24 = .ok (.bipush 40, 2) := by decide +kernel
theorem dX10_forget_26 : decode cX10_forget 26 = .ok (.if_icmp .ge 16, 3) := by decide +kernel
theorem dX10_forget_29 : decode cX10_forget 29 = .ok (.aload_n 0, 1) := by decide +kernel
theorem dX10_forget_30 : decode cX10_forget 30 = .ok (.getfield 101, 3) := by decide +kernel
theorem dX10_forget_33 : decode cX10_forget 33 = .ok (.iload_n 1, 1) := by decide +kernel
theorem dX10_forget_34 : decode cX10_forget 34 = .ok (.iconst 0, 1) := by decide +kernel
theorem dX10_forget_35 : decode cX10_forget 35 = .ok (.bastore, 1) := by decide +kernel
theorem dX10_forget_36 : decode cX10_forget 36 = .ok (.iinc 1 1, 3) := by decide +kernel
theorem dX10_forget_39 : decode cX10_forget 39 = .ok (.goto (-16), 3) := by decide +kernel
theorem dX10_forget_42 : decode cX10_forget 42 = .ok (.return_, 1) := by decide +kernel
theorem dX10_flows_0 : decode cX10_flows 0 = .ok (.aload_n 0, 1) := by decide +kernel
theorem dX10_flows_1 : decode cX10_flows 1 = .ok (.iconst 0, 1) := by decide +kernel
theorem dX10_flows_2 : decode cX10_flows 2 = .ok (.putfield 113, 3) := by decide +kernel
theorem dX10_flows_5 : decode cX10_flows 5 = .ok (.iload_n 1, 1) := by decide +kernel
theorem dX10_flows_6 : decode cX10_flows 6 = .ok (.invokestatic 126, 3) := by decide +kernel
theorem dX10_flows_9 : decode cX10_flows 9 = .ok (.ifCond .eq 18, 3) := by decide +kernel
theorem dX10_flows_12 : decode cX10_flows 12 = .ok (.iload_n 2, 1) := by decide +kernel
theorem dX10_flows_13 : decode cX10_flows 13 = .ok (.iconst 0, 1) := by decide +kernel
theorem dX10_flows_14 : decode cX10_flows 14 = .ok (.iconst 3, 1) := by decide +kernel
theorem dX10_flows_15 : decode cX10_flows 15 = .ok (.invokestatic 119, 3) := by decide +kernel
theorem dX10_flows_18 : decode cX10_flows 18 = .ok (.ifCond .eq 9, 3) := by decide +kernel
theorem dX10_flows_21 : decode cX10_flows 21 = .ok (.iload_n 3, 1) := by decide +kernel
theorem dX10_flows_22 : decode cX10_flows 22 = .ok (.bipush 60, 2) := by decide +kernel
theorem dX10_flows_24 : decode cX10_flows 24 = .ok (.if_icmp .le 5, 3) := by decide +kernel
theorem dX10_flows_27 : decode cX10_flows 27 = .ok (.iconst (-1), 1) := by decide +kernel
theorem dX10_flows_28 : decode cX10_flows 28 = .ok (.ireturn, 1) := by decide +kernel
theorem dX10_flows_29 : decode cX10_flows 29 = .ok (.iload_n 2, 1) := by decide +kernel
theorem dX10_flows_30 : decode cX10_flows 30 = .ok (.iconst 3, 1) := by decide +kernel
theorem dX10_flows_31 : decode cX10_flows 31 = .ok (.if_icmp .ne 6, 3) := by decide +kernel
theorem dX10_flows_34 : decode cX10_flows 34 = .ok (.bipush (-3), 2) := by decide +kernel
theorem dX10_flows_36 : decode cX10_flows 36 = .ok (.ireturn, 1) := by decide +kernel
theorem dX10_flows_37 : decode cX10_flows 37 = .ok (.iload_n 3, 1) := by decide +kernel
theorem dX10_flows_38 : decode cX10_flows 38 = .ok (.ifCond .ge 6, 3) := by decide +kernel
theorem dX10_flows_41 : decode cX10_flows 41 = .ok (.bipush (-2), 2) := by decide +kernel
theorem dX10_flows_43 : decode cX10_flows 43 = .ok (.ireturn, 1) := by decide +kernel
theorem dX10_flows_44 : decode cX10_flows 44 = .ok (.aload_n 0, 1) := by decide +kernel
theorem dX10_flows_45 : decode cX10_flows 45 = .ok (.invokevirtual 130, 3) := by decide +kernel
theorem dX10_flows_48 : decode cX10_flows 48 = .ok (.iload 4, 2) := by decide +kernel
theorem dX10_flows_50 : decode cX10_flows 50 = .ok (.istore 6, 2) := by decide +kernel
theorem dX10_flows_52 : decode cX10_flows 52 = .ok (.iconst 0, 1) := by decide +kernel
theorem dX10_flows_53 : decode cX10_flows 53 = .ok (.istore 7, 2) := by decide +kernel
theorem dX10_flows_55 : decode cX10_flows 55 = .ok (.iload 7, 2) := by decide +kernel
theorem dX10_flows_57 : decode cX10_flows 57 = .ok (.iload_n 3, 1) := by decide +kernel
theorem dX10_flows_58 : decode cX10_flows 58 = .ok (.if_icmp .ge 71, 3) := by decide +kernel
theorem dX10_flows_61 : decode cX10_flows 61 = .ok (.iload_n 2, 1) := by decide +kernel
theorem dX10_flows_62 : decode cX10_flows 62 = .ok (.ifCond .ne 9, 3) := by decide +kernel
theorem dX10_flows_65 : decode cX10_flows 65 = .ok (.iload 6, 2) := by decide +kernel
theorem dX10_flows_67 : decode cX10_flows 67 = .ok (.i2b, 1) := by decide +kernel
theorem dX10_flows_68 : decode cX10_flows 68 = .ok (.goto 16, 3) := by decide +kernel
theorem dX10_flows_71 : decode cX10_flows 71 = .ok (.iload_n 2, 1) := by decide +kernel
theorem dX10_flows_72 : decode cX10_flows 72 = .ok (.iconst 1, 1) := by decide +kernel
theorem dX10_flows_73 : decode cX10_flows 73 = .ok (.if_icmp .ne 9, 3) := by decide +kernel
theorem dX10_flows_76 : decode cX10_flows 76 = .ok (.iload 6, 2) := by decide +kernel
theorem dX10_flows_78 : decode cX10_flows 78 = .ok (.i2s, 1) := by decide +kernel
theorem dX10_flows_79 : decode cX10_flows 79 = .ok (.goto 5, 3) := by decide +kernel
theorem dX10_flows_82 : decode cX10_flows 82 = .ok (.iload 6, 2) := by decide +kernel
theorem dX10_flows_84 : decode cX10_flows 84 = .ok (.istore 8, 2) := by decide +kernel
theorem dX10_flows_86 : decode cX10_flows 86 = .ok (.iload 6, 2) := by decide +kernel
theorem dX10_flows_88 : decode cX10_flows 88 = .ok (.iload 5, 2) := by decide +kernel
theorem dX10_flows_90 : decode cX10_flows 90 = .ok (.iadd, 1) := by decide +kernel
theorem dX10_flows_91 : decode cX10_flows 91 = .ok (.istore 6, 2) := by decide +kernel
theorem dX10_flows_93 : decode cX10_flows 93 = .ok (.iload_n 1, 1) := by decide +kernel
theorem dX10_flows_94 : decode cX10_flows 94 = .ok (.iload 7, 2) := by decide +kernel
theorem dX10_flows_96 : decode cX10_flows 96 = .ok (.iadd, 1) := by decide +kernel
theorem dX10_flows_97 : decode cX10_flows 97 = .ok (.sipush 400, 3) := by decide +kernel
theorem dX10_flows_100 : decode cX10_flows 100 = .ok (.if_icmp .ge 23, 3) := by decide +kernel
theorem dX10_flows_103 : decode cX10_flows 103 = .ok (.aload_n 0, 1) := by decide +kernel
theorem dX10_flows_104 : decode cX10_flows 104 = .ok (.getfield 9, 3) := by decide +kernel
theorem dX10_flows_107 : decode cX10_flows 107 = .ok (.iload_n 1, 1) := by decide +kernel
theorem dX10_flows_108 : decode cX10_flows 108 = .ok (.iload 7, 2) := by decide +kernel
theorem dX10_flows_110 : decode cX10_flows 110 = .ok (.iadd, 1) := by decide +kernel
theorem dX10_flows_111 : decode cX10_flows 111 = .ok (.iconst 0, 1) := by decide +kernel
theorem dX10_flows_112 : decode cX10_flows 112 = .ok (.bipush 99, 2) := by decide +kernel
theorem dX10_flows_114 : decode cX10_flows 114 = .ok (.iload 8, 2) := by decide +kernel
theorem dX10_flows_116 : decode cX10_flows 116 = .ok (.invokestatic 133, 3) := by decide +kernel
theorem dX10_flows_119 : decode cX10_flows 119 = .ok (.invokestatic 139, 3) := by decide +kernel
theorem dX10_flows_122 : decode cX10_flows 122 = .ok (.iastore, 1) := by decide +kernel
theorem dX10_flows_123 : decode cX10_flows 123 = .ok (.iinc 7 1, 3) := by decide +kernel
theorem dX10_flows_126 : decode cX10_flows 126 = .ok (.goto (-71), 3) := by decide +kernel
theorem dX10_flows_129 : decode cX10_flows 129 = .ok (.iload_n 3, 1) := by decide +kernel
theorem dX10_flows_130 : decode cX10_flows 130 = .ok (.ireturn, 1) := by decide +kernel
theorem dX10_flow_0 : decode cX10_flow 0 = .ok (.aload_n 0, 1) := by decide +kernel
theorem dX10_flow_1 : decode cX10_flow 1 = .ok (.iconst 0, 1) := by decide +kernel
theorem dX10_flow_2 : decode cX10_flow 2 = .ok (.putfield 113, 3) := by decide +kernel
theorem dX10_flow_5 : decode cX10_flow 5 = .ok (.iload_n 1, 1) := by decide +kernel
theorem dX10_flow_6 : decode cX10_flow 6 = .ok (.invokestatic 126, 3) := by decide +kernel
theorem dX10_flow_9 : decode cX10_flow 9 = .ok (.ifCond .eq 12, 3) := by decide +kernel
theorem dX10_flow_12 : decode cX10_flow 12 = .ok (.aload_n 0, 1) := by decide +kernel
theorem dX10_flow_13 : decode cX10_flow 13 = .ok (.getfield 9, 3) := by decide +kernel
theorem dX10_flow_16 : decode cX10_flow 16 = .ok (.iload_n 1, 1) := by decide +kernel
theorem dX10_flow_17 : decode cX10_flow 17 = .ok (.iaload, 1) := by decide +kernel
theorem dX10_flow_18 : decode cX10_flow 18 = .ok (.goto 4, 3) := by decide +kernel
theorem dX10_flow_21 : decode cX10_flow 21 = .ok (.iconst (-1), 1) := by decide +kernel
theorem dX10_flow_22 : decode cX10_flow 22 = .ok (.ireturn, 1) := by decide +kernel
theorem dX10_bed_0 : decode cX10_bed 0 = .ok (.aload_n 0, 1) := by decide +kernel
theorem dX10_bed_1 : decode cX10_bed 1 = .ok (.iconst 0, 1) := by decide +kernel
theorem dX10_bed_2 : decode cX10_bed 2 = .ok (.putfield 113, 3) := by decide +kernel
theorem dX10_bed_5 : decode cX10_bed 5 = .ok (.aload_n 0, 1) := by decide +kernel
theorem dX10_bed_6 : decode cX10_bed 6 = .ok (.getfield 142, 3) := by decide +kernel
theorem dX10_bed_9 : decode cX10_bed 9 = .ok (.iconst 4, 1) := by decide +kernel
theorem dX10_bed_10 : decode cX10_bed 10 = .ok (.if_icmp .ne 5, 3) := by decide +kernel
theorem dX10_bed_13 : decode cX10_bed 13 = .ok (.iconst (-1), 1) := by decide +kernel
theorem dX10_bed_14 : decode cX10_bed 14 = .ok (.ireturn, 1) := by decide +kernel
theorem dX10_bed_15 : decode cX10_bed 15 = .ok (.aload_n 0, 1) := by decide +kernel
theorem dX10_bed_16 : decode cX10_bed 16 = .ok (.dup, 1) := by decide +kernel
theorem dX10_bed_17 : decode cX10_bed 17 = .ok (.getfield 142, 3) := by decide +kernel
theorem dX10_bed_20 : decode cX10_bed 20 = .ok (.iconst 1, 1) := by decide +kernel
theorem dX10_bed_21 : decode cX10_bed 21 = .ok (.iadd, 1) := by decide +kernel
theorem dX10_bed_22 : decode cX10_bed 22 = .ok (.putfield 142, 3) := by decide +kernel
theorem dX10_bed_25 : decode cX10_bed 25 = .ok (.aload_n 0, 1) := by decide +kernel
theorem dX10_bed_26 : decode cX10_bed 26 = .ok (.getfield 142, 3) := by decide +kernel
theorem dX10_bed_29 : decode cX10_bed 29 = .ok (.iconst 1, 1) := by decide +kernel
theorem dX10_bed_30 : decode cX10_bed 30 = .ok (.isub, 1) := by decide +kernel
theorem dX10_bed_31 : decode cX10_bed 31 = .ok (.ireturn, 1) := by decide +kernel
theorem dX10_pier_0 : decode cX10_pier 0 = .ok (.aload_n 0, 1) := by decide +kernel
theorem dX10_pier_1 : decode cX10_pier 1 = .ok (.iconst 0, 1) := by decide +kernel
theorem dX10_pier_2 : decode cX10_pier 2 = .ok (.putfield 113, 3) := by decide +kernel
theorem dX10_pier_5 : decode cX10_pier 5 = .ok (.iload_n 1, 1) := by decide +kernel
theorem dX10_pier_6 : decode cX10_pier 6 = .ok (.iconst 0, 1) := by decide +kernel
theorem dX10_pier_7 : decode cX10_pier 7 = .ok (.aload_n 0, 1) := by decide +kernel
theorem dX10_pier_8 : decode cX10_pier 8 = .ok (.getfield 142, 3) := by decide +kernel
theorem dX10_pier_11 : decode cX10_pier 11 = .ok (.iconst 1, 1) := by decide +kernel
theorem dX10_pier_12 : decode cX10_pier 12 = .ok (.isub, 1) := by decide +kernel
theorem dX10_pier_13 : decode cX10_pier 13 = .ok (.invokestatic 119, 3) := by decide +kernel
theorem dX10_pier_16 : decode cX10_pier 16 = .ok (.ifCond .eq 55, 3) := by decide +kernel
theorem dX10_pier_19 : decode cX10_pier 19 = .ok (.iload_n 2, 1) := by decide +kernel
theorem dX10_pier_20 : decode cX10_pier 20 = .ok (.iconst 1, 1) := by decide +kernel
theorem dX10_pier_21 : decode cX10_pier 21 = .ok (.bipush 20, 2) := by decide +kernel
theorem dX10_pier_23 : decode cX10_pier 23 = .ok (.invokestatic 119, 3) := by decide +kernel
theorem dX10_pier_26 : decode cX10_pier 26 = .ok (.ifCond .eq 45, 3) := by decide +kernel
theorem dX10_pier_29 : decode cX10_pier 29 = .ok (.iload_n 3, 1) := by decide +kernel
theorem dX10_pier_30 : decode cX10_pier 30 = .ok (.iconst 1, 1) := by decide +kernel
theorem dX10_pier_31 : decode cX10_pier 31 = .ok (.sipush 200, 3) := by decide +kernel
theorem dX10_pier_34 : decode cX10_pier 34 = .ok (.invokestatic 119, 3) := by decide +kernel
theorem dX10_pier_37 : decode cX10_pier 37 = .ok (.ifCond .eq 34, 3) := by decide +kernel
theorem dX10_pier_40 : decode cX10_pier 40 = .ok (.iload 4, 2) := by decide +kernel
theorem dX10_pier_42 : decode cX10_pier 42 = .ok (.iconst 0, 1) := by decide +kernel
theorem dX10_pier_43 : decode cX10_pier 43 = .ok (.bipush 99, 2) := by decide +kernel
theorem dX10_pier_45 : decode cX10_pier 45 = .ok (.invokestatic 119, 3) := by decide +kernel
theorem dX10_pier_48 : decode cX10_pier 48 = .ok (.ifCond .eq 23, 3) := by decide +kernel
theorem dX10_pier_51 : decode cX10_pier 51 = .ok (.iload 5, 2) := by decide +kernel
theorem dX10_pier_53 : decode cX10_pier 53 = .ok (.iconst 0, 1) := by decide +kernel
theorem dX10_pier_54 : decode cX10_pier 54 = .ok (.bipush 99, 2) := by decide +kernel
theorem dX10_pier_56 : decode cX10_pier 56 = .ok (.invokestatic 119, 3) := by decide +kernel
theorem dX10_pier_59 : decode cX10_pier 59 = .ok (.ifCond .eq 12, 3) := by decide +kernel
theorem dX10_pier_62 : decode cX10_pier 62 = .ok (.aload_n 0, 1) := by decide +kernel
theorem dX10_pier_63 : decode cX10_pier 63 = .ok (.getfield 116, 3) := by decide +kernel
theorem dX10_pier_66 : decode cX10_pier 66 = .ok (.bipush 8, 2) := by decide +kernel
theorem dX10_pier_68 : decode cX10_pier 68 = .ok (.if_icmp .ne 5, 3) := by decide +kernel
theorem dX10_pier_71 : decode cX10_pier 71 = .ok (.iconst (-1), 1) := by decide +kernel
theorem dX10_pier_72 : decode cX10_pier 72 = .ok (.ireturn, 1) := by decide +kernel
theorem dX10_pier_73 : decode cX10_pier 73 = .ok (.aload_n 0, 1) := by decide +kernel
theorem dX10_pier_74 : decode cX10_pier 74 = .ok (.getfield 13, 3) := by decide +kernel
theorem dX10_pier_77 : decode cX10_pier 77 = .ok (.aload_n 0, 1) := by decide +kernel
theorem dX10_pier_78 : decode cX10_pier 78 = .ok (.getfield 116, 3) := by decide +kernel
theorem dX10_pier_81 : decode cX10_pier 81 = .ok (.iload_n 1, 1) := by decide +kernel
theorem dX10_pier_82 : decode cX10_pier 82 = .ok (.iastore, 1) := by decide +kernel
theorem dX10_pier_83 : decode cX10_pier 83 = .ok (.aload_n 0, 1) := by decide +kernel
theorem dX10_pier_84 : decode cX10_pier 84 = .ok (.getfield 16, 3) := by decide +kernel
theorem dX10_pier_87 : decode cX10_pier 87 = .ok (.aload_n 0, 1) := by decide +kernel
theorem dX10_pier_88 : decode cX10_pier 88 = .ok (.getfield 116, 3) := by decide +kernel
theorem dX10_pier_91 : decode cX10_pier 91 = .ok (.iload_n 2, 1) := by decide +kernel
theorem dX10_pier_92 : decode cX10_pier 92 = .ok (.iastore, 1) := by decide +kernel
theorem dX10_pier_93 : decode cX10_pier 93 = .ok (.aload_n 0, 1) := by decide +kernel
theorem dX10_pier_94 : decode cX10_pier 94 = .ok (.getfield 19, 3) := by decide +kernel
theorem dX10_pier_97 : decode cX10_pier 97 = .ok (.aload_n 0, 1) := by decide +kernel
theorem dX10_pier_98 : decode cX10_pier 98 = .ok (.getfield 116, 3) := by decide +kernel
theorem dX10_pier_101 : decode cX10_pier 101 = .ok (.iload_n 3, 1) := by decide +kernel
theorem dX10_pier_102 : decode cX10_pier 102 = .ok (.iastore, 1) := by decide +kernel
theorem dX10_pier_103 : decode cX10_pier 103 = .ok (.aload_n 0, 1) := by decide +kernel
theorem dX10_pier_104 : decode cX10_pier 104 = .ok (.getfield 22, 3) := by decide +kernel
theorem dX10_pier_107 : decode cX10_pier 107 = .ok (.aload_n 0, 1) := by decide +kernel
theorem dX10_pier_108 : decode cX10_pier 108 = .ok (.getfield 116, 3) := by decide +kernel
theorem dX10_pier_111 : decode cX10_pier 111 = .ok (.iload 4, 2) := by decide +kernel
theorem dX10_pier_113 : decode cX10_pier 113 = .ok (.iastore, 1) := by decide +kernel
theorem dX10_pier_114 : decode cX10_pier 114 = .ok (.aload_n 0, 1) := by decide +kernel
theorem dX10_pier_115 : decode cX10_pier 115 = .ok (.getfield 25, 3) := by decide +kernel
theorem dX10_pier_118 : decode cX10_pier 118 = .ok (.aload_n 0, 1) := by decide +kernel
theorem dX10_pier_119 : decode cX10_pier 119 = .ok (.getfield 116, 3) := by decide +kernel
theorem dX10_pier_122 : decode cX10_pier 122 = .ok (.iload 5, 2) := by decide +kernel
theorem dX10_pier_124 : decode cX10_pier 124 = .ok (.iastore, 1) := by decide +kernel
theorem dX10_pier_125 : decode cX10_pier 125 = .ok (.aload_n 0, 1) := by decide +kernel
theorem dX10_pier_126 : decode cX10_pier 126 = .ok (.dup, 1) := by decide +kernel
theorem dX10_pier_127 : decode cX10_pier 127 = .ok (.getfield 116, 3) := by decide +kernel
theorem dX10_pier_130 : decode cX10_pier 130 = .ok (.iconst 1, 1) := by decide +kernel
theorem dX10_pier_131 : decode cX10_pier 131 = .ok (.iadd, 1) := by decide +kernel
theorem dX10_pier_132 : decode cX10_pier 132 = .ok (.putfield 116, 3) := by decide +kernel
theorem dX10_pier_135 : decode cX10_pier 135 = .ok (.aload_n 0, 1) := by decide +kernel
theorem dX10_pier_136 : decode cX10_pier 136 = .ok (.getfield 116, 3) := by decide +kernel
theorem dX10_pier_139 : decode cX10_pier 139 = .ok (.iconst 1, 1) := by decide +kernel
theorem dX10_pier_140 : decode cX10_pier 140 = .ok (.isub, 1) := by decide +kernel
theorem dX10_pier_141 : decode cX10_pier 141 = .ok (.ireturn, 1) := by decide +kernel
theorem dX10_tree_0 : decode cX10_tree 0 = .ok (.aload_n 0, 1) := by decide +kernel
theorem dX10_tree_1 : decode cX10_tree 1 = .ok (.iconst 0, 1) := by decide +kernel
theorem dX10_tree_2 : decode cX10_tree 2 = .ok (.putfield 113, 3) := by decide +kernel
theorem dX10_tree_5 : decode cX10_tree 5 = .ok (.aload_n 0, 1) := by decide +kernel
theorem dX10_tree_6 : decode cX10_tree 6 = .ok (.iload_n 1, 1) := by decide +kernel
theorem dX10_tree_7 : decode cX10_tree 7 = .ok (.invokevirtual 145, 3) := by decide +kernel
theorem dX10_tree_10 : decode cX10_tree 10 = .ok (.ifCond .eq 29, 3) := by decide +kernel
theorem dX10_tree_13 : decode cX10_tree 13 = .ok (.iload_n 2, 1) := by decide +kernel
theorem dX10_tree_14 : decode cX10_tree 14 = .ok (.invokestatic 126, 3) := by decide +kernel
theorem dX10_tree_17 : decode cX10_tree 17 = .ok (.ifCond .eq 22, 3) := by decide +kernel
theorem dX10_tree_20 : decode cX10_tree 20 = .ok (.iload_n 3, 1) := by decide +kernel
theorem dX10_tree_21 : decode cX10_tree 21 = .ok (.iconst 1, 1) := by decide +kernel
theorem dX10_tree_22 : decode cX10_tree 22 = .ok (.bipush 20, 2) := by decide +kernel
theorem dX10_tree_24 : decode cX10_tree 24 = .ok (.invokestatic 119, 3) := by decide +kernel
theorem dX10_tree_27 : decode cX10_tree 27 = .ok (.ifCond .eq 12, 3) := by decide +kernel
theorem dX10_tree_30 : decode cX10_tree 30 = .ok (.aload_n 0, 1) := by decide +kernel
theorem dX10_tree_31 : decode cX10_tree 31 = .ok (.getfield 148, 3) := by decide +kernel
theorem dX10_tree_34 : decode cX10_tree 34 = .ok (.bipush 20, 2) := by decide +kernel
theorem dX10_tree_36 : decode cX10_tree 36 = .ok (.if_icmp .ne 5, 3) := by decide +kernel
theorem dX10_tree_39 : decode cX10_tree 39 = .ok (.iconst (-1), 1) := by decide +kernel
theorem dX10_tree_40 : decode cX10_tree 40 = .ok (.ireturn, 1) := by decide +kernel
theorem dX10_tree_41 : decode cX10_tree 41 = .ok (.aload_n 0, 1) := by decide +kernel
theorem dX10_tree_42 : decode cX10_tree 42 = .ok (.getfield 28, 3) := by decide +kernel
theorem dX10_tree_45 : decode cX10_tree 45 = .ok (.aload_n 0, 1) := by decide +kernel
theorem dX10_tree_46 : decode cX10_tree 46 = .ok (.getfield 148, 3) := by decide +kernel
theorem dX10_tree_49 : decode cX10_tree 49 = .ok (.iload_n 1, 1) := by decide +kernel
theorem dX10_tree_50 : decode cX10_tree 50 = .ok (.iastore, 1) := by decide +kernel
theorem dX10_tree_51 : decode cX10_tree 51 = .ok (.aload_n 0, 1) := by decide +kernel
theorem dX10_tree_52 : decode cX10_tree 52 = .ok (.getfield 31, 3) := by decide +kernel
theorem dX10_tree_55 : decode cX10_tree 55 = .ok (.aload_n 0, 1) := by decide +kernel
theorem dX10_tree_56 : decode cX10_tree 56 = .ok (.getfield 148, 3) := by decide +kernel
theorem dX10_tree_59 : decode cX10_tree 59 = .ok (.iload_n 2, 1) := by decide +kernel
theorem dX10_tree_60 : decode cX10_tree 60 = .ok (.iastore, 1) := by decide +kernel
theorem dX10_tree_61 : decode cX10_tree 61 = .ok (.aload_n 0, 1) := by decide +kernel
theorem dX10_tree_62 : decode cX10_tree 62 = .ok (.getfield 34, 3) := by decide +kernel
theorem dX10_tree_65 : decode cX10_tree 65 = .ok (.aload_n 0, 1) := by decide +kernel
theorem dX10_tree_66 : decode cX10_tree 66 = .ok (.getfield 148, 3) := by decide +kernel
theorem dX10_tree_69 : decode cX10_tree 69 = .ok (.iload_n 3, 1) := by decide +kernel
theorem dX10_tree_70 : decode cX10_tree 70 = .ok (.iastore, 1) := by decide +kernel
theorem dX10_tree_71 : decode cX10_tree 71 = .ok (.aload_n 0, 1) := by decide +kernel
theorem dX10_tree_72 : decode cX10_tree 72 = .ok (.dup, 1) := by decide +kernel
theorem dX10_tree_73 : decode cX10_tree 73 = .ok (.getfield 148, 3) := by decide +kernel
theorem dX10_tree_76 : decode cX10_tree 76 = .ok (.iconst 1, 1) := by decide +kernel
theorem dX10_tree_77 : decode cX10_tree 77 = .ok (.iadd, 1) := by decide +kernel
theorem dX10_tree_78 : decode cX10_tree 78 = .ok (.putfield 148, 3) := by decide +kernel
theorem dX10_tree_81 : decode cX10_tree 81 = .ok (.aload_n 0, 1) := by decide +kernel
theorem dX10_tree_82 : decode cX10_tree 82 = .ok (.invokevirtual 130, 3) := by decide +kernel
theorem dX10_tree_85 : decode cX10_tree 85 = .ok (.aload_n 0, 1) := by decide +kernel
theorem dX10_tree_86 : decode cX10_tree 86 = .ok (.getfield 148, 3) := by decide +kernel
theorem dX10_tree_89 : decode cX10_tree 89 = .ok (.ireturn, 1) := by decide +kernel
theorem dX10_goal_0 : decode cX10_goal 0 = .ok (.aload_n 0, 1) := by decide +kernel
theorem dX10_goal_1 : decode cX10_goal 1 = .ok (.getfield 16, 3) := by decide +kernel
theorem dX10_goal_4 : decode cX10_goal 4 = .ok (.iload_n 1, 1) := by decide +kernel
theorem dX10_goal_5 : decode cX10_goal 5 = .ok (.iaload, 1) := by decide +kernel
theorem dX10_goal_6 : decode cX10_goal 6 = .ok (.istore 4, 2) := by decide +kernel
theorem dX10_goal_8 : decode cX10_goal 8 = .ok (.iconst 0, 1) := by decide +kernel
theorem dX10_goal_9 : decode cX10_goal 9 = .ok (.istore 5, 2) := by decide +kernel
theorem dX10_goal_11 : decode cX10_goal 11 = .ok (.iload 5, 2) := by decide +kernel
theorem dX10_goal_13 : decode cX10_goal 13 = .ok (.aload_n 0, 1) := by decide +kernel
theorem dX10_goal_14 : decode cX10_goal 14 = .ok (.getfield 148, 3) := by decide +kernel
theorem dX10_goal_17 : decode cX10_goal 17 = .ok (.if_icmp .ge 43, 3) := by decide +kernel
theorem dX10_goal_20 : decode cX10_goal 20 = .ok (.aload_n 0, 1) := by decide +kernel
theorem dX10_goal_21 : decode cX10_goal 21 = .ok (.getfield 28, 3) := by decide +kernel
theorem dX10_goal_24 : decode cX10_goal 24 = .ok (.iload 5, 2) := by decide +kernel
theorem dX10_goal_26 : decode cX10_goal 26 = .ok (.iaload, 1) := by decide +kernel
theorem dX10_goal_27 : decode cX10_goal 27 = .ok (.iload_n 1, 1) := by decide +kernel
theorem dX10_goal_28 : decode cX10_goal 28 = .ok (.if_icmp .ne 26, 3) := by decide +kernel
theorem dX10_goal_31 : decode cX10_goal 31 = .ok (.aload_n 0, 1) := by decide +kernel
theorem dX10_goal_32 : decode cX10_goal 32 = .ok (.getfield 31, 3) := by decide +kernel
theorem dX10_goal_35 : decode cX10_goal 35 = .ok (.iload 5, 2) := by decide +kernel
theorem dX10_goal_37 : decode cX10_goal 37 = .ok (.iaload, 1) := by decide +kernel
theorem dX10_goal_38 : decode cX10_goal 38 = .ok (.iload_n 3, 1) := by decide +kernel
theorem dX10_goal_39 : decode cX10_goal 39 = .ok (.if_icmp .gt 15, 3) := by decide +kernel
theorem dX10_goal_42 : decode cX10_goal 42 = .ok (.iload 4, 2) := by decide +kernel
theorem dX10_goal_44 : decode cX10_goal 44 = .ok (.aload_n 0, 1) := by decide +kernel
theorem dX10_goal_45 : decode cX10_goal 45 = .ok (.getfield 34, 3) := by decide +kernel
theorem dX10_goal_48 : decode cX10_goal 48 = .ok (.iload 5, 2) := by decide +kernel
theorem dX10_goal_50 : decode cX10_goal 50 = .ok (.iaload, 1) := by decide +kernel
theorem dX10_goal_51 : decode cX10_goal 51 = .ok (.iadd, 1) := by decide +kernel
theorem dX10_goal_52 : decode cX10_goal 52 = .ok (.istore 4, 2) := by decide +kernel
theorem dX10_goal_54 : decode cX10_goal 54 = .ok (.iinc 5 1, 3) := by decide +kernel
theorem dX10_goal_57 : decode cX10_goal 57 = .ok (.goto (-46), 3) := by decide +kernel
theorem dX10_goal_60 : decode cX10_goal 60 = .ok (.aload_n 0, 1) := by decide +kernel
theorem dX10_goal_61 : decode cX10_goal 61 = .ok (.getfield 19, 3) := by decide +kernel
theorem dX10_goal_64 : decode cX10_goal 64 = .ok (.iload_n 1, 1) := by decide +kernel
theorem dX10_goal_65 : decode cX10_goal 65 = .ok (.iaload, 1) := by decide +kernel
theorem dX10_goal_66 : decode cX10_goal 66 = .ok (.iload_n 2, 1) := by decide +kernel
theorem dX10_goal_67 : decode cX10_goal 67 = .ok (.bipush 8, 2) := by decide +kernel
theorem dX10_goal_69 : decode cX10_goal 69 = .ok (.idiv, 1) := by decide +kernel
theorem dX10_goal_70 : decode cX10_goal 70 = .ok (.iconst 1, 1) := by decide +kernel
theorem dX10_goal_71 : decode cX10_goal 71 = .ok (.iadd, 1) := by decide +kernel
theorem dX10_goal_72 : decode cX10_goal 72 = .ok (.aload_n 0, 1) := by decide +kernel
theorem dX10_goal_73 : decode cX10_goal 73 = .ok (.getfield 9, 3) := by decide +kernel
theorem dX10_goal_76 : decode cX10_goal 76 = .ok (.iload_n 3, 1) := by decide +kernel
theorem dX10_goal_77 : decode cX10_goal 77 = .ok (.iaload, 1) := by decide +kernel
theorem dX10_goal_78 : decode cX10_goal 78 = .ok (.imul, 1) := by decide +kernel
theorem dX10_goal_79 : decode cX10_goal 79 = .ok (.iload 4, 2) := by decide +kernel
theorem dX10_goal_81 : decode cX10_goal 81 = .ok (.imul, 1) := by decide +kernel
theorem dX10_goal_82 : decode cX10_goal 82 = .ok (.bipush 100, 2) := by decide +kernel
theorem dX10_goal_84 : decode cX10_goal 84 = .ok (.idiv, 1) := by decide +kernel
theorem dX10_goal_85 : decode cX10_goal 85 = .ok (.invokestatic 133, 3) := by decide +kernel
theorem dX10_goal_88 : decode cX10_goal 88 = .ok (.ireturn, 1) := by decide +kernel
theorem dX10_make_0 : decode cX10_make 0 = .ok (.aload_n 0, 1) := by decide +kernel
theorem dX10_make_1 : decode cX10_make 1 = .ok (.getfield 93, 3) := by decide +kernel
theorem dX10_make_4 : decode cX10_make 4 = .ok (.iload_n 1, 1) := by decide +kernel
theorem dX10_make_5 : decode cX10_make 5 = .ok (.baload, 1) := by decide +kernel
theorem dX10_make_6 : decode cX10_make 6 = .ok (.ifCond .eq 4, 3) := by decide +kernel
theorem dX10_make_9 : decode cX10_make 9 = .ok (.return_, 1) := by decide +kernel
theorem dX10_make_10 : decode cX10_make 10 = .ok (.aload_n 0, 1) := by decide +kernel
theorem dX10_make_11 : decode cX10_make 11 = .ok (.getfield 93, 3) := by decide +kernel
theorem dX10_make_14 : decode cX10_make 14 = .ok (.iload_n 1, 1) := by decide +kernel
theorem dX10_make_15 : decode cX10_make 15 = .ok (.iconst 1, 1) := by decide +kernel
theorem dX10_make_16 : decode cX10_make 16 = .ok (.bastore, 1) := by decide +kernel
theorem dX10_make_17 : decode cX10_make 17 = .ok (.iconst 0, 1) := by decide +kernel
theorem dX10_make_18 : decode cX10_make 18 = .ok (.istore_n 2, 1) := by decide +kernel
theorem dX10_make_19 : decode cX10_make 19 = .ok (.iload_n 2, 1) := by decide +kernel
theorem dX10_make_20 : decode cX10_make 20 = .ok (.bipush 64, 2) := by decide +kernel
theorem dX10_make_22 : decode cX10_make 22 = .ok (.if_icmp .ge 119, 3) := by decide +kernel
theorem dX10_make_25 : decode cX10_make 25 = .ok (.iconst 0, 1) := by decide +kernel
theorem dX10_make_26 : decode cX10_make 26 = .ok (.istore_n 3, 1) := by decide +kernel
theorem dX10_make_27 : decode cX10_make 27 = .ok (.iconst 0, 1) := by decide +kernel
theorem dX10_make_28 : decode cX10_make 28 = .ok (.istore 4, 2) := by decide +kernel
theorem dX10_make_30 : decode cX10_make 30 = .ok (.bipush 64, 2) := by decide +kernel
theorem dX10_make_32 : decode cX10_make 32 = .ok (.iload_n 1, 1) := by decide +kernel
theorem dX10_make_33 : decode cX10_make 33 = .ok (.imul, 1) := by decide +kernel
theorem dX10_make_34 : decode cX10_make 34 = .ok (.iload_n 2, 1) := by decide +kernel
theorem dX10_make_35 : decode cX10_make 35 = .ok (.iadd, 1) := by decide +kernel
theorem dX10_make_36 : decode cX10_make 36 = .ok (.sipush 400, 3) := by decide +kernel
theorem dX10_make_39 : decode cX10_make 39 = .ok (.imul, 1) := by decide +kernel
theorem dX10_make_40 : decode cX10_make 40 = .ok (.istore 5, 2) := by decide +kernel
theorem dX10_make_42 : decode cX10_make 42 = .ok (.iconst 0, 1) := by decide +kernel
theorem dX10_make_43 : decode cX10_make 43 = .ok (.istore 6, 2) := by decide +kernel
theorem dX10_make_45 : decode cX10_make 45 = .ok (.iload 6, 2) := by decide +kernel
theorem dX10_make_47 : decode cX10_make 47 = .ok (.sipush 400, 3) := by decide +kernel
theorem dX10_make_50 : decode cX10_make 50 = .ok (.if_icmp .ge 85, 3) := by decide +kernel
theorem dX10_make_53 : decode cX10_make 53 = .ok (.aload_n 0, 1) := by decide +kernel
theorem dX10_make_54 : decode cX10_make 54 = .ok (.iload_n 1, 1) := by decide +kernel
theorem dX10_make_55 : decode cX10_make 55 = .ok (.iload_n 2, 1) := by decide +kernel
theorem dX10_make_56 : decode cX10_make 56 = .ok (.iload 6, 2) := by decide +kernel
theorem dX10_make_58 : decode cX10_make 58 = .ok (.invokevirtual 151, 3) := by decide +kernel
theorem dX10_make_61 : decode cX10_make 61 = .ok (.istore 7, 2) := by decide +kernel
theorem dX10_make_63 : decode cX10_make 63 = .ok (.iload 7, 2) := by decide +kernel
theorem dX10_make_65 : decode cX10_make 65 = .ok (.iload_n 3, 1) := by decide +kernel
theorem dX10_make_66 : decode cX10_make 66 = .ok (.if_icmp .le 17, 3) := by decide +kernel
theorem dX10_make_69 : decode cX10_make 69 = .ok (.iload_n 3, 1) := by decide +kernel
theorem dX10_make_70 : decode cX10_make 70 = .ok (.iload 7, 2) := by decide +kernel
theorem dX10_make_72 : decode cX10_make 72 = .ok (.iload_n 3, 1) := by decide +kernel
theorem dX10_make_73 : decode cX10_make 73 = .ok (.isub, 1) := by decide +kernel
theorem dX10_make_74 : decode cX10_make 74 = .ok (.iconst 1, 1) := by decide +kernel
theorem dX10_make_75 : decode cX10_make 75 = .ok (.iadd, 1) := by decide +kernel
theorem dX10_make_76 : decode cX10_make 76 = .ok (.iconst 2, 1) := by decide +kernel
theorem dX10_make_77 : decode cX10_make 77 = .ok (.idiv, 1) := by decide +kernel
theorem dX10_make_78 : decode cX10_make 78 = .ok (.iadd, 1) := by decide +kernel
theorem dX10_make_79 : decode cX10_make 79 = .ok (.istore_n 3, 1) := by decide +kernel
theorem dX10_make_80 : decode cX10_make 80 = .ok (.goto 18, 3) := by decide +kernel
theorem dX10_make_83 : decode cX10_make 83 = .ok (.iload_n 3, 1) := by decide +kernel
theorem dX10_make_84 : decode cX10_make 84 = .ok (.iload_n 3, 1) := by decide +kernel
theorem dX10_make_85 : decode cX10_make 85 = .ok (.iload 7, 2) := by decide +kernel
theorem dX10_make_87 : decode cX10_make 87 = .ok (.isub, 1) := by decide +kernel
theorem dX10_make_88 : decode cX10_make 88 = .ok (.iload_n 2, 1) := by decide +kernel
theorem dX10_make_89 : decode cX10_make 89 = .ok (.bipush 8, 2) := by decide +kernel
theorem dX10_make_91 : decode cX10_make 91 = .ok (.irem, 1) := by decide +kernel
theorem dX10_make_92 : decode cX10_make 92 = .ok (.imul, 1) := by decide +kernel
theorem dX10_make_93 : decode cX10_make 93 = .ok (.bipush 8, 2) := by decide +kernel
theorem dX10_make_95 : decode cX10_make 95 = .ok (.idiv, 1) := by decide +kernel
theorem dX10_make_96 : decode cX10_make 96 = .ok (.isub, 1) := by decide +kernel
theorem dX10_make_97 : decode cX10_make 97 = .ok (.istore_n 3, 1) := by decide +kernel
theorem dX10_make_98 : decode cX10_make 98 = .ok (.iload 4, 2) := by decide +kernel
theorem dX10_make_100 : decode cX10_make 100 = .ok (.iload_n 3, 1) := by decide +kernel
theorem dX10_make_101 : decode cX10_make 101 = .ok (.invokestatic 139, 3) := by decide +kernel
theorem dX10_make_104 : decode cX10_make 104 = .ok (.istore 4, 2) := by decide +kernel
theorem dX10_make_106 : decode cX10_make 106 = .ok (.aload_n 0, 1) := by decide +kernel
theorem dX10_make_107 : decode cX10_make 107 = .ok (.getfield 87, 3) := by decide +kernel
theorem dX10_make_110 : decode cX10_make 110 = .ok (.iload 5, 2) := by decide +kernel
theorem dX10_make_112 : decode cX10_make 112 = .ok (.iload 6, 2) := by decide +kernel
theorem dX10_make_114 : decode cX10_make 114 = .ok (.iadd, 1) := by decide +kernel
theorem dX10_make_115 : decode cX10_make 115 = .ok (.iload_n 3, 1) := by decide +kernel
theorem dX10_make_116 : decode cX10_make 116 = .ok (.iastore, 1) := by decide +kernel
theorem dX10_make_117 : decode cX10_make 117 = .ok (.aload_n 0, 1) := by decide +kernel
theorem dX10_make_118 : decode cX10_make 118 = .ok (.getfield 90, 3) := by decide +kernel
theorem dX10_make_121 : decode cX10_make 121 = .ok (.iload 5, 2) := by decide +kernel
theorem dX10_make_123 : decode cX10_make 123 = .ok (.iload 6, 2) := by decide +kernel
theorem dX10_make_125 : decode cX10_make 125 = .ok (.iadd, 1) := by decide +kernel
theorem dX10_make_126 : decode cX10_make 126 = .ok (.iload 4, 2) := by decide +kernel
theorem dX10_make_128 : decode cX10_make 128 = .ok (.iastore, 1) := by decide +kernel
theorem dX10_make_129 : decode cX10_make 129 = .ok (.iinc 6 1, 3) := by decide +kernel
theorem dX10_make_132 : decode cX10_make 132 = .ok (.goto (-87), 3) := by decide +kernel
theorem dX10_make_135 : decode cX10_make 135 = .ok (.iinc 2 1, 3) := by decide +kernel
theorem dX10_make_138 : decode cX10_make 138 = .ok (.goto (-119), 3) := by decide +kernel
theorem dX10_make_141 : decode cX10_make 141 = .ok (.return_, 1) := by decide +kernel
theorem dX10_holeOf_0 : decode cX10_holeOf 0 = .ok (.aload_n 0, 1) := by decide +kernel
theorem dX10_holeOf_1 : decode cX10_holeOf 1 = .ok (.iload_n 1, 1) := by decide +kernel
theorem dX10_holeOf_2 : decode cX10_holeOf 2 = .ok (.invokevirtual 155, 3) := by decide +kernel
theorem dX10_holeOf_5 : decode cX10_holeOf 5 = .ok (.aload_n 0, 1) := by decide +kernel
theorem dX10_holeOf_6 : decode cX10_holeOf 6 = .ok (.getfield 87, 3) := by decide +kernel
theorem dX10_holeOf_9 : decode cX10_holeOf 9 = .ok (.bipush 64, 2) := by decide +kernel
theorem dX10_holeOf_11 : decode cX10_holeOf 11 = .ok (.iload_n 1, 1) := by decide +kernel
theorem dX10_holeOf_12 : decode cX10_holeOf 12 = .ok (.imul, 1) := by decide +kernel
theorem dX10_holeOf_13 : decode cX10_holeOf 13 = .ok (.iload_n 2, 1) := by decide +kernel
theorem dX10_holeOf_14 : decode cX10_holeOf 14 = .ok (.iadd, 1) := by decide +kernel
theorem dX10_holeOf_15 : decode cX10_holeOf 15 = .ok (.sipush 400, 3) := by decide +kernel
theorem dX10_holeOf_18 : decode cX10_holeOf 18 = .ok (.imul, 1) := by decide +kernel
theorem dX10_holeOf_19 : decode cX10_holeOf 19 = .ok (.iload_n 3, 1) := by decide +kernel
theorem dX10_holeOf_20 : decode cX10_holeOf 20 = .ok (.iadd, 1) := by decide +kernel
theorem dX10_holeOf_21 : decode cX10_holeOf 21 = .ok (.iaload, 1) := by decide +kernel
theorem dX10_holeOf_22 : decode cX10_holeOf 22 = .ok (.ireturn, 1) := by decide +kernel
theorem dX10_everOf_0 : decode cX10_everOf 0 = .ok (.aload_n 0, 1) := by decide +kernel
theorem dX10_everOf_1 : decode cX10_everOf 1 = .ok (.iload_n 1, 1) := by decide +kernel
theorem dX10_everOf_2 : decode cX10_everOf 2 = .ok (.invokevirtual 155, 3) := by decide +kernel
theorem dX10_everOf_5 : decode cX10_everOf 5 = .ok (.aload_n 0, 1) := by decide +kernel
theorem dX10_everOf_6 : decode cX10_everOf 6 = .ok (.getfield 90, 3) := by decide +kernel
theorem dX10_everOf_9 : decode cX10_everOf 9 = .ok (.bipush 64, 2) := by decide +kernel
theorem dX10_everOf_11 : decode cX10_everOf 11 = .ok (.iload_n 1, 1) := by decide +kernel
theorem dX10_everOf_12 : decode cX10_everOf 12 = .ok (.imul, 1) := by decide +kernel
theorem dX10_everOf_13 : decode cX10_everOf 13 = .ok (.iload_n 2, 1) := by decide +kernel
theorem dX10_everOf_14 : decode cX10_everOf 14 = .ok (.iadd, 1) := by decide +kernel
theorem dX10_everOf_15 : decode cX10_everOf 15 = .ok (.sipush 400, 3) := by decide +kernel
theorem dX10_everOf_18 : decode cX10_everOf 18 = .ok (.imul, 1) := by decide +kernel
theorem dX10_everOf_19 : decode cX10_everOf 19 = .ok (.iload_n 3, 1) := by decide +kernel
theorem dX10_everOf_20 : decode cX10_everOf 20 = .ok (.iadd, 1) := by decide +kernel
theorem dX10_everOf_21 : decode cX10_everOf 21 = .ok (.iaload, 1) := by decide +kernel
theorem dX10_everOf_22 : decode cX10_everOf 22 = .ok (.ireturn, 1) := by decide +kernel
theorem dX10_stateOf_0 : decode cX10_stateOf 0 = .ok (.aload_n 0, 1) := by decide +kernel
theorem dX10_stateOf_1 : decode cX10_stateOf 1 = .ok (.iload_n 1, 1) := by decide +kernel
theorem dX10_stateOf_2 : decode cX10_stateOf 2 = .ok (.iload_n 2, 1) := by decide +kernel
theorem dX10_stateOf_3 : decode cX10_stateOf 3 = .ok (.iload_n 3, 1) := by decide +kernel
theorem dX10_stateOf_4 : decode cX10_stateOf 4 = .ok (.invokevirtual 159, 3) := by decide +kernel
theorem dX10_stateOf_7 : decode cX10_stateOf 7 = .ok (.istore 4, 2) := by decide +kernel
theorem dX10_stateOf_9 : decode cX10_stateOf 9 = .ok (.iload 4, 2) := by decide +kernel
theorem dX10_stateOf_11 : decode cX10_stateOf 11 = .ok (.aload_n 0, 1) := by decide +kernel
theorem dX10_stateOf_12 : decode cX10_stateOf 12 = .ok (.getfield 22, 3) := by decide +kernel
theorem dX10_stateOf_15 : decode cX10_stateOf 15 = .ok (.iload_n 1, 1) := by decide +kernel
theorem dX10_stateOf_16 : decode cX10_stateOf 16 = .ok (.iaload, 1) := by decide +kernel
theorem dX10_stateOf_17 : decode cX10_stateOf 17 = .ok (.if_icmp .gt 7, 3) := by decide +kernel
theorem dX10_stateOf_20 : decode cX10_stateOf 20 = .ok (.iconst 0, 1) := by decide +kernel
theorem dX10_stateOf_21 : decode cX10_stateOf 21 = .ok (.goto 26, 3) := by decide +kernel
theorem dX10_stateOf_24 : decode cX10_stateOf 24 = .ok (.iload 4, 2) := by decide +kernel
theorem dX10_stateOf_26 : decode cX10_stateOf 26 = .ok (.aload_n 0, 1) := by decide +kernel
theorem dX10_stateOf_27 : decode cX10_stateOf 27 = .ok (.getfield 22, 3) := by decide +kernel
theorem dX10_stateOf_30 : decode cX10_stateOf 30 = .ok (.iload_n 1, 1) := by decide +kernel
theorem dX10_stateOf_31 : decode cX10_stateOf 31 = .ok (.iaload, 1) := by decide +kernel
theorem dX10_stateOf_32 : decode cX10_stateOf 32 = .ok (.aload_n 0, 1) := by decide +kernel
theorem dX10_stateOf_33 : decode cX10_stateOf 33 = .ok (.getfield 25, 3) := by decide +kernel
theorem dX10_stateOf_36 : decode cX10_stateOf 36 = .ok (.iload_n 1, 1) := by decide +kernel
theorem dX10_stateOf_37 : decode cX10_stateOf 37 = .ok (.iaload, 1) := by decide +kernel
theorem dX10_stateOf_38 : decode cX10_stateOf 38 = .ok (.iadd, 1) := by decide +kernel
theorem dX10_stateOf_39 : decode cX10_stateOf 39 = .ok (.if_icmp .gt 7, 3) := by decide +kernel
theorem dX10_stateOf_42 : decode cX10_stateOf 42 = .ok (.iconst 1, 1) := by decide +kernel
theorem dX10_stateOf_43 : decode cX10_stateOf 43 = .ok (.goto 4, 3) := by decide +kernel
theorem dX10_stateOf_46 : decode cX10_stateOf 46 = .ok (.iconst 2, 1) := by decide +kernel
theorem dX10_stateOf_47 : decode cX10_stateOf 47 = .ok (.ireturn, 1) := by decide +kernel
theorem dX10_hole_0 : decode cX10_hole 0 = .ok (.aload_n 0, 1) := by decide +kernel
theorem dX10_hole_1 : decode cX10_hole 1 = .ok (.iconst 0, 1) := by decide +kernel
theorem dX10_hole_2 : decode cX10_hole 2 = .ok (.putfield 113, 3) := by decide +kernel
theorem dX10_hole_5 : decode cX10_hole 5 = .ok (.aload_n 0, 1) := by decide +kernel
theorem dX10_hole_6 : decode cX10_hole 6 = .ok (.iload_n 1, 1) := by decide +kernel
theorem dX10_hole_7 : decode cX10_hole 7 = .ok (.invokevirtual 145, 3) := by decide +kernel
theorem dX10_hole_10 : decode cX10_hole 10 = .ok (.ifCond .eq 17, 3) := by decide +kernel
theorem dX10_hole_13 : decode cX10_hole 13 = .ok (.iload_n 2, 1) := by decide +kernel
theorem dX10_hole_14 : decode cX10_hole 14 = .ok (.invokestatic 162, 3) := by decide +kernel
theorem dX10_hole_17 : decode cX10_hole 17 = .ok (.ifCond .eq 10, 3) := by decide +kernel
theorem dX10_hole_20 : decode cX10_hole 20 = .ok (.iload_n 3, 1) := by decide +kernel
theorem dX10_hole_21 : decode cX10_hole 21 = .ok (.invokestatic 126, 3) := by decide +kernel
theorem dX10_hole_24 : decode cX10_hole 24 = .ok (.ifCond .ne 5, 3) := by decide +kernel
theorem dX10_hole_27 : decode cX10_hole 27 = .ok (.iconst (-1), 1) := by decide +kernel
theorem dX10_hole_28 : decode cX10_hole 28 = .ok (.ireturn, 1) := by decide +kernel
theorem dX10_hole_29 : decode cX10_hole 29 = .ok (.iload 4, 2) := by decide +kernel
theorem dX10_hole_31 : decode cX10_hole 31 = .ok (.tableswitch 61 0 3 #[29, 37, 45, 53], 29) := by decide +kernel
theorem dX10_hole_60 : decode cX10_hole 60 = .ok (.aload_n 0, 1) := by decide +kernel
theorem dX10_hole_61 : decode cX10_hole 61 = .ok (.iload_n 1, 1) := by decide +kernel
theorem dX10_hole_62 : decode cX10_hole 62 = .ok (.iload_n 2, 1) := by decide +kernel
theorem dX10_hole_63 : decode cX10_hole 63 = .ok (.iload_n 3, 1) := by decide +kernel
theorem dX10_hole_64 : decode cX10_hole 64 = .ok (.invokevirtual 165, 3) := by decide +kernel
theorem dX10_hole_67 : decode cX10_hole 67 = .ok (.ireturn, 1) := by decide +kernel
theorem dX10_hole_68 : decode cX10_hole 68 = .ok (.aload_n 0, 1) := by decide +kernel
theorem dX10_hole_69 : decode cX10_hole 69 = .ok (.iload_n 1, 1) := by decide +kernel
theorem dX10_hole_70 : decode cX10_hole 70 = .ok (.iload_n 2, 1) := by decide +kernel
theorem dX10_hole_71 : decode cX10_hole 71 = .ok (.iload_n 3, 1) := by decide +kernel
theorem dX10_hole_72 : decode cX10_hole 72 = .ok (.invokevirtual 159, 3) := by decide +kernel
theorem dX10_hole_75 : decode cX10_hole 75 = .ok (.ireturn, 1) := by decide +kernel
theorem dX10_hole_76 : decode cX10_hole 76 = .ok (.aload_n 0, 1) := by decide +kernel
theorem dX10_hole_77 : decode cX10_hole 77 = .ok (.iload_n 1, 1) := by decide +kernel
theorem dX10_hole_78 : decode cX10_hole 78 = .ok (.iload_n 2, 1) := by decide +kernel
theorem dX10_hole_79 : decode cX10_hole 79 = .ok (.iload_n 3, 1) := by decide +kernel
theorem dX10_hole_80 : decode cX10_hole 80 = .ok (.invokevirtual 151, 3) := by decide +kernel
theorem dX10_hole_83 : decode cX10_hole 83 = .ok (.ireturn, 1) := by decide +kernel
theorem dX10_hole_84 : decode cX10_hole 84 = .ok (.aload_n 0, 1) := by decide +kernel
theorem dX10_hole_85 : decode cX10_hole 85 = .ok (.iload_n 1, 1) := by decide +kernel
theorem dX10_hole_86 : decode cX10_hole 86 = .ok (.iload_n 2, 1) := by decide +kernel
theorem dX10_hole_87 : decode cX10_hole 87 = .ok (.iload_n 3, 1) := by decide +kernel
theorem dX10_hole_88 : decode cX10_hole 88 = .ok (.invokevirtual 168, 3) := by decide +kernel
theorem dX10_hole_91 : decode cX10_hole 91 = .ok (.ireturn, 1) := by decide +kernel
theorem dX10_hole_92 : decode cX10_hole 92 = .ok (.iconst (-1), 1) := by decide +kernel
theorem dX10_hole_93 : decode cX10_hole 93 = .ok (.ireturn, 1) := by decide +kernel
theorem dX10_when_0 : decode cX10_when 0 = .ok (.aload_n 0, 1) := by decide +kernel
theorem dX10_when_1 : decode cX10_when 1 = .ok (.iconst 0, 1) := by decide +kernel
theorem dX10_when_2 : decode cX10_when 2 = .ok (.putfield 113, 3) := by decide +kernel
theorem dX10_when_5 : decode cX10_when 5 = .ok (.aload_n 0, 1) := by decide +kernel
theorem dX10_when_6 : decode cX10_when 6 = .ok (.iload_n 1, 1) := by decide +kernel
theorem dX10_when_7 : decode cX10_when 7 = .ok (.invokevirtual 145, 3) := by decide +kernel
theorem dX10_when_10 : decode cX10_when 10 = .ok (.ifCond .eq 19, 3) := by decide +kernel
theorem dX10_when_13 : decode cX10_when 13 = .ok (.iload_n 2, 1) := by decide +kernel
theorem dX10_when_14 : decode cX10_when 14 = .ok (.invokestatic 162, 3) := by decide +kernel
theorem dX10_when_17 : decode cX10_when 17 = .ok (.ifCond .eq 12, 3) := by decide +kernel
theorem dX10_when_20 : decode cX10_when 20 = .ok (.iload_n 3, 1) := by decide +kernel
theorem dX10_when_21 : decode cX10_when 21 = .ok (.iconst 0, 1) := by decide +kernel
theorem dX10_when_22 : decode cX10_when 22 = .ok (.iconst 1, 1) := by decide +kernel
theorem dX10_when_23 : decode cX10_when 23 = .ok (.invokestatic 119, 3) := by decide +kernel
theorem dX10_when_26 : decode cX10_when 26 = .ok (.ifCond .ne 5, 3) := by decide +kernel
theorem dX10_when_29 : decode cX10_when 29 = .ok (.iconst (-1), 1) := by decide +kernel
theorem dX10_when_30 : decode cX10_when 30 = .ok (.ireturn, 1) := by decide +kernel
theorem dX10_when_31 : decode cX10_when 31 = .ok (.iconst 0, 1) := by decide +kernel
theorem dX10_when_32 : decode cX10_when 32 = .ok (.istore 4, 2) := by decide +kernel
theorem dX10_when_34 : decode cX10_when 34 = .ok (.iload 4, 2) := by decide +kernel
theorem dX10_when_36 : decode cX10_when 36 = .ok (.sipush 400, 3) := by decide +kernel
theorem dX10_when_39 : decode cX10_when 39 = .ok (.if_icmp .ge 24, 3) := by decide +kernel
theorem dX10_when_42 : decode cX10_when 42 = .ok (.aload_n 0, 1) := by decide +kernel
theorem dX10_when_43 : decode cX10_when 43 = .ok (.iload_n 1, 1) := by decide +kernel
theorem dX10_when_44 : decode cX10_when 44 = .ok (.iload_n 2, 1) := by decide +kernel
theorem dX10_when_45 : decode cX10_when 45 = .ok (.iload 4, 2) := by decide +kernel
theorem dX10_when_47 : decode cX10_when 47 = .ok (.invokevirtual 168, 3) := by decide +kernel
theorem dX10_when_50 : decode cX10_when 50 = .ok (.iload_n 3, 1) := by decide +kernel
theorem dX10_when_51 : decode cX10_when 51 = .ok (.if_icmp .le 6, 3) := by decide +kernel
theorem dX10_when_54 : decode cX10_when 54 = .ok (.iload 4, 2) := by decide +kernel
theorem dX10_when_56 : decode cX10_when 56 = .ok (.ireturn, 1) := by decide +kernel
theorem dX10_when_57 : decode cX10_when 57 = .ok (.iinc 4 1, 3) := by decide +kernel
theorem dX10_when_60 : decode cX10_when 60 = .ok (.goto (-26), 3) := by decide +kernel
theorem dX10_when_63 : decode cX10_when 63 = .ok (.iconst (-1), 1) := by decide +kernel
theorem dX10_when_64 : decode cX10_when 64 = .ok (.ireturn, 1) := by decide +kernel
theorem dX10_isKnown_0 : decode cX10_isKnown 0 = .ok (.aload_n 0, 1) := by decide +kernel
theorem dX10_isKnown_1 : decode cX10_isKnown 1 = .ok (.getfield 49, 3) := by decide +kernel
theorem dX10_isKnown_4 : decode cX10_isKnown 4 = .ok (.iload_n 1, 1) := by decide +kernel
theorem dX10_isKnown_5 : decode cX10_isKnown 5 = .ok (.iaload, 1) := by decide +kernel
theorem dX10_isKnown_6 : decode cX10_isKnown 6 = .ok (.iload_n 2, 1) := by decide +kernel
theorem dX10_isKnown_7 : decode cX10_isKnown 7 = .ok (.if_icmp .gt 17, 3) := by decide +kernel
theorem dX10_isKnown_10 : decode cX10_isKnown 10 = .ok (.aload_n 0, 1) := by decide +kernel
theorem dX10_isKnown_11 : decode cX10_isKnown 11 = .ok (.getfield 52, 3) := by decide +kernel
theorem dX10_isKnown_14 : decode cX10_isKnown 14 = .ok (.iload_n 1, 1) := by decide +kernel
theorem dX10_isKnown_15 : decode cX10_isKnown 15 = .ok (.iaload, 1) := by decide +kernel
theorem dX10_isKnown_16 : decode cX10_isKnown 16 = .ok (.iload_n 2, 1) := by decide +kernel
theorem dX10_isKnown_17 : decode cX10_isKnown 17 = .ok (.if_icmp .le 7, 3) := by decide +kernel
theorem dX10_isKnown_20 : decode cX10_isKnown 20 = .ok (.iconst 1, 1) := by decide +kernel
theorem dX10_isKnown_21 : decode cX10_isKnown 21 = .ok (.goto 4, 3) := by decide +kernel
theorem dX10_isKnown_24 : decode cX10_isKnown 24 = .ok (.iconst 0, 1) := by decide +kernel
theorem dX10_isKnown_25 : decode cX10_isKnown 25 = .ok (.ireturn, 1) := by decide +kernel
theorem dX10_barsOf_0 : decode cX10_barsOf 0 = .ok (.aload_n 0, 1) := by decide +kernel
theorem dX10_barsOf_1 : decode cX10_barsOf 1 = .ok (.getfield 101, 3) := by decide +kernel
theorem dX10_barsOf_4 : decode cX10_barsOf 4 = .ok (.iload_n 1, 1) := by decide +kernel
theorem dX10_barsOf_5 : decode cX10_barsOf 5 = .ok (.baload, 1) := by decide +kernel
theorem dX10_barsOf_6 : decode cX10_barsOf 6 = .ok (.ifCond .eq 10, 3) := by decide +kernel
theorem dX10_barsOf_9 : decode cX10_barsOf 9 = .ok (.aload_n 0, 1) := by decide +kernel
theorem dX10_barsOf_10 : decode cX10_barsOf 10 = .ok (.getfield 97, 3) := by decide +kernel
theorem dX10_barsOf_13 : decode cX10_barsOf 13 = .ok (.iload_n 1, 1) := by decide +kernel
theorem dX10_barsOf_14 : decode cX10_barsOf 14 = .ok (.laload, 1) := by decide +kernel
theorem dX10_barsOf_15 : decode cX10_barsOf 15 = .ok (.lreturn, 1) := by decide +kernel
theorem dX10_barsOf_16 : decode cX10_barsOf 16 = .ok (.lconst 0, 1) := by decide +kernel
theorem dX10_barsOf_17 : decode cX10_barsOf 17 = .ok (.lstore_n 2, 1) := by decide +kernel
theorem dX10_barsOf_18 : decode cX10_barsOf 18 = .ok (.iconst 0, 1) := by decide +kernel
theorem dX10_barsOf_19 : decode cX10_barsOf 19 = .ok (.istore 4, 2) := by decide +kernel
theorem dX10_barsOf_21 : decode cX10_barsOf 21 = .ok (.iload 4, 2) := by decide +kernel
theorem dX10_barsOf_23 : decode cX10_barsOf 23 = .ok (.bipush 64, 2) := by decide +kernel
theorem dX10_barsOf_25 : decode cX10_barsOf 25 = .ok (.if_icmp .ge 53, 3) := by decide +kernel
theorem dX10_barsOf_28 : decode cX10_barsOf 28 = .ok (.aload_n 0, 1) := by decide +kernel
theorem dX10_barsOf_29 : decode cX10_barsOf 29 = .ok (.aload_n 0, 1) := by decide +kernel
theorem dX10_barsOf_30 : decode cX10_barsOf 30 = .ok (.getfield 37, 3) := by decide +kernel
theorem dX10_barsOf_33 : decode cX10_barsOf 33 = .ok (.iload_n 1, 1) := by decide +kernel
theorem dX10_barsOf_34 : decode cX10_barsOf 34 = .ok (.iaload, 1) := by decide +kernel
theorem dX10_barsOf_35 : decode cX10_barsOf 35 = .ok (.iload 4, 2) := by decide +kernel
theorem dX10_barsOf_37 : decode cX10_barsOf 37 = .ok (.aload_n 0, 1) := by decide +kernel
theorem dX10_barsOf_38 : decode cX10_barsOf 38 = .ok (.getfield 40, 3) := by decide +kernel
theorem dX10_barsOf_41 : decode cX10_barsOf 41 = .ok (.iload_n 1, 1) := by decide +kernel
theorem dX10_barsOf_42 : decode cX10_barsOf 42 = .ok (.iaload, 1) := by decide +kernel
theorem dX10_barsOf_43 : decode cX10_barsOf 43 = .ok (.invokevirtual 165, 3) := by decide +kernel
theorem dX10_barsOf_46 : decode cX10_barsOf 46 = .ok (.aload_n 0, 1) := by decide +kernel
theorem dX10_barsOf_47 : decode cX10_barsOf 47 = .ok (.getfield 43, 3) := by decide +kernel
theorem dX10_barsOf_50 : decode cX10_barsOf 50 = .ok (.iload_n 1, 1) := by decide +kernel
theorem dX10_barsOf_51 : decode cX10_barsOf 51 = .ok (.iaload, 1) := by decide +kernel
theorem dX10_barsOf_52 : decode cX10_barsOf 52 = .ok (.isub, 1) := by decide +kernel
theorem dX10_barsOf_53 : decode cX10_barsOf 53 = .ok (.invokestatic 171, 3) := by decide +kernel
theorem dX10_barsOf_56 : decode cX10_barsOf 56 = .ok (.aload_n 0, 1) := by decide +kernel
theorem dX10_barsOf_57 : decode cX10_barsOf 57 = .ok (.getfield 46, 3) := by decide +kernel
theorem dX10_barsOf_60 : decode cX10_barsOf 60 = .ok (.iload_n 1, 1) := by decide +kernel
theorem dX10_barsOf_61 : decode cX10_barsOf 61 = .ok (.iaload, 1) := by decide +kernel
theorem dX10_barsOf_62 : decode cX10_barsOf 62 = .ok (.if_icmp .le 10, 3) := by decide +kernel
theorem dX10_barsOf_65 : decode cX10_barsOf 65 = .ok (.lload_n 2, 1) := by decide +kernel
theorem dX10_barsOf_66 : decode cX10_barsOf 66 = .ok (.lconst 1, 1) := by decide +kernel
theorem dX10_barsOf_67 : decode cX10_barsOf 67 = .ok (.iload 4, 2) := by decide +kernel
theorem dX10_barsOf_69 : decode cX10_barsOf 69 = .ok (.lshl, 1) := by decide +kernel
theorem dX10_barsOf_70 : decode cX10_barsOf 70 = .ok (.lor, 1) := by decide +kernel
theorem dX10_barsOf_71 : decode cX10_barsOf 71 = .ok (.lstore_n 2, 1) := by decide +kernel
theorem dX10_barsOf_72 : decode cX10_barsOf 72 = .ok (.iinc 4 1, 3) := by decide +kernel
theorem dX10_barsOf_75 : decode cX10_barsOf 75 = .ok (.goto (-54), 3) := by decide +kernel
theorem dX10_barsOf_78 : decode cX10_barsOf 78 = .ok (.aload_n 0, 1) := by decide +kernel
theorem dX10_barsOf_79 : decode cX10_barsOf 79 = .ok (.getfield 101, 3) := by decide +kernel
theorem dX10_barsOf_82 : decode cX10_barsOf 82 = .ok (.iload_n 1, 1) := by decide +kernel
theorem dX10_barsOf_83 : decode cX10_barsOf 83 = .ok (.iconst 1, 1) := by decide +kernel
theorem dX10_barsOf_84 : decode cX10_barsOf 84 = .ok (.bastore, 1) := by decide +kernel
theorem dX10_barsOf_85 : decode cX10_barsOf 85 = .ok (.aload_n 0, 1) := by decide +kernel
theorem dX10_barsOf_86 : decode cX10_barsOf 86 = .ok (.getfield 97, 3) := by decide +kernel
theorem dX10_barsOf_89 : decode cX10_barsOf 89 = .ok (.iload_n 1, 1) := by decide +kernel
theorem dX10_barsOf_90 : decode cX10_barsOf 90 = .ok (.lload_n 2, 1) := by decide +kernel
theorem dX10_barsOf_91 : decode cX10_barsOf 91 = .ok (.lastore, 1) := by decide +kernel
theorem dX10_barsOf_92 : decode cX10_barsOf 92 = .ok (.lload_n 2, 1) := by decide +kernel
theorem dX10_barsOf_93 : decode cX10_barsOf 93 = .ok (.lreturn, 1) := by decide +kernel
theorem dX10_bars_0 : decode cX10_bars 0 = .ok (.aload_n 0, 1) := by decide +kernel
theorem dX10_bars_1 : decode cX10_bars 1 = .ok (.iload_n 1, 1) := by decide +kernel
theorem dX10_bars_2 : decode cX10_bars 2 = .ok (.invokevirtual 175, 3) := by decide +kernel
theorem dX10_bars_5 : decode cX10_bars 5 = .ok (.iload_n 2, 1) := by decide +kernel
theorem dX10_bars_6 : decode cX10_bars 6 = .ok (.invokestatic 179, 3) := by decide +kernel
theorem dX10_bars_9 : decode cX10_bars 9 = .ok (.ireturn, 1) := by decide +kernel
theorem dX10_free_0 : decode cX10_free 0 = .ok (.ldc2_w 183, 3) := by decide +kernel
theorem dX10_free_3 : decode cX10_free 3 = .ok (.lstore 4, 2) := by decide +kernel
theorem dX10_free_5 : decode cX10_free 5 = .ok (.iconst 0, 1) := by decide +kernel
theorem dX10_free_6 : decode cX10_free 6 = .ok (.istore 6, 2) := by decide +kernel
theorem dX10_free_8 : decode cX10_free 8 = .ok (.iload 6, 2) := by decide +kernel
theorem dX10_free_10 : decode cX10_free 10 = .ok (.aload_n 0, 1) := by decide +kernel
theorem dX10_free_11 : decode cX10_free 11 = .ok (.getfield 185, 3) := by decide +kernel
theorem dX10_free_14 : decode cX10_free 14 = .ok (.if_icmp .ge 51, 3) := by decide +kernel
theorem dX10_free_17 : decode cX10_free 17 = .ok (.iload 6, 2) := by decide +kernel
theorem dX10_free_19 : decode cX10_free 19 = .ok (.iload_n 3, 1) := by decide +kernel
theorem dX10_free_20 : decode cX10_free 20 = .ok (.if_icmp .eq 39, 3) := by decide +kernel
theorem dX10_free_23 : decode cX10_free 23 = .ok (.aload_n 0, 1) := by decide +kernel
theorem dX10_free_24 : decode cX10_free 24 = .ok (.getfield 37, 3) := by decide +kernel
theorem dX10_free_27 : decode cX10_free 27 = .ok (.iload 6, 2) := by decide +kernel
theorem dX10_free_29 : decode cX10_free 29 = .ok (.iaload, 1) := by decide +kernel
theorem dX10_free_30 : decode cX10_free 30 = .ok (.iload_n 1, 1) := by decide +kernel
theorem dX10_free_31 : decode cX10_free 31 = .ok (.if_icmp .ne 28, 3) := by decide +kernel
theorem dX10_free_34 : decode cX10_free 34 = .ok (.aload_n 0, 1) := by decide +kernel
theorem dX10_free_35 : decode cX10_free 35 = .ok (.iload 6, 2) := by decide +kernel
theorem dX10_free_37 : decode cX10_free 37 = .ok (.iload_n 2, 1) := by decide +kernel
theorem dX10_free_38 : decode cX10_free 38 = .ok (.invokevirtual 188, 3) := by decide +kernel
theorem dX10_free_41 : decode cX10_free 41 = .ok (.ifCond .eq 18, 3) := by decide +kernel
theorem dX10_free_44 : decode cX10_free 44 = .ok (.lload 4, 2) := by decide +kernel
theorem dX10_free_46 : decode cX10_free 46 = .ok (.aload_n 0, 1) := by decide +kernel
theorem dX10_free_47 : decode cX10_free 47 = .ok (.iload 6, 2) := by decide +kernel
theorem dX10_free_49 : decode cX10_free 49 = .ok (.invokevirtual 175, 3) := by decide +kernel
theorem dX10_free_52 : decode cX10_free 52 = .ok (.ldc2_w 183, 3) := by decide +kernel
theorem dX10_free_55 : decode cX10_free 55 = .ok (.lxor, 1) := by decide +kernel
theorem dX10_free_56 : decode cX10_free 56 = .ok (.land, 1) := by decide +kernel
theorem dX10_free_57 : decode cX10_free 57 = .ok (.lstore 4, 2) := by decide +kernel
theorem dX10_free_59 : decode cX10_free 59 = .ok (.iinc 6 1, 3) := by decide +kernel
theorem dX10_free_62 : decode cX10_free 62 = .ok (.goto (-54), 3) := by decide +kernel
theorem dX10_free_65 : decode cX10_free 65 = .ok (.lload 4, 2) := by decide +kernel
theorem dX10_free_67 : decode cX10_free 67 = .ok (.lreturn, 1) := by decide +kernel
