theorem dX10_common_0 : decode cX10_common 0 = .ok (.sipush 255, 3) := by decide +kernel
theorem dX10_common_3 : decode cX10_common 3 = .ok (.istore_n 3, 1) := by decide +kernel
theorem dX10_common_4 : decode cX10_common 4 = .ok (.iconst 0, 1) := by decide +kernel
theorem dX10_common_5 : decode cX10_common 5 = .ok (.istore 4, 2) := by decide +kernel
theorem dX10_common_7 : decode cX10_common 7 = .ok (.iload 4, 2) := by decide +kernel
theorem dX10_common_9 : decode cX10_common 9 = .ok (.aload_n 0, 1) := by decide +kernel
theorem dX10_common_10 : decode cX10_common 10 = .ok (.getfield 116, 3) := by decide +kernel
theorem dX10_common_13 : decode cX10_common 13 = .ok (.if_icmp .ge 83, 3) := by decide +kernel
theorem dX10_common_16 : decode cX10_common 16 = .ok (.aload_n 0, 1) := by decide +kernel
theorem dX10_common_17 : decode cX10_common 17 = .ok (.getfield 13, 3) := by decide +kernel
theorem dX10_common_20 : decode cX10_common 20 = .ok (.iload 4, 2) := by decide +kernel
theorem dX10_common_22 : decode cX10_common 22 = .ok (.iaload, 1) := by decide +kernel
theorem dX10_common_23 : decode cX10_common 23 = .ok (.iload_n 1, 1) := by decide +kernel
theorem dX10_common_24 : decode cX10_common 24 = .ok (.if_icmp .eq 6, 3) := by decide +kernel
theorem dX10_common_27 : decode cX10_common 27 = .ok (.goto 63, 3) := by decide +kernel
theorem dX10_common_30 : decode cX10_common 30 = .ok (.aload_n 0, 1) := by decide +kernel
theorem dX10_common_31 : decode cX10_common 31 = .ok (.iload 4, 2) := by decide +kernel
theorem dX10_common_33 : decode cX10_common 33 = .ok (.iload_n 2, 1) := by decide +kernel
theorem dX10_common_34 : decode cX10_common 34 = .ok (.iconst (-1), 1) := by decide +kernel
theorem dX10_common_35 : decode cX10_common 35 = .ok (.invokevirtual 192, 3) := by decide +kernel
theorem dX10_common_38 : decode cX10_common 38 = .ok (.lstore 5, 2) := by decide +kernel
theorem dX10_common_40 : decode cX10_common 40 = .ok (.iconst 0, 1) := by decide +kernel
theorem dX10_common_41 : decode cX10_common 41 = .ok (.istore 7, 2) := by decide +kernel
theorem dX10_common_43 : decode cX10_common 43 = .ok (.iconst 0, 1) := by decide +kernel
theorem dX10_common_44 : decode cX10_common 44 = .ok (.istore 8, 2) := by decide +kernel
theorem dX10_common_46 : decode cX10_common 46 = .ok (.iload 8, 2) := by decide +kernel
theorem dX10_common_48 : decode cX10_common 48 = .ok (.bipush 8, 2) := by decide +kernel
theorem dX10_common_50 : decode cX10_common 50 = .ok (.if_icmp .ge 35, 3) := by decide +kernel
theorem dX10_common_53 : decode cX10_common 53 = .ok (.lload 5, 2) := by decide +kernel
theorem dX10_common_55 : decode cX10_common 55 = .ok (.bipush 8, 2) := by decide +kernel
theorem dX10_common_57 : decode cX10_common 57 = .ok (.iload 8, 2) := by decide +kernel
theorem dX10_common_59 : decode cX10_common 59 = .ok (.imul, 1) := by decide +kernel
theorem dX10_common_60 : decode cX10_common 60 = .ok (.lushr, 1) := by decide +kernel
theorem dX10_common_61 : decode cX10_common 61 = .ok (.ldc2_w 196, 3) := by decide +kernel
theorem dX10_common_64 : decode cX10_common 64 = .ok (.land, 1) := by decide +kernel
theorem dX10_common_65 : decode cX10_common 65 = .ok (.lconst 0, 1) := by decide +kernel
theorem dX10_common_66 : decode cX10_common 66 = .ok (.lcmp, 1) := by decide +kernel
theorem dX10_common_67 : decode cX10_common 67 = .ok (.ifCond .eq 12, 3) := by decide +kernel
theorem dX10_common_70 : decode cX10_common 70 = .ok (.iload 7, 2) := by decide +kernel
theorem dX10_common_72 : decode cX10_common 72 = .ok (.iconst 1, 1) := by decide +kernel
theorem dX10_common_73 : decode cX10_common 73 = .ok (.iload 8, 2) := by decide +kernel
theorem dX10_common_75 : decode cX10_common 75 = .ok (.ishl, 1) := by decide +kernel
theorem dX10_common_76 : decode cX10_common 76 = .ok (.ior, 1) := by decide +kernel
theorem dX10_common_77 : decode cX10_common 77 = .ok (.istore 7, 2) := by decide +kernel
theorem dX10_common_79 : decode cX10_common 79 = .ok (.iinc 8 1, 3) := by decide +kernel
theorem dX10_common_82 : decode cX10_common 82 = .ok (.goto (-36), 3) := by decide +kernel
theorem dX10_common_85 : decode cX10_common 85 = .ok (.iload_n 3, 1) := by decide +kernel
theorem dX10_common_86 : decode cX10_common 86 = .ok (.iload 7, 2) := by decide +kernel
theorem dX10_common_88 : decode cX10_common 88 = .ok (.iand, 1) := by decide +kernel
theorem dX10_common_89 : decode cX10_common 89 = .ok (.istore_n 3, 1) := by decide +kernel
theorem dX10_common_90 : decode cX10_common 90 = .ok (.iinc 4 1, 3) := by decide +kernel
theorem dX10_common_93 : decode cX10_common 93 = .ok (.goto (-86), 3) := by decide +kernel
theorem dX10_common_96 : decode cX10_common 96 = .ok (.iload_n 3, 1) := by decide +kernel
theorem dX10_common_97 : decode cX10_common 97 = .ok (.ireturn, 1) := by decide +kernel
theorem dX10_keptOn_0 : decode cX10_keptOn 0 = .ok (.aload_n 0, 1) := by decide +kernel
theorem dX10_keptOn_1 : decode cX10_keptOn 1 = .ok (.aload_n 0, 1) := by decide +kernel
theorem dX10_keptOn_2 : decode cX10_keptOn 2 = .ok (.getfield 13, 3) := by decide +kernel
theorem dX10_keptOn_5 : decode cX10_keptOn 5 = .ok (.iload_n 1, 1) := by decide +kernel
theorem dX10_keptOn_6 : decode cX10_keptOn 6 = .ok (.iaload, 1) := by decide +kernel
theorem dX10_keptOn_7 : decode cX10_keptOn 7 = .ok (.iload_n 2, 1) := by decide +kernel
theorem dX10_keptOn_8 : decode cX10_keptOn 8 = .ok (.invokevirtual 198, 3) := by decide +kernel
theorem dX10_keptOn_11 : decode cX10_keptOn 11 = .ok (.istore_n 3, 1) := by decide +kernel
theorem dX10_keptOn_12 : decode cX10_keptOn 12 = .ok (.aload_n 0, 1) := by decide +kernel
theorem dX10_keptOn_13 : decode cX10_keptOn 13 = .ok (.iload_n 1, 1) := by decide +kernel
theorem dX10_keptOn_14 : decode cX10_keptOn 14 = .ok (.iload_n 2, 1) := by decide +kernel
theorem dX10_keptOn_15 : decode cX10_keptOn 15 = .ok (.iconst (-1), 1) := by decide +kernel
theorem dX10_keptOn_16 : decode cX10_keptOn 16 = .ok (.invokevirtual 192, 3) := by decide +kernel
theorem dX10_keptOn_19 : decode cX10_keptOn 19 = .ok (.lstore 4, 2) := by decide +kernel
theorem dX10_keptOn_21 : decode cX10_keptOn 21 = .ok (.iconst 0, 1) := by decide +kernel
theorem dX10_keptOn_22 : decode cX10_keptOn 22 = .ok (.istore 6, 2) := by decide +kernel
theorem dX10_keptOn_24 : decode cX10_keptOn 24 = .ok (.iload 6, 2) := by decide +kernel
theorem dX10_keptOn_26 : decode cX10_keptOn 26 = .ok (.bipush 8, 2) := by decide +kernel
theorem dX10_keptOn_28 : decode cX10_keptOn 28 = .ok (.if_icmp .ge 36, 3) := by decide +kernel
theorem dX10_keptOn_31 : decode cX10_keptOn 31 = .ok (.iload_n 3, 1) := by decide +kernel
theorem dX10_keptOn_32 : decode cX10_keptOn 32 = .ok (.iload 6, 2) := by decide +kernel
theorem dX10_keptOn_34 : decode cX10_keptOn 34 = .ok (.ishr, 1) := by decide +kernel
theorem dX10_keptOn_35 : decode cX10_keptOn 35 = .ok (.iconst 1, 1) := by decide +kernel
theorem dX10_keptOn_36 : decode cX10_keptOn 36 = .ok (.iand, 1) := by decide +kernel
theorem dX10_keptOn_37 : decode cX10_keptOn 37 = .ok (.ifCond .ne 21, 3) := by decide +kernel
theorem dX10_keptOn_40 : decode cX10_keptOn 40 = .ok (.lload 4, 2) := by decide +kernel
theorem dX10_keptOn_42 : decode cX10_keptOn 42 = .ok (.ldc2_w 196, 3) := by decide +kernel
theorem dX10_keptOn_45 : decode cX10_keptOn 45 = .ok (.bipush 8, 2) := by decide +kernel
theorem dX10_keptOn_47 : decode cX10_keptOn 47 = .ok (.iload 6, 2) := by decide +kernel
theorem dX10_keptOn_49 : decode cX10_keptOn 49 = .ok (.imul, 1) := by decide +kernel
theorem dX10_keptOn_50 : decode cX10_keptOn 50 = .ok (.lshl, 1) := by decide +kernel
theorem dX10_keptOn_51 : decode cX10_keptOn 51 = .ok (.ldc2_w 183, 3) := by decide +kernel
theorem dX10_keptOn_54 : decode cX10_keptOn 54 = .ok (.lxor, 1) := by decide +kernel
theorem dX10_keptOn_55 : decode cX10_keptOn 55 = .ok (.land, 1) := by decide +kernel
theorem dX10_keptOn_56 : decode cX10_keptOn 56 = .ok (.lstore 4, 2) := by decide +kernel
theorem dX10_keptOn_58 : decode cX10_keptOn 58 = .ok (.iinc 6 1, 3) := by decide +kernel
theorem dX10_keptOn_61 : decode cX10_keptOn 61 = .ok (.goto (-37), 3) := by decide +kernel
theorem dX10_keptOn_64 : decode cX10_keptOn 64 = .ok (.lload 4, 2) := by decide +kernel
theorem dX10_keptOn_66 : decode cX10_keptOn 66 = .ok (.lreturn, 1) := by decide +kernel
theorem dX10_has_0 : decode cX10_has 0 = .ok (.lload_n 0, 1) := by decide +kernel
theorem dX10_has_1 : decode cX10_has 1 = .ok (.iload_n 2, 1) := by decide +kernel
theorem dX10_has_2 : decode cX10_has 2 = .ok (.lushr, 1) := by decide +kernel
theorem dX10_has_3 : decode cX10_has 3 = .ok (.lconst 1, 1) := by decide +kernel
theorem dX10_has_4 : decode cX10_has 4 = .ok (.land, 1) := by decide +kernel
theorem dX10_has_5 : decode cX10_has 5 = .ok (.lconst 1, 1) := by decide +kernel
theorem dX10_has_6 : decode cX10_has 6 = .ok (.lcmp, 1) := by decide +kernel
theorem dX10_has_7 : decode cX10_has 7 = .ok (.ifCond .ne 7, 3) := by decide +kernel
theorem dX10_has_10 : decode cX10_has 10 = .ok (.iconst 1, 1) := by decide +kernel
theorem dX10_has_11 : decode cX10_has 11 = .ok (.goto 4, 3) := by decide +kernel
theorem dX10_has_14 : decode cX10_has 14 = .ok (.iconst 0, 1) := by decide +kernel
theorem dX10_has_15 : decode cX10_has 15 = .ok (.ireturn, 1) := by decide +kernel
theorem dX10_many_0 : decode cX10_many 0 = .ok (.lload_n 0, 1) := by decide +kernel
theorem dX10_many_1 : decode cX10_many 1 = .ok (.invokestatic 201, 3) := by decide +kernel
theorem dX10_many_4 : decode cX10_many 4 = .ok (.ireturn, 1) := by decide +kernel
theorem dX10_kept_0 : decode cX10_kept 0 = .ok (.aload_n 0, 1) := by decide +kernel
theorem dX10_kept_1 : decode cX10_kept 1 = .ok (.iconst 0, 1) := by decide +kernel
theorem dX10_kept_2 : decode cX10_kept 2 = .ok (.putfield 113, 3) := by decide +kernel
theorem dX10_kept_5 : decode cX10_kept 5 = .ok (.aload_n 0, 1) := by decide +kernel
theorem dX10_kept_6 : decode cX10_kept 6 = .ok (.iload_n 1, 1) := by decide +kernel
theorem dX10_kept_7 : decode cX10_kept 7 = .ok (.invokevirtual 145, 3) := by decide +kernel
theorem dX10_kept_10 : decode cX10_kept 10 = .ok (.ifCond .eq 10, 3) := by decide +kernel
theorem dX10_kept_13 : decode cX10_kept 13 = .ok (.iload_n 2, 1) := by decide +kernel
theorem dX10_kept_14 : decode cX10_kept 14 = .ok (.invokestatic 162, 3) := by decide +kernel
theorem dX10_kept_17 : decode cX10_kept 17 = .ok (.ifCond .ne 5, 3) := by decide +kernel
theorem dX10_kept_20 : decode cX10_kept 20 = .ok (.iconst (-1), 1) := by decide +kernel
theorem dX10_kept_21 : decode cX10_kept 21 = .ok (.ireturn, 1) := by decide +kernel
theorem dX10_kept_22 : decode cX10_kept 22 = .ok (.aload_n 0, 1) := by decide +kernel
theorem dX10_kept_23 : decode cX10_kept 23 = .ok (.iload_n 1, 1) := by decide +kernel
theorem dX10_kept_24 : decode cX10_kept 24 = .ok (.aload_n 0, 1) := by decide +kernel
theorem dX10_kept_25 : decode cX10_kept 25 = .ok (.getfield 55, 3) := by decide +kernel
theorem dX10_kept_28 : decode cX10_kept 28 = .ok (.invokevirtual 207, 3) := by decide +kernel
theorem dX10_kept_31 : decode cX10_kept 31 = .ok (.iload_n 2, 1) := by decide +kernel
theorem dX10_kept_32 : decode cX10_kept 32 = .ok (.invokestatic 179, 3) := by decide +kernel
theorem dX10_kept_35 : decode cX10_kept 35 = .ok (.ifCond .eq 7, 3) := by decide +kernel
theorem dX10_kept_38 : decode cX10_kept 38 = .ok (.iconst 1, 1) := by decide +kernel
theorem dX10_kept_39 : decode cX10_kept 39 = .ok (.goto 25, 3) := by decide +kernel
theorem dX10_kept_42 : decode cX10_kept 42 = .ok (.aload_n 0, 1) := by decide +kernel
theorem dX10_kept_43 : decode cX10_kept 43 = .ok (.iload_n 1, 1) := by decide +kernel
theorem dX10_kept_44 : decode cX10_kept 44 = .ok (.aload_n 0, 1) := by decide +kernel
theorem dX10_kept_45 : decode cX10_kept 45 = .ok (.getfield 55, 3) := by decide +kernel
theorem dX10_kept_48 : decode cX10_kept 48 = .ok (.iconst (-1), 1) := by decide +kernel
theorem dX10_kept_49 : decode cX10_kept 49 = .ok (.invokevirtual 192, 3) := by decide +kernel
theorem dX10_kept_52 : decode cX10_kept 52 = .ok (.iload_n 2, 1) := by decide +kernel
theorem dX10_kept_53 : decode cX10_kept 53 = .ok (.invokestatic 179, 3) := by decide +kernel
theorem dX10_kept_56 : decode cX10_kept 56 = .ok (.ifCond .eq 7, 3) := by decide +kernel
theorem dX10_kept_59 : decode cX10_kept 59 = .ok (.iconst 2, 1) := by decide +kernel
theorem dX10_kept_60 : decode cX10_kept 60 = .ok (.goto 4, 3) := by decide +kernel
theorem dX10_kept_63 : decode cX10_kept 63 = .ok (.iconst 0, 1) := by decide +kernel
theorem dX10_kept_64 : decode cX10_kept 64 = .ok (.ireturn, 1) := by decide +kernel
theorem dX10_minds_0 : decode cX10_minds 0 = .ok (.aload_n 0, 1) := by decide +kernel
theorem dX10_minds_1 : decode cX10_minds 1 = .ok (.iconst 0, 1) := by decide +kernel
theorem dX10_minds_2 : decode cX10_minds 2 = .ok (.putfield 113, 3) := by decide +kernel
theorem dX10_minds_5 : decode cX10_minds 5 = .ok (.aload_n 0, 1) := by decide +kernel
theorem dX10_minds_6 : decode cX10_minds 6 = .ok (.iload_n 1, 1) := by decide +kernel
theorem dX10_minds_7 : decode cX10_minds 7 = .ok (.invokevirtual 145, 3) := by decide +kernel
theorem dX10_minds_10 : decode cX10_minds 10 = .ok (.ifCond .ne 5, 3) := by decide +kernel
theorem dX10_minds_13 : decode cX10_minds 13 = .ok (.iconst (-1), 1) := by decide +kernel
theorem dX10_minds_14 : decode cX10_minds 14 = .ok (.ireturn, 1) := by decide +kernel
theorem dX10_minds_15 : decode cX10_minds 15 = .ok (.aload_n 0, 1) := by decide +kernel
theorem dX10_minds_16 : decode cX10_minds 16 = .ok (.iload_n 1, 1) := by decide +kernel
theorem dX10_minds_17 : decode cX10_minds 17 = .ok (.aload_n 0, 1) := by decide +kernel
theorem dX10_minds_18 : decode cX10_minds 18 = .ok (.getfield 55, 3) := by decide +kernel
theorem dX10_minds_21 : decode cX10_minds 21 = .ok (.invokevirtual 207, 3) := by decide +kernel
theorem dX10_minds_24 : decode cX10_minds 24 = .ok (.lstore_n 2, 1) := by decide +kernel
theorem dX10_minds_25 : decode cX10_minds 25 = .ok (.aload_n 0, 1) := by decide +kernel
theorem dX10_minds_26 : decode cX10_minds 26 = .ok (.iconst 0, 1) := by decide +kernel
theorem dX10_minds_27 : decode cX10_minds 27 = .ok (.putfield 123, 3) := by decide +kernel
theorem dX10_minds_30 : decode cX10_minds 30 = .ok (.iconst 0, 1) := by decide +kernel
theorem dX10_minds_31 : decode cX10_minds 31 = .ok (.istore 4, 2) := by decide +kernel
theorem dX10_minds_33 : decode cX10_minds 33 = .ok (.iload 4, 2) := by decide +kernel
theorem dX10_minds_35 : decode cX10_minds 35 = .ok (.bipush 64, 2) := by decide +kernel
theorem dX10_minds_37 : decode cX10_minds 37 = .ok (.if_icmp .ge 24, 3) := by decide +kernel
theorem dX10_minds_40 : decode cX10_minds 40 = .ok (.lload_n 2, 1) := by decide +kernel
theorem dX10_minds_41 : decode cX10_minds 41 = .ok (.iload 4, 2) := by decide +kernel
theorem dX10_minds_43 : decode cX10_minds 43 = .ok (.invokestatic 179, 3) := by decide +kernel
theorem dX10_minds_46 : decode cX10_minds 46 = .ok (.ifCond .eq 9, 3) := by decide +kernel
theorem dX10_minds_49 : decode cX10_minds 49 = .ok (.aload_n 0, 1) := by decide +kernel
theorem dX10_minds_50 : decode cX10_minds 50 = .ok (.iload 4, 2) := by decide +kernel
theorem dX10_minds_52 : decode cX10_minds 52 = .ok (.invokevirtual 211, 3) := by decide +kernel
theorem dX10_minds_55 : decode cX10_minds 55 = .ok (.iinc 4 1, 3) := by decide +kernel
theorem dX10_minds_58 : decode cX10_minds 58 = .ok (.goto (-25), 3) := by decide +kernel
theorem dX10_minds_61 : decode cX10_minds 61 = .ok (.aload_n 0, 1) := by decide +kernel
theorem dX10_minds_62 : decode cX10_minds 62 = .ok (.getfield 123, 3) := by decide +kernel
theorem dX10_minds_65 : decode cX10_minds 65 = .ok (.ireturn, 1) := by decide +kernel
theorem dX10_shared_0 : decode cX10_shared 0 = .ok (.aload_n 0, 1) := by decide +kernel
theorem dX10_shared_1 : decode cX10_shared 1 = .ok (.iconst 0, 1) := by decide +kernel
theorem dX10_shared_2 : decode cX10_shared 2 = .ok (.putfield 113, 3) := by decide +kernel
theorem dX10_shared_5 : decode cX10_shared 5 = .ok (.iload_n 1, 1) := by decide +kernel
theorem dX10_shared_6 : decode cX10_shared 6 = .ok (.iconst 0, 1) := by decide +kernel
theorem dX10_shared_7 : decode cX10_shared 7 = .ok (.aload_n 0, 1) := by decide +kernel
theorem dX10_shared_8 : decode cX10_shared 8 = .ok (.getfield 142, 3) := by decide +kernel
theorem dX10_shared_11 : decode cX10_shared 11 = .ok (.iconst 1, 1) := by decide +kernel
theorem dX10_shared_12 : decode cX10_shared 12 = .ok (.isub, 1) := by decide +kernel
theorem dX10_shared_13 : decode cX10_shared 13 = .ok (.invokestatic 119, 3) := by decide +kernel
theorem dX10_shared_16 : decode cX10_shared 16 = .ok (.ifCond .eq 15, 3) := by decide +kernel
theorem dX10_shared_19 : decode cX10_shared 19 = .ok (.aload_n 0, 1) := by decide +kernel
theorem dX10_shared_20 : decode cX10_shared 20 = .ok (.iload_n 1, 1) := by decide +kernel
theorem dX10_shared_21 : decode cX10_shared 21 = .ok (.aload_n 0, 1) := by decide +kernel
theorem dX10_shared_22 : decode cX10_shared 22 = .ok (.getfield 55, 3) := by decide +kernel
theorem dX10_shared_25 : decode cX10_shared 25 = .ok (.invokevirtual 198, 3) := by decide +kernel
theorem dX10_shared_28 : decode cX10_shared 28 = .ok (.goto 4, 3) := by decide +kernel
theorem dX10_shared_31 : decode cX10_shared 31 = .ok (.iconst (-1), 1) := by decide +kernel
theorem dX10_shared_32 : decode cX10_shared 32 = .ok (.ireturn, 1) := by decide +kernel
theorem dX10_look_0 : decode cX10_look 0 = .ok (.aload_n 0, 1) := by decide +kernel
theorem dX10_look_1 : decode cX10_look 1 = .ok (.iconst 0, 1) := by decide +kernel
theorem dX10_look_2 : decode cX10_look 2 = .ok (.putfield 113, 3) := by decide +kernel
theorem dX10_look_5 : decode cX10_look 5 = .ok (.aload_n 0, 1) := by decide +kernel
theorem dX10_look_6 : decode cX10_look 6 = .ok (.iload_n 1, 1) := by decide +kernel
theorem dX10_look_7 : decode cX10_look 7 = .ok (.invokevirtual 145, 3) := by decide +kernel
theorem dX10_look_10 : decode cX10_look 10 = .ok (.ifCond .eq 53, 3) := by decide +kernel
theorem dX10_look_13 : decode cX10_look 13 = .ok (.iload_n 2, 1) := by decide +kernel
theorem dX10_look_14 : decode cX10_look 14 = .ok (.invokestatic 126, 3) := by decide +kernel
theorem dX10_look_17 : decode cX10_look 17 = .ok (.ifCond .eq 46, 3) := by decide +kernel
theorem dX10_look_20 : decode cX10_look 20 = .ok (.iload_n 3, 1) := by decide +kernel
theorem dX10_look_21 : decode cX10_look 21 = .ok (.iconst 0, 1) := by decide +kernel
theorem dX10_look_22 : decode cX10_look 22 = .ok (.sipush 200, 3) := by decide +kernel
theorem dX10_look_25 : decode cX10_look 25 = .ok (.invokestatic 119, 3) := by decide +kernel
theorem dX10_look_28 : decode cX10_look 28 = .ok (.ifCond .eq 35, 3) := by decide +kernel
theorem dX10_look_31 : decode cX10_look 31 = .ok (.iload 4, 2) := by decide +kernel
theorem dX10_look_33 : decode cX10_look 33 = .ok (.iconst 0, 1) := by decide +kernel
theorem dX10_look_34 : decode cX10_look 34 = .ok (.bipush 50, 2) := by decide +kernel
theorem dX10_look_36 : decode cX10_look 36 = .ok (.invokestatic 119, 3) := by decide +kernel
theorem dX10_look_39 : decode cX10_look 39 = .ok (.ifCond .eq 24, 3) := by decide +kernel
theorem dX10_look_42 : decode cX10_look 42 = .ok (.iload 5, 2) := by decide +kernel
theorem dX10_look_44 : decode cX10_look 44 = .ok (.iload_n 2, 1) := by decide +kernel
theorem dX10_look_45 : decode cX10_look 45 = .ok (.sipush 399, 3) := by decide +kernel
theorem dX10_look_48 : decode cX10_look 48 = .ok (.invokestatic 119, 3) := by decide +kernel
theorem dX10_look_51 : decode cX10_look 51 = .ok (.ifCond .eq 12, 3) := by decide +kernel
theorem dX10_look_54 : decode cX10_look 54 = .ok (.aload_n 0, 1) := by decide +kernel
theorem dX10_look_55 : decode cX10_look 55 = .ok (.getfield 185, 3) := by decide +kernel
theorem dX10_look_58 : decode cX10_look 58 = .ok (.bipush 40, 2) := by decide +kernel
theorem dX10_look_60 : decode cX10_look 60 = .ok (.if_icmp .ne 5, 3) := by decide +kernel
theorem dX10_look_63 : decode cX10_look 63 = .ok (.iconst (-1), 1) := by decide +kernel
theorem dX10_look_64 : decode cX10_look 64 = .ok (.ireturn, 1) := by decide +kernel
theorem dX10_look_65 : decode cX10_look 65 = .ok (.aload_n 0, 1) := by decide +kernel
theorem dX10_look_66 : decode cX10_look 66 = .ok (.getfield 37, 3) := by decide +kernel
theorem dX10_look_69 : decode cX10_look 69 = .ok (.aload_n 0, 1) := by decide +kernel
theorem dX10_look_70 : decode cX10_look 70 = .ok (.getfield 185, 3) := by decide +kernel
theorem dX10_look_73 : decode cX10_look 73 = .ok (.iload_n 1, 1) := by decide +kernel
theorem dX10_look_74 : decode cX10_look 74 = .ok (.iastore, 1) := by decide +kernel
theorem dX10_look_75 : decode cX10_look 75 = .ok (.aload_n 0, 1) := by decide +kernel
theorem dX10_look_76 : decode cX10_look 76 = .ok (.getfield 40, 3) := by decide +kernel
theorem dX10_look_79 : decode cX10_look 79 = .ok (.aload_n 0, 1) := by decide +kernel
theorem dX10_look_80 : decode cX10_look 80 = .ok (.getfield 185, 3) := by decide +kernel
theorem dX10_look_83 : decode cX10_look 83 = .ok (.iload_n 2, 1) := by decide +kernel
theorem dX10_look_84 : decode cX10_look 84 = .ok (.iastore, 1) := by decide +kernel
theorem dX10_look_85 : decode cX10_look 85 = .ok (.aload_n 0, 1) := by decide +kernel
theorem dX10_look_86 : decode cX10_look 86 = .ok (.getfield 43, 3) := by decide +kernel
theorem dX10_look_89 : decode cX10_look 89 = .ok (.aload_n 0, 1) := by decide +kernel
theorem dX10_look_90 : decode cX10_look 90 = .ok (.getfield 185, 3) := by decide +kernel
theorem dX10_look_93 : decode cX10_look 93 = .ok (.iload_n 3, 1) := by decide +kernel
theorem dX10_look_94 : decode cX10_look 94 = .ok (.iastore, 1) := by decide +kernel
theorem dX10_look_95 : decode cX10_look 95 = .ok (.aload_n 0, 1) := by decide +kernel
theorem dX10_look_96 : decode cX10_look 96 = .ok (.getfield 46, 3) := by decide +kernel
theorem dX10_look_99 : decode cX10_look 99 = .ok (.aload_n 0, 1) := by decide +kernel
theorem dX10_look_100 : decode cX10_look 100 = .ok (.getfield 185, 3) := by decide +kernel
theorem dX10_look_103 : decode cX10_look 103 = .ok (.iload 4, 2) := by decide +kernel
theorem dX10_look_105 : decode cX10_look 105 = .ok (.iastore, 1) := by decide +kernel
theorem dX10_look_106 : decode cX10_look 106 = .ok (.aload_n 0, 1) := by decide +kernel
theorem dX10_look_107 : decode cX10_look 107 = .ok (.getfield 49, 3) := by decide +kernel
theorem dX10_look_110 : decode cX10_look 110 = .ok (.aload_n 0, 1) := by decide +kernel
theorem dX10_look_111 : decode cX10_look 111 = .ok (.getfield 185, 3) := by decide +kernel
theorem dX10_look_114 : decode cX10_look 114 = .ok (.iload 5, 2) := by decide +kernel
theorem dX10_look_116 : decode cX10_look 116 = .ok (.iastore, 1) := by decide +kernel
theorem dX10_look_117 : decode cX10_look 117 = .ok (.aload_n 0, 1) := by decide +kernel
theorem dX10_look_118 : decode cX10_look 118 = .ok (.getfield 52, 3) := by decide +kernel
theorem dX10_look_121 : decode cX10_look 121 = .ok (.aload_n 0, 1) := by decide +kernel
theorem dX10_look_122 : decode cX10_look 122 = .ok (.getfield 185, 3) := by decide +kernel
theorem dX10_look_125 : decode cX10_look 125 = .ok (.sipush 400, 3) := by decide +kernel
theorem dX10_look_128 : decode cX10_look 128 = .ok (.iastore, 1) := by decide +kernel
theorem dX10_look_129 : decode cX10_look 129 = .ok (.aload_n 0, 1) := by decide +kernel
theorem dX10_look_130 : decode cX10_look 130 = .ok (.dup, 1) := by decide +kernel
theorem dX10_look_131 : decode cX10_look 131 = .ok (.getfield 185, 3) := by decide +kernel
theorem dX10_look_134 : decode cX10_look 134 = .ok (.iconst 1, 1) := by decide +kernel
theorem dX10_look_135 : decode cX10_look 135 = .ok (.iadd, 1) := by decide +kernel
theorem dX10_look_136 : decode cX10_look 136 = .ok (.putfield 185, 3) := by decide +kernel
theorem dX10_look_139 : decode cX10_look 139 = .ok (.aload_n 0, 1) := by decide +kernel
theorem dX10_look_140 : decode cX10_look 140 = .ok (.getfield 185, 3) := by decide +kernel
theorem dX10_look_143 : decode cX10_look 143 = .ok (.iconst 1, 1) := by decide +kernel
theorem dX10_look_144 : decode cX10_look 144 = .ok (.isub, 1) := by decide +kernel
theorem dX10_look_145 : decode cX10_look 145 = .ok (.ireturn, 1) := by decide +kernel
theorem dX10_isLook_0 : decode cX10_isLook 0 = .ok (.iload_n 1, 1) := by decide +kernel
theorem dX10_isLook_1 : decode cX10_isLook 1 = .ok (.iconst 0, 1) := by decide +kernel
theorem dX10_isLook_2 : decode cX10_isLook 2 = .ok (.aload_n 0, 1) := by decide +kernel
theorem dX10_isLook_3 : decode cX10_isLook 3 = .ok (.getfield 185, 3) := by decide +kernel
theorem dX10_isLook_6 : decode cX10_isLook 6 = .ok (.iconst 1, 1) := by decide +kernel
theorem dX10_isLook_7 : decode cX10_isLook 7 = .ok (.isub, 1) := by decide +kernel
theorem dX10_isLook_8 : decode cX10_isLook 8 = .ok (.invokestatic 119, 3) := by decide +kernel
theorem dX10_isLook_11 : decode cX10_isLook 11 = .ok (.ireturn, 1) := by decide +kernel
theorem dX10_back_0 : decode cX10_back 0 = .ok (.aload_n 0, 1) := by decide +kernel
theorem dX10_back_1 : decode cX10_back 1 = .ok (.iconst 0, 1) := by decide +kernel
theorem dX10_back_2 : decode cX10_back 2 = .ok (.putfield 113, 3) := by decide +kernel
theorem dX10_back_5 : decode cX10_back 5 = .ok (.aload_n 0, 1) := by decide +kernel
theorem dX10_back_6 : decode cX10_back 6 = .ok (.iload_n 1, 1) := by decide +kernel
theorem dX10_back_7 : decode cX10_back 7 = .ok (.invokevirtual 214, 3) := by decide +kernel
theorem dX10_back_10 : decode cX10_back 10 = .ok (.ifCond .eq 10, 3) := by decide +kernel
theorem dX10_back_13 : decode cX10_back 13 = .ok (.iload_n 2, 1) := by decide +kernel
theorem dX10_back_14 : decode cX10_back 14 = .ok (.invokestatic 126, 3) := by decide +kernel
theorem dX10_back_17 : decode cX10_back 17 = .ok (.ifCond .ne 5, 3) := by decide +kernel
theorem dX10_back_20 : decode cX10_back 20 = .ok (.iconst 0, 1) := by decide +kernel
theorem dX10_back_21 : decode cX10_back 21 = .ok (.ireturn, 1) := by decide +kernel
theorem dX10_back_22 : decode cX10_back 22 = .ok (.aload_n 0, 1) := by decide +kernel
theorem dX10_back_23 : decode cX10_back 23 = .ok (.getfield 52, 3) := by decide +kernel
theorem dX10_back_26 : decode cX10_back 26 = .ok (.iload_n 1, 1) := by decide +kernel
theorem dX10_back_27 : decode cX10_back 27 = .ok (.iload_n 2, 1) := by decide +kernel
theorem dX10_back_28 : decode cX10_back 28 = .ok (.iastore, 1) := by decide +kernel
theorem dX10_back_29 : decode cX10_back 29 = .ok (.iconst 1, 1) := by decide +kernel
theorem dX10_back_30 : decode cX10_back 30 = .ok (.ireturn, 1) := by decide +kernel
theorem dX10_as_0 : decode cX10_as 0 = .ok (.aload_n 0, 1) := by decide +kernel
theorem dX10_as_1 : decode cX10_as 1 = .ok (.iconst 0, 1) := by decide +kernel
theorem dX10_as_2 : decode cX10_as 2 = .ok (.putfield 113, 3) := by decide +kernel
theorem dX10_as_5 : decode cX10_as 5 = .ok (.iload_n 1, 1) := by decide +kernel
theorem dX10_as_6 : decode cX10_as 6 = .ok (.invokestatic 126, 3) := by decide +kernel
theorem dX10_as_9 : decode cX10_as 9 = .ok (.ifCond .ne 5, 3) := by decide +kernel
theorem dX10_as_12 : decode cX10_as 12 = .ok (.iconst (-1), 1) := by decide +kernel
theorem dX10_as_13 : decode cX10_as 13 = .ok (.ireturn, 1) := by decide +kernel
theorem dX10_as_14 : decode cX10_as 14 = .ok (.aload_n 0, 1) := by decide +kernel
theorem dX10_as_15 : decode cX10_as 15 = .ok (.getfield 55, 3) := by decide +kernel
theorem dX10_as_18 : decode cX10_as 18 = .ok (.istore_n 2, 1) := by decide +kernel
theorem dX10_as_19 : decode cX10_as 19 = .ok (.aload_n 0, 1) := by decide +kernel
theorem dX10_as_20 : decode cX10_as 20 = .ok (.iload_n 1, 1) := by decide +kernel
theorem dX10_as_21 : decode cX10_as 21 = .ok (.putfield 55, 3) := by decide +kernel
theorem dX10_as_24 : decode cX10_as 24 = .ok (.iload_n 2, 1) := by decide +kernel
theorem dX10_as_25 : decode cX10_as 25 = .ok (.ireturn, 1) := by decide +kernel
theorem dX10_bars__0 : decode cX10_bars_ 0 = .ok (.aload_n 0, 1) := by decide +kernel
theorem dX10_bars__1 : decode cX10_bars_ 1 = .ok (.iconst 0, 1) := by decide +kernel
theorem dX10_bars__2 : decode cX10_bars_ 2 = .ok (.putfield 113, 3) := by decide +kernel
theorem dX10_bars__5 : decode cX10_bars_ 5 = .ok (.aload_n 0, 1) := by decide +kernel
theorem dX10_bars__6 : decode cX10_bars_ 6 = .ok (.iload_n 1, 1) := by decide +kernel
theorem dX10_bars__7 : decode cX10_bars_ 7 = .ok (.invokevirtual 214, 3) := by decide +kernel
theorem dX10_bars__10 : decode cX10_bars_ 10 = .ok (.ifCond .ne 5, 3) := by decide +kernel
theorem dX10_bars__13 : decode cX10_bars_ 13 = .ok (.iconst (-1), 1) := by decide +kernel
theorem dX10_bars__14 : decode cX10_bars_ 14 = .ok (.ireturn, 1) := by decide +kernel
theorem dX10_bars__15 : decode cX10_bars_ 15 = .ok (.aload_n 0, 1) := by decide +kernel
theorem dX10_bars__16 : decode cX10_bars_ 16 = .ok (.iload_n 1, 1) := by decide +kernel
theorem dX10_bars__17 : decode cX10_bars_ 17 = .ok (.invokevirtual 175, 3) := by decide +kernel
theorem dX10_bars__20 : decode cX10_bars_ 20 = .ok (.invokestatic 217, 3) := by decide +kernel
theorem dX10_bars__23 : decode cX10_bars_ 23 = .ok (.ireturn, 1) := by decide +kernel
theorem dX10_weighs_0 : decode cX10_weighs 0 = .ok (.aload_n 0, 1) := by decide +kernel
theorem dX10_weighs_1 : decode cX10_weighs 1 = .ok (.iconst 0, 1) := by decide +kernel
theorem dX10_weighs_2 : decode cX10_weighs 2 = .ok (.putfield 113, 3) := by decide +kernel
theorem dX10_weighs_5 : decode cX10_weighs 5 = .ok (.aload_n 0, 1) := by decide +kernel
theorem dX10_weighs_6 : decode cX10_weighs 6 = .ok (.iload_n 1, 1) := by decide +kernel
theorem dX10_weighs_7 : decode cX10_weighs 7 = .ok (.invokevirtual 214, 3) := by decide +kernel
theorem dX10_weighs_10 : decode cX10_weighs 10 = .ok (.ifCond .eq 15, 3) := by decide +kernel
theorem dX10_weighs_13 : decode cX10_weighs 13 = .ok (.aload_n 0, 1) := by decide +kernel
theorem dX10_weighs_14 : decode cX10_weighs 14 = .ok (.iload_n 1, 1) := by decide +kernel
theorem dX10_weighs_15 : decode cX10_weighs 15 = .ok (.aload_n 0, 1) := by decide +kernel
theorem dX10_weighs_16 : decode cX10_weighs 16 = .ok (.getfield 55, 3) := by decide +kernel
theorem dX10_weighs_19 : decode cX10_weighs 19 = .ok (.invokevirtual 188, 3) := by decide +kernel
theorem dX10_weighs_22 : decode cX10_weighs 22 = .ok (.ifCond .ne 5, 3) := by decide +kernel
theorem dX10_weighs_25 : decode cX10_weighs 25 = .ok (.iconst (-1), 1) := by decide +kernel
theorem dX10_weighs_26 : decode cX10_weighs 26 = .ok (.ireturn, 1) := by decide +kernel
theorem dX10_weighs_27 : decode cX10_weighs 27 = .ok (.aload_n 0, 1) := by decide +kernel
theorem dX10_weighs_28 : decode cX10_weighs 28 = .ok (.aload_n 0, 1) := by decide +kernel
theorem dX10_weighs_29 : decode cX10_weighs 29 = .ok (.getfield 37, 3) := by decide +kernel
theorem dX10_weighs_32 : decode cX10_weighs 32 = .ok (.iload_n 1, 1) := by decide +kernel
theorem dX10_weighs_33 : decode cX10_weighs 33 = .ok (.iaload, 1) := by decide +kernel
theorem dX10_weighs_34 : decode cX10_weighs 34 = .ok (.aload_n 0, 1) := by decide +kernel
theorem dX10_weighs_35 : decode cX10_weighs 35 = .ok (.getfield 55, 3) := by decide +kernel
theorem dX10_weighs_38 : decode cX10_weighs 38 = .ok (.iload_n 1, 1) := by decide +kernel
theorem dX10_weighs_39 : decode cX10_weighs 39 = .ok (.invokevirtual 192, 3) := by decide +kernel
theorem dX10_weighs_42 : decode cX10_weighs 42 = .ok (.invokestatic 217, 3) := by decide +kernel
theorem dX10_weighs_45 : decode cX10_weighs 45 = .ok (.aload_n 0, 1) := by decide +kernel
theorem dX10_weighs_46 : decode cX10_weighs 46 = .ok (.aload_n 0, 1) := by decide +kernel
theorem dX10_weighs_47 : decode cX10_weighs 47 = .ok (.getfield 37, 3) := by decide +kernel
theorem dX10_weighs_50 : decode cX10_weighs 50 = .ok (.iload_n 1, 1) := by decide +kernel
theorem dX10_weighs_51 : decode cX10_weighs 51 = .ok (.iaload, 1) := by decide +kernel
theorem dX10_weighs_52 : decode cX10_weighs 52 = .ok (.aload_n 0, 1) := by decide +kernel
theorem dX10_weighs_53 : decode cX10_weighs 53 = .ok (.getfield 55, 3) := by decide +kernel
theorem dX10_weighs_56 : decode cX10_weighs 56 = .ok (.iconst (-1), 1) := by decide +kernel
theorem dX10_weighs_57 : decode cX10_weighs 57 = .ok (.invokevirtual 192, 3) := by decide +kernel
theorem dX10_weighs_60 : decode cX10_weighs 60 = .ok (.invokestatic 217, 3) := by decide +kernel
theorem dX10_weighs_63 : decode cX10_weighs 63 = .ok (.isub, 1) := by decide +kernel
theorem dX10_weighs_64 : decode cX10_weighs 64 = .ok (.ireturn, 1) := by decide +kernel
theorem dX10_barring_0 : decode cX10_barring 0 = .ok (.iconst 0, 1) := by decide +kernel
theorem dX10_barring_1 : decode cX10_barring 1 = .ok (.istore_n 3, 1) := by decide +kernel
theorem dX10_barring_2 : decode cX10_barring 2 = .ok (.iconst 0, 1) := by decide +kernel
theorem dX10_barring_3 : decode cX10_barring 3 = .ok (.istore 4, 2) := by decide +kernel
theorem dX10_barring_5 : decode cX10_barring 5 = .ok (.iload 4, 2) := by decide +kernel
theorem dX10_barring_7 : decode cX10_barring 7 = .ok (.aload_n 0, 1) := by decide +kernel
theorem dX10_barring_8 : decode cX10_barring 8 = .ok (.getfield 185, 3) := by decide +kernel
theorem dX10_barring_11 : decode cX10_barring 11 = .ok (.if_icmp .ge 46, 3) := by decide +kernel
theorem dX10_barring_14 : decode cX10_barring 14 = .ok (.aload_n 0, 1) := by decide +kernel
theorem dX10_barring_15 : decode cX10_barring 15 = .ok (.getfield 37, 3) := by decide +kernel
theorem dX10_barring_18 : decode cX10_barring 18 = .ok (.iload 4, 2) := by decide +kernel
theorem dX10_barring_20 : decode cX10_barring 20 = .ok (.iaload, 1) := by decide +kernel
theorem dX10_barring_21 : decode cX10_barring 21 = .ok (.iload_n 1, 1) := by decide +kernel
theorem dX10_barring_22 : decode cX10_barring 22 = .ok (.if_icmp .ne 29, 3) := by decide +kernel
theorem dX10_barring_25 : decode cX10_barring 25 = .ok (.aload_n 0, 1) := by decide +kernel
theorem dX10_barring_26 : decode cX10_barring 26 = .ok (.iload 4, 2) := by decide +kernel
theorem dX10_barring_28 : decode cX10_barring 28 = .ok (.aload_n 0, 1) := by decide +kernel
theorem dX10_barring_29 : decode cX10_barring 29 = .ok (.getfield 55, 3) := by decide +kernel
theorem dX10_barring_32 : decode cX10_barring 32 = .ok (.invokevirtual 188, 3) := by decide +kernel
theorem dX10_barring_35 : decode cX10_barring 35 = .ok (.ifCond .eq 16, 3) := by decide +kernel
theorem dX10_barring_38 : decode cX10_barring 38 = .ok (.aload_n 0, 1) := by decide +kernel
theorem dX10_barring_39 : decode cX10_barring 39 = .ok (.iload 4, 2) := by decide +kernel
theorem dX10_barring_41 : decode cX10_barring 41 = .ok (.iload_n 2, 1) := by decide +kernel
theorem dX10_barring_42 : decode cX10_barring 42 = .ok (.invokevirtual 220, 3) := by decide +kernel
theorem dX10_barring_45 : decode cX10_barring 45 = .ok (.ifCond .eq 6, 3) := by decide +kernel
theorem dX10_barring_48 : decode cX10_barring 48 = .ok (.iinc 3 1, 3) := by decide +kernel
theorem dX10_barring_51 : decode cX10_barring 51 = .ok (.iinc 4 1, 3) := by decide +kernel
theorem dX10_barring_54 : decode cX10_barring 54 = .ok (.goto (-49), 3) := by decide +kernel
theorem dX10_barring_57 : decode cX10_barring 57 = .ok (.iload_n 3, 1) := by decide +kernel
theorem dX10_barring_58 : decode cX10_barring 58 = .ok (.ireturn, 1) := by decide +kernel
theorem dX10_blame_0 : decode cX10_blame 0 = .ok (.aload_n 0, 1) := by decide +kernel
theorem dX10_blame_1 : decode cX10_blame 1 = .ok (.iconst 0, 1) := by decide +kernel
theorem dX10_blame_2 : decode cX10_blame 2 = .ok (.putfield 113, 3) := by decide +kernel
theorem dX10_blame_5 : decode cX10_blame 5 = .ok (.aload_n 0, 1) := by decide +kernel
theorem dX10_blame_6 : decode cX10_blame 6 = .ok (.iload_n 1, 1) := by decide +kernel
theorem dX10_blame_7 : decode cX10_blame 7 = .ok (.invokevirtual 145, 3) := by decide +kernel
theorem dX10_blame_10 : decode cX10_blame 10 = .ok (.ifCond .ne 5, 3) := by decide +kernel
theorem dX10_blame_13 : decode cX10_blame 13 = .ok (.iconst (-1), 1) := by decide +kernel
theorem dX10_blame_14 : decode cX10_blame 14 = .ok (.ireturn, 1) := by decide +kernel
theorem dX10_blame_15 : decode cX10_blame 15 = .ok (.iconst 0, 1) := by decide +kernel
theorem dX10_blame_16 : decode cX10_blame 16 = .ok (.istore_n 2, 1) := by decide +kernel
theorem dX10_blame_17 : decode cX10_blame 17 = .ok (.iconst 1, 1) := by decide +kernel
theorem dX10_blame_18 : decode cX10_blame 18 = .ok (.istore_n 3, 1) := by decide +kernel
theorem dX10_blame_19 : decode cX10_blame 19 = .ok (.iload_n 3, 1) := by decide +kernel
theorem dX10_blame_20 : decode cX10_blame 20 = .ok (.bipush 64, 2) := by decide +kernel
theorem dX10_blame_22 : decode cX10_blame 22 = .ok (.if_icmp .ge 26, 3) := by decide +kernel
theorem dX10_blame_25 : decode cX10_blame 25 = .ok (.aload_n 0, 1) := by decide +kernel
theorem dX10_blame_26 : decode cX10_blame 26 = .ok (.iload_n 1, 1) := by decide +kernel
theorem dX10_blame_27 : decode cX10_blame 27 = .ok (.iload_n 3, 1) := by decide +kernel
theorem dX10_blame_28 : decode cX10_blame 28 = .ok (.invokevirtual 223, 3) := by decide +kernel
theorem dX10_blame_31 : decode cX10_blame 31 = .ok (.aload_n 0, 1) := by decide +kernel
theorem dX10_blame_32 : decode cX10_blame 32 = .ok (.iload_n 1, 1) := by decide +kernel
theorem dX10_blame_33 : decode cX10_blame 33 = .ok (.iload_n 2, 1) := by decide +kernel
theorem dX10_blame_34 : decode cX10_blame 34 = .ok (.invokevirtual 223, 3) := by decide +kernel
theorem dX10_blame_37 : decode cX10_blame 37 = .ok (.if_icmp .ge 5, 3) := by decide +kernel
theorem dX10_blame_40 : decode cX10_blame 40 = .ok (.iload_n 3, 1) := by decide +kernel
theorem dX10_blame_41 : decode cX10_blame 41 = .ok (.istore_n 2, 1) := by decide +kernel
theorem dX10_blame_42 : decode cX10_blame 42 = .ok (.iinc 3 1, 3) := by decide +kernel
theorem dX10_blame_45 : decode cX10_blame 45 = .ok (.goto (-26), 3) := by decide +kernel
theorem dX10_blame_48 : decode cX10_blame 48 = .ok (.aload_n 0, 1) := by decide +kernel
theorem dX10_blame_49 : decode cX10_blame 49 = .ok (.iconst 0, 1) := by decide +kernel
theorem dX10_blame_50 : decode cX10_blame 50 = .ok (.putfield 123, 3) := by decide +kernel
theorem dX10_blame_53 : decode cX10_blame 53 = .ok (.aload_n 0, 1) := by decide +kernel
theorem dX10_blame_54 : decode cX10_blame 54 = .ok (.iload_n 2, 1) := by decide +kernel
theorem dX10_blame_55 : decode cX10_blame 55 = .ok (.invokevirtual 211, 3) := by decide +kernel
theorem dX10_blame_58 : decode cX10_blame 58 = .ok (.iconst 0, 1) := by decide +kernel
theorem dX10_blame_59 : decode cX10_blame 59 = .ok (.istore_n 3, 1) := by decide +kernel
theorem dX10_blame_60 : decode cX10_blame 60 = .ok (.iload_n 3, 1) := by decide +kernel
theorem dX10_blame_61 : decode cX10_blame 61 = .ok (.aload_n 0, 1) := by decide +kernel
theorem dX10_blame_62 : decode cX10_blame 62 = .ok (.getfield 185, 3) := by decide +kernel
theorem dX10_blame_65 : decode cX10_blame 65 = .ok (.if_icmp .ge 45, 3) := by decide +kernel
theorem dX10_blame_68 : decode cX10_blame 68 = .ok (.aload_n 0, 1) := by decide +kernel
theorem dX10_blame_69 : decode cX10_blame 69 = .ok (.getfield 37, 3) := by decide +kernel
theorem dX10_blame_72 : decode cX10_blame 72 = .ok (.iload_n 3, 1) := by decide +kernel
theorem dX10_blame_73 : decode cX10_blame 73 = .ok (.iaload, 1) := by decide +kernel
theorem dX10_blame_74 : decode cX10_blame 74 = .ok (.iload_n 1, 1) := by decide +kernel
theorem dX10_blame_75 : decode cX10_blame 75 = .ok (.if_icmp .ne 29, 3) := by decide +kernel
theorem dX10_blame_78 : decode cX10_blame 78 = .ok (.aload_n 0, 1) := by decide +kernel
theorem dX10_blame_79 : decode cX10_blame 79 = .ok (.iload_n 3, 1) := by decide +kernel
theorem dX10_blame_80 : decode cX10_blame 80 = .ok (.aload_n 0, 1) := by decide +kernel
theorem dX10_blame_81 : decode cX10_blame 81 = .ok (.getfield 55, 3) := by decide +kernel
theorem dX10_blame_84 : decode cX10_blame 84 = .ok (.invokevirtual 188, 3) := by decide +kernel
theorem dX10_blame_87 : decode cX10_blame 87 = .ok (.ifCond .eq 17, 3) := by decide +kernel
theorem dX10_blame_90 : decode cX10_blame 90 = .ok (.aload_n 0, 1) := by decide +kernel
theorem dX10_blame_91 : decode cX10_blame 91 = .ok (.iload_n 3, 1) := by decide +kernel
theorem dX10_blame_92 : decode cX10_blame 92 = .ok (.iload_n 2, 1) := by decide +kernel
theorem dX10_blame_93 : decode cX10_blame 93 = .ok (.invokevirtual 220, 3) := by decide +kernel
theorem dX10_blame_96 : decode cX10_blame 96 = .ok (.ifCond .eq 8, 3) := by decide +kernel
theorem dX10_blame_99 : decode cX10_blame 99 = .ok (.aload_n 0, 1) := by decide +kernel
theorem dX10_blame_100 : decode cX10_blame 100 = .ok (.iload_n 3, 1) := by decide +kernel
theorem dX10_blame_101 : decode cX10_blame 101 = .ok (.invokevirtual 211, 3) := by decide +kernel
theorem dX10_blame_104 : decode cX10_blame 104 = .ok (.iinc 3 1, 3) := by decide +kernel
theorem dX10_blame_107 : decode cX10_blame 107 = .ok (.goto (-47), 3) := by decide +kernel
theorem dX10_blame_110 : decode cX10_blame 110 = .ok (.aload_n 0, 1) := by decide +kernel
theorem dX10_blame_111 : decode cX10_blame 111 = .ok (.getfield 123, 3) := by decide +kernel
theorem dX10_blame_114 : decode cX10_blame 114 = .ok (.iconst 1, 1) := by decide +kernel
theorem dX10_blame_115 : decode cX10_blame 115 = .ok (.isub, 1) := by decide +kernel
theorem dX10_blame_116 : decode cX10_blame 116 = .ok (.ireturn, 1) := by decide +kernel
theorem dX10_state_0 : decode cX10_state 0 = .ok (.aload_n 0, 1) := by decide +kernel
theorem dX10_state_1 : decode cX10_state 1 = .ok (.iconst 0, 1) := by decide +kernel
theorem dX10_state_2 : decode cX10_state 2 = .ok (.putfield 113, 3) := by decide +kernel
theorem dX10_state_5 : decode cX10_state 5 = .ok (.aload_n 0, 1) := by decide +kernel
theorem dX10_state_6 : decode cX10_state 6 = .ok (.iload_n 1, 1) := by decide +kernel
theorem dX10_state_7 : decode cX10_state 7 = .ok (.invokevirtual 145, 3) := by decide +kernel
theorem dX10_state_10 : decode cX10_state 10 = .ok (.ifCond .eq 10, 3) := by decide +kernel
theorem dX10_state_13 : decode cX10_state 13 = .ok (.iload_n 2, 1) := by decide +kernel
theorem dX10_state_14 : decode cX10_state 14 = .ok (.invokestatic 126, 3) := by decide +kernel
theorem dX10_state_17 : decode cX10_state 17 = .ok (.ifCond .ne 5, 3) := by decide +kernel
theorem dX10_state_20 : decode cX10_state 20 = .ok (.iconst (-1), 1) := by decide +kernel
theorem dX10_state_21 : decode cX10_state 21 = .ok (.ireturn, 1) := by decide +kernel
theorem dX10_state_22 : decode cX10_state 22 = .ok (.aload_n 0, 1) := by decide +kernel
theorem dX10_state_23 : decode cX10_state 23 = .ok (.iload_n 1, 1) := by decide +kernel
theorem dX10_state_24 : decode cX10_state 24 = .ok (.aload_n 0, 1) := by decide +kernel
theorem dX10_state_25 : decode cX10_state 25 = .ok (.getfield 55, 3) := by decide +kernel
theorem dX10_state_28 : decode cX10_state 28 = .ok (.invokevirtual 207, 3) := by decide +kernel
theorem dX10_state_31 : decode cX10_state 31 = .ok (.lstore_n 3, 1) := by decide +kernel
theorem dX10_state_32 : decode cX10_state 32 = .ok (.lload_n 3, 1) := by decide +kernel
theorem dX10_state_33 : decode cX10_state 33 = .ok (.lconst 0, 1) := by decide +kernel
theorem dX10_state_34 : decode cX10_state 34 = .ok (.lcmp, 1) := by decide +kernel
theorem dX10_state_35 : decode cX10_state 35 = .ok (.ifCond .ne 5, 3) := by decide +kernel
theorem dX10_state_38 : decode cX10_state 38 = .ok (.iconst 4, 1) := by decide +kernel
theorem dX10_state_39 : decode cX10_state 39 = .ok (.ireturn, 1) := by decide +kernel
theorem dX10_state_40 : decode cX10_state 40 = .ok (.iconst (-1), 1) := by decide +kernel
theorem dX10_state_41 : decode cX10_state 41 = .ok (.istore 5, 2) := by decide +kernel
theorem dX10_state_43 : decode cX10_state 43 = .ok (.iconst 0, 1) := by decide +kernel
theorem dX10_state_44 : decode cX10_state 44 = .ok (.istore 6, 2) := by decide +kernel
theorem dX10_state_46 : decode cX10_state 46 = .ok (.iload 6, 2) := by decide +kernel
theorem dX10_state_48 : decode cX10_state 48 = .ok (.bipush 64, 2) := by decide +kernel
theorem dX10_state_50 : decode cX10_state 50 = .ok (.if_icmp .ge 50, 3) := by decide +kernel
theorem dX10_state_53 : decode cX10_state 53 = .ok (.lload_n 3, 1) := by decide +kernel
theorem dX10_state_54 : decode cX10_state 54 = .ok (.iload 6, 2) := by decide +kernel
theorem dX10_state_56 : decode cX10_state 56 = .ok (.invokestatic 179, 3) := by decide +kernel
theorem dX10_state_59 : decode cX10_state 59 = .ok (.ifCond .ne 6, 3) := by decide +kernel
theorem dX10_state_62 : decode cX10_state 62 = .ok (.goto 32, 3) := by decide +kernel
theorem dX10_state_65 : decode cX10_state 65 = .ok (.aload_n 0, 1) := by decide +kernel
theorem dX10_state_66 : decode cX10_state 66 = .ok (.iload_n 1, 1) := by decide +kernel
theorem dX10_state_67 : decode cX10_state 67 = .ok (.iload 6, 2) := by decide +kernel
theorem dX10_state_69 : decode cX10_state 69 = .ok (.iload_n 2, 1) := by decide +kernel
theorem dX10_state_70 : decode cX10_state 70 = .ok (.invokevirtual 168, 3) := by decide +kernel
theorem dX10_state_73 : decode cX10_state 73 = .ok (.istore 7, 2) := by decide +kernel
theorem dX10_state_75 : decode cX10_state 75 = .ok (.iload 5, 2) := by decide +kernel
theorem dX10_state_77 : decode cX10_state 77 = .ok (.iconst (-1), 1) := by decide +kernel
theorem dX10_state_78 : decode cX10_state 78 = .ok (.if_icmp .eq 12, 3) := by decide +kernel
theorem dX10_state_81 : decode cX10_state 81 = .ok (.iload 5, 2) := by decide +kernel
theorem dX10_state_83 : decode cX10_state 83 = .ok (.iload 7, 2) := by decide +kernel
theorem dX10_state_85 : decode cX10_state 85 = .ok (.if_icmp .eq 5, 3) := by decide +kernel
theorem dX10_state_88 : decode cX10_state 88 = .ok (.iconst 3, 1) := by decide +kernel
theorem dX10_state_89 : decode cX10_state 89 = .ok (.ireturn, 1) := by decide +kernel
theorem dX10_state_90 : decode cX10_state 90 = .ok (.iload 7, 2) := by decide +kernel
theorem dX10_state_92 : decode cX10_state 92 = .ok (.istore 5, 2) := by decide +kernel
theorem dX10_state_94 : decode cX10_state 94 = .ok (.iinc 6 1, 3) := by decide +kernel
theorem dX10_state_97 : decode cX10_state 97 = .ok (.goto (-51), 3) := by decide +kernel
theorem dX10_state_100 : decode cX10_state 100 = .ok (.iload 5, 2) := by decide +kernel
theorem dX10_state_102 : decode cX10_state 102 = .ok (.ireturn, 1) := by decide +kernel
theorem dX10_ends_0 : decode cX10_ends 0 = .ok (.aload_n 0, 1) := by decide +kernel
theorem dX10_ends_1 : decode cX10_ends 1 = .ok (.iconst 0, 1) := by decide +kernel
theorem dX10_ends_2 : decode cX10_ends 2 = .ok (.putfield 113, 3) := by decide +kernel
theorem dX10_ends_5 : decode cX10_ends 5 = .ok (.aload_n 0, 1) := by decide +kernel
theorem dX10_ends_6 : decode cX10_ends 6 = .ok (.iload_n 1, 1) := by decide +kernel
theorem dX10_ends_7 : decode cX10_ends 7 = .ok (.invokevirtual 145, 3) := by decide +kernel
theorem dX10_ends_10 : decode cX10_ends 10 = .ok (.ifCond .eq 10, 3) := by decide +kernel
theorem dX10_ends_13 : decode cX10_ends 13 = .ok (.iload_n 2, 1) := by decide +kernel
theorem dX10_ends_14 : decode cX10_ends 14 = .ok (.invokestatic 126, 3) := by decide +kernel
theorem dX10_ends_17 : decode cX10_ends 17 = .ok (.ifCond .ne 5, 3) := by decide +kernel
theorem dX10_ends_20 : decode cX10_ends 20 = .ok (.iconst (-1), 1) := by decide +kernel
theorem dX10_ends_21 : decode cX10_ends 21 = .ok (.ireturn, 1) := by decide +kernel
theorem dX10_ends_22 : decode cX10_ends 22 = .ok (.aload_n 0, 1) := by decide +kernel
theorem dX10_ends_23 : decode cX10_ends 23 = .ok (.iload_n 1, 1) := by decide +kernel
theorem dX10_ends_24 : decode cX10_ends 24 = .ok (.aload_n 0, 1) := by decide +kernel
theorem dX10_ends_25 : decode cX10_ends 25 = .ok (.getfield 55, 3) := by decide +kernel
theorem dX10_ends_28 : decode cX10_ends 28 = .ok (.invokevirtual 207, 3) := by decide +kernel
theorem dX10_ends_31 : decode cX10_ends 31 = .ok (.lstore_n 3, 1) := by decide +kernel
theorem dX10_ends_32 : decode cX10_ends 32 = .ok (.lload_n 3, 1) := by decide +kernel
theorem dX10_ends_33 : decode cX10_ends 33 = .ok (.lconst 0, 1) := by decide +kernel
theorem dX10_ends_34 : decode cX10_ends 34 = .ok (.lcmp, 1) := by decide +kernel
theorem dX10_ends_35 : decode cX10_ends 35 = .ok (.ifCond .ne 5, 3) := by decide +kernel
theorem dX10_ends_38 : decode cX10_ends 38 = .ok (.iconst (-1), 1) := by decide +kernel
theorem dX10_ends_39 : decode cX10_ends 39 = .ok (.ireturn, 1) := by decide +kernel
theorem dX10_ends_40 : decode cX10_ends 40 = .ok (.aload_n 0, 1) := by decide +kernel
theorem dX10_ends_41 : decode cX10_ends 41 = .ok (.getfield 83, 3) := by decide +kernel
theorem dX10_ends_44 : decode cX10_ends 44 = .ok (.iconst 0, 1) := by decide +kernel
theorem dX10_ends_45 : decode cX10_ends 45 = .ok (.sipush 200, 3) := by decide +kernel
theorem dX10_ends_48 : decode cX10_ends 48 = .ok (.iastore, 1) := by decide +kernel
theorem dX10_ends_49 : decode cX10_ends 49 = .ok (.aload_n 0, 1) := by decide +kernel
theorem dX10_ends_50 : decode cX10_ends 50 = .ok (.getfield 83, 3) := by decide +kernel
theorem dX10_ends_53 : decode cX10_ends 53 = .ok (.iconst 1, 1) := by decide +kernel
theorem dX10_ends_54 : decode cX10_ends 54 = .ok (.iconst 0, 1) := by decide +kernel
theorem dX10_ends_55 : decode cX10_ends 55 = .ok (.iastore, 1) := by decide +kernel
theorem dX10_ends_56 : decode cX10_ends 56 = .ok (.aload_n 0, 1) := by decide +kernel
theorem dX10_ends_57 : decode cX10_ends 57 = .ok (.getfield 83, 3) := by decide +kernel
theorem dX10_ends_60 : decode cX10_ends 60 = .ok (.iconst 2, 1) := by decide +kernel
theorem dX10_ends_61 : decode cX10_ends 61 = .ok (.sipush 200, 3) := by decide +kernel
theorem dX10_ends_64 : decode cX10_ends 64 = .ok (.iastore, 1) := by decide +kernel
theorem dX10_ends_65 : decode cX10_ends 65 = .ok (.aload_n 0, 1) := by decide +kernel
theorem dX10_ends_66 : decode cX10_ends 66 = .ok (.getfield 83, 3) := by decide +kernel
theorem dX10_ends_69 : decode cX10_ends 69 = .ok (.iconst 3, 1) := by decide +kernel
theorem dX10_ends_70 : decode cX10_ends 70 = .ok (.iconst 0, 1) := by decide +kernel
theorem dX10_ends_71 : decode cX10_ends 71 = .ok (.iastore, 1) := by decide +kernel
theorem dX10_ends_72 : decode cX10_ends 72 = .ok (.iconst 0, 1) := by decide +kernel
theorem dX10_ends_73 : decode cX10_ends 73 = .ok (.istore 5, 2) := by decide +kernel
theorem dX10_ends_75 : decode cX10_ends 75 = .ok (.iload 5, 2) := by decide +kernel
theorem dX10_ends_77 : decode cX10_ends 77 = .ok (.bipush 64, 2) := by decide +kernel
theorem dX10_ends_79 : decode cX10_ends 79 = .ok (.if_icmp .ge 113, 3) := by decide +kernel
theorem dX10_ends_82 : decode cX10_ends 82 = .ok (.lload_n 3, 1) := by decide +kernel
theorem dX10_ends_83 : decode cX10_ends 83 = .ok (.iload 5, 2) := by decide +kernel
theorem dX10_ends_85 : decode cX10_ends 85 = .ok (.invokestatic 179, 3) := by decide +kernel
theorem dX10_ends_88 : decode cX10_ends 88 = .ok (.ifCond .ne 6, 3) := by decide +kernel
theorem dX10_ends_91 : decode cX10_ends 91 = .ok (.goto 95, 3) := by decide +kernel
theorem dX10_ends_94 : decode cX10_ends 94 = .ok (.aload_n 0, 1) := by decide +kernel
theorem dX10_ends_95 : decode cX10_ends 95 = .ok (.getfield 83, 3) := by decide +kernel
theorem dX10_ends_98 : decode cX10_ends 98 = .ok (.iconst 0, 1) := by decide +kernel
theorem dX10_ends_99 : decode cX10_ends 99 = .ok (.aload_n 0, 1) := by decide +kernel
theorem dX10_ends_100 : decode cX10_ends 100 = .ok (.getfield 83, 3) := by decide +kernel
theorem dX10_ends_103 : decode cX10_ends 103 = .ok (.iconst 0, 1) := by decide +kernel
theorem dX10_ends_104 : decode cX10_ends 104 = .ok (.iaload, 1) := by decide +kernel
theorem dX10_ends_105 : decode cX10_ends 105 = .ok (.aload_n 0, 1) := by decide +kernel
theorem dX10_ends_106 : decode cX10_ends 106 = .ok (.iload_n 1, 1) := by decide +kernel
theorem dX10_ends_107 : decode cX10_ends 107 = .ok (.iload 5, 2) := by decide +kernel
theorem dX10_ends_109 : decode cX10_ends 109 = .ok (.iload_n 2, 1) := by decide +kernel
theorem dX10_ends_110 : decode cX10_ends 110 = .ok (.invokevirtual 165, 3) := by decide +kernel
theorem dX10_ends_113 : decode cX10_ends 113 = .ok (.invokestatic 133, 3) := by decide +kernel
theorem dX10_ends_116 : decode cX10_ends 116 = .ok (.iastore, 1) := by decide +kernel
theorem dX10_ends_117 : decode cX10_ends 117 = .ok (.aload_n 0, 1) := by decide +kernel
theorem dX10_ends_118 : decode cX10_ends 118 = .ok (.getfield 83, 3) := by decide +kernel
theorem dX10_ends_121 : decode cX10_ends 121 = .ok (.iconst 1, 1) := by decide +kernel
theorem dX10_ends_122 : decode cX10_ends 122 = .ok (.aload_n 0, 1) := by decide +kernel
theorem dX10_ends_123 : decode cX10_ends 123 = .ok (.getfield 83, 3) := by decide +kernel
theorem dX10_ends_126 : decode cX10_ends 126 = .ok (.iconst 1, 1) := by decide +kernel
theorem dX10_ends_127 : decode cX10_ends 127 = .ok (.iaload, 1) := by decide +kernel
theorem dX10_ends_128 : decode cX10_ends 128 = .ok (.aload_n 0, 1) := by decide +kernel
theorem dX10_ends_129 : decode cX10_ends 129 = .ok (.iload_n 1, 1) := by decide +kernel
theorem dX10_ends_130 : decode cX10_ends 130 = .ok (.iload 5, 2) := by decide +kernel
theorem dX10_ends_132 : decode cX10_ends 132 = .ok (.iload_n 2, 1) := by decide +kernel
theorem dX10_ends_133 : decode cX10_ends 133 = .ok (.invokevirtual 165, 3) := by decide +kernel
theorem dX10_ends_136 : decode cX10_ends 136 = .ok (.invokestatic 139, 3) := by decide +kernel
theorem dX10_ends_139 : decode cX10_ends 139 = .ok (.iastore, 1) := by decide +kernel
theorem dX10_ends_140 : decode cX10_ends 140 = .ok (.aload_n 0, 1) := by decide +kernel
theorem dX10_ends_141 : decode cX10_ends 141 = .ok (.getfield 83, 3) := by decide +kernel
theorem dX10_ends_144 : decode cX10_ends 144 = .ok (.iconst 2, 1) := by decide +kernel
theorem dX10_ends_145 : decode cX10_ends 145 = .ok (.aload_n 0, 1) := by decide +kernel
theorem dX10_ends_146 : decode cX10_ends 146 = .ok (.getfield 83, 3) := by decide +kernel
theorem dX10_ends_149 : decode cX10_ends 149 = .ok (.iconst 2, 1) := by decide +kernel
theorem dX10_ends_150 : decode cX10_ends 150 = .ok (.iaload, 1) := by decide +kernel
theorem dX10_ends_151 : decode cX10_ends 151 = .ok (.aload_n 0, 1) := by decide +kernel
theorem dX10_ends_152 : decode cX10_ends 152 = .ok (.iload_n 1, 1) := by decide +kernel
theorem dX10_ends_153 : decode cX10_ends 153 = .ok (.iload 5, 2) := by decide +kernel
theorem dX10_ends_155 : decode cX10_ends 155 = .ok (.iload_n 2, 1) := by decide +kernel
theorem dX10_ends_156 : decode cX10_ends 156 = .ok (.invokevirtual 159, 3) := by decide +kernel
theorem dX10_ends_159 : decode cX10_ends 159 = .ok (.invokestatic 133, 3) := by decide +kernel
theorem dX10_ends_162 : decode cX10_ends 162 = .ok (.iastore, 1) := by decide +kernel
theorem dX10_ends_163 : decode cX10_ends 163 = .ok (.aload_n 0, 1) := by decide +kernel
theorem dX10_ends_164 : decode cX10_ends 164 = .ok (.getfield 83, 3) := by decide +kernel
theorem dX10_ends_167 : decode cX10_ends 167 = .ok (.iconst 3, 1) := by decide +kernel
theorem dX10_ends_168 : decode cX10_ends 168 = .ok (.aload_n 0, 1) := by decide +kernel
theorem dX10_ends_169 : decode cX10_ends 169 = .ok (.getfield 83, 3) := by decide +kernel
theorem dX10_ends_172 : decode cX10_ends 172 = .ok (.iconst 3, 1) := by decide +kernel
theorem dX10_ends_173 : decode cX10_ends 173 = .ok (.iaload, 1) := by decide +kernel
theorem dX10_ends_174 : decode cX10_ends 174 = .ok (.aload_n 0, 1) := by decide +kernel
theorem dX10_ends_175 : decode cX10_ends 175 = .ok (.iload_n 1, 1) := by decide +kernel
theorem dX10_ends_176 : decode cX10_ends 176 = .ok (.iload 5, 2) := by decide +kernel
theorem dX10_ends_178 : decode cX10_ends 178 = .ok (.iload_n 2, 1) := by decide +kernel
theorem dX10_ends_179 : decode cX10_ends 179 = .ok (.invokevirtual 159, 3) := by decide +kernel
theorem dX10_ends_182 : decode cX10_ends 182 = .ok (.invokestatic 139, 3) := by decide +kernel
theorem dX10_ends_185 : decode cX10_ends 185 = .ok (.iastore, 1) := by decide +kernel
theorem dX10_ends_186 : decode cX10_ends 186 = .ok (.iinc 5 1, 3) := by decide +kernel
theorem dX10_ends_189 : decode cX10_ends 189 = .ok (.goto (-114), 3) := by decide +kernel
theorem dX10_ends_192 : decode cX10_ends 192 = .ok (.aload_n 0, 1) := by decide +kernel
theorem dX10_ends_193 : decode cX10_ends 193 = .ok (.iconst 4, 1) := by decide +kernel
theorem dX10_ends_194 : decode cX10_ends 194 = .ok (.putfield 123, 3) := by decide +kernel
theorem dX10_ends_197 : decode cX10_ends 197 = .ok (.lload_n 3, 1) := by decide +kernel
theorem dX10_ends_198 : decode cX10_ends 198 = .ok (.invokestatic 217, 3) := by decide +kernel
theorem dX10_ends_201 : decode cX10_ends 201 = .ok (.ireturn, 1) := by decide +kernel
theorem dX10_yes_0 : decode cX10_yes 0 = .ok (.lconst 0, 1) := by decide +kernel
theorem dX10_yes_1 : decode cX10_yes 1 = .ok (.lstore 6, 2) := by decide +kernel
theorem dX10_yes_3 : decode cX10_yes 3 = .ok (.iconst 0, 1) := by decide +kernel
theorem dX10_yes_4 : decode cX10_yes 4 = .ok (.istore 8, 2) := by decide +kernel
theorem dX10_yes_6 : decode cX10_yes 6 = .ok (.iload 8, 2) := by decide +kernel
theorem dX10_yes_8 : decode cX10_yes 8 = .ok (.bipush 64, 2) := by decide +kernel
theorem dX10_yes_10 : decode cX10_yes 10 = .ok (.if_icmp .ge 43, 3) := by decide +kernel
theorem dX10_yes_13 : decode cX10_yes 13 = .ok (.lload_n 2, 1) := by decide +kernel
theorem dX10_yes_14 : decode cX10_yes 14 = .ok (.iload 8, 2) := by decide +kernel
theorem dX10_yes_16 : decode cX10_yes 16 = .ok (.invokestatic 179, 3) := by decide +kernel
theorem dX10_yes_19 : decode cX10_yes 19 = .ok (.ifCond .eq 28, 3) := by decide +kernel
theorem dX10_yes_22 : decode cX10_yes 22 = .ok (.aload_n 0, 1) := by decide +kernel
theorem dX10_yes_23 : decode cX10_yes 23 = .ok (.iload_n 1, 1) := by decide +kernel
theorem dX10_yes_24 : decode cX10_yes 24 = .ok (.iload 8, 2) := by decide +kernel
theorem dX10_yes_26 : decode cX10_yes 26 = .ok (.iload 4, 2) := by decide +kernel
theorem dX10_yes_28 : decode cX10_yes 28 = .ok (.invokevirtual 168, 3) := by decide +kernel
theorem dX10_yes_31 : decode cX10_yes 31 = .ok (.iconst 2, 1) := by decide +kernel
theorem dX10_yes_32 : decode cX10_yes 32 = .ok (.iload 5, 2) := by decide +kernel
theorem dX10_yes_34 : decode cX10_yes 34 = .ok (.imul, 1) := by decide +kernel
theorem dX10_yes_35 : decode cX10_yes 35 = .ok (.if_icmp .ne 12, 3) := by decide +kernel
theorem dX10_yes_38 : decode cX10_yes 38 = .ok (.lload 6, 2) := by decide +kernel
theorem dX10_yes_40 : decode cX10_yes 40 = .ok (.lconst 1, 1) := by decide +kernel
theorem dX10_yes_41 : decode cX10_yes 41 = .ok (.iload 8, 2) := by decide +kernel
theorem dX10_yes_43 : decode cX10_yes 43 = .ok (.lshl, 1) := by decide +kernel
theorem dX10_yes_44 : decode cX10_yes 44 = .ok (.lor, 1) := by decide +kernel
theorem dX10_yes_45 : decode cX10_yes 45 = .ok (.lstore 6, 2) := by decide +kernel
theorem dX10_yes_47 : decode cX10_yes 47 = .ok (.iinc 8 1, 3) := by decide +kernel
theorem dX10_yes_50 : decode cX10_yes 50 = .ok (.goto (-44), 3) := by decide +kernel
theorem dX10_yes_53 : decode cX10_yes 53 = .ok (.lload 6, 2) := by decide +kernel
theorem dX10_yes_55 : decode cX10_yes 55 = .ok (.lreturn, 1) := by decide +kernel
theorem dX10_share_0 : decode cX10_share 0 = .ok (.aload_n 0, 1) := by decide +kernel
theorem dX10_share_1 : decode cX10_share 1 = .ok (.iconst 0, 1) := by decide +kernel
theorem dX10_share_2 : decode cX10_share 2 = .ok (.putfield 113, 3) := by decide +kernel
theorem dX10_share_5 : decode cX10_share 5 = .ok (.aload_n 0, 1) := by decide +kernel
theorem dX10_share_6 : decode cX10_share 6 = .ok (.iload_n 1, 1) := by decide +kernel
theorem dX10_share_7 : decode cX10_share 7 = .ok (.invokevirtual 145, 3) := by decide +kernel
theorem dX10_share_10 : decode cX10_share 10 = .ok (.ifCond .eq 19, 3) := by decide +kernel
theorem dX10_share_13 : decode cX10_share 13 = .ok (.iload_n 2, 1) := by decide +kernel
theorem dX10_share_14 : decode cX10_share 14 = .ok (.invokestatic 126, 3) := by decide +kernel
theorem dX10_share_17 : decode cX10_share 17 = .ok (.ifCond .eq 12, 3) := by decide +kernel
theorem dX10_share_20 : decode cX10_share 20 = .ok (.iload_n 3, 1) := by decide +kernel
theorem dX10_share_21 : decode cX10_share 21 = .ok (.iconst 0, 1) := by decide +kernel
theorem dX10_share_22 : decode cX10_share 22 = .ok (.iconst 1, 1) := by decide +kernel
theorem dX10_share_23 : decode cX10_share 23 = .ok (.invokestatic 119, 3) := by decide +kernel
theorem dX10_share_26 : decode cX10_share 26 = .ok (.ifCond .ne 5, 3) := by decide +kernel
theorem dX10_share_29 : decode cX10_share 29 = .ok (.iconst (-1), 1) := by decide +kernel
theorem dX10_share_30 : decode cX10_share 30 = .ok (.ireturn, 1) := by decide +kernel
theorem dX10_share_31 : decode cX10_share 31 = .ok (.aload_n 0, 1) := by decide +kernel
theorem dX10_share_32 : decode cX10_share 32 = .ok (.iload_n 1, 1) := by decide +kernel
theorem dX10_share_33 : decode cX10_share 33 = .ok (.aload_n 0, 1) := by decide +kernel
theorem dX10_share_34 : decode cX10_share 34 = .ok (.getfield 55, 3) := by decide +kernel
theorem dX10_share_37 : decode cX10_share 37 = .ok (.invokevirtual 207, 3) := by decide +kernel
theorem dX10_share_40 : decode cX10_share 40 = .ok (.lstore 4, 2) := by decide +kernel
theorem dX10_share_42 : decode cX10_share 42 = .ok (.lload 4, 2) := by decide +kernel
theorem dX10_share_44 : decode cX10_share 44 = .ok (.lconst 0, 1) := by decide +kernel
theorem dX10_share_45 : decode cX10_share 45 = .ok (.lcmp, 1) := by decide +kernel
theorem dX10_share_46 : decode cX10_share 46 = .ok (.ifCond .ne 7, 3) := by decide +kernel
theorem dX10_share_49 : decode cX10_share 49 = .ok (.iconst (-1), 1) := by decide +kernel
theorem dX10_share_50 : decode cX10_share 50 = .ok (.goto 25, 3) := by decide +kernel
theorem dX10_share_53 : decode cX10_share 53 = .ok (.aload_n 0, 1) := by decide +kernel
theorem dX10_share_54 : decode cX10_share 54 = .ok (.iload_n 1, 1) := by decide +kernel
theorem dX10_share_55 : decode cX10_share 55 = .ok (.lload 4, 2) := by decide +kernel
theorem dX10_share_57 : decode cX10_share 57 = .ok (.iload_n 2, 1) := by decide +kernel
theorem dX10_share_58 : decode cX10_share 58 = .ok (.iload_n 3, 1) := by decide +kernel
theorem dX10_share_59 : decode cX10_share 59 = .ok (.invokevirtual 226, 3) := by decide +kernel
theorem dX10_share_62 : decode cX10_share 62 = .ok (.invokestatic 217, 3) := by decide +kernel
theorem dX10_share_65 : decode cX10_share 65 = .ok (.sipush 1000, 3) := by decide +kernel
theorem dX10_share_68 : decode cX10_share 68 = .ok (.imul, 1) := by decide +kernel
theorem dX10_share_69 : decode cX10_share 69 = .ok (.lload 4, 2) := by decide +kernel
theorem dX10_share_71 : decode cX10_share 71 = .ok (.invokestatic 217, 3) := by decide +kernel
theorem dX10_share_74 : decode cX10_share 74 = .ok (.idiv, 1) := by decide +kernel
theorem dX10_share_75 : decode cX10_share 75 = .ok (.ireturn, 1) := by decide +kernel
theorem dX10_left_0 : decode cX10_left 0 = .ok (.lconst 0, 1) := by decide +kernel
theorem dX10_left_1 : decode cX10_left 1 = .ok (.lstore 7, 2) := by decide +kernel
theorem dX10_left_3 : decode cX10_left 3 = .ok (.aload_n 0, 1) := by decide +kernel
theorem dX10_left_4 : decode cX10_left 4 = .ok (.iload_n 1, 1) := by decide +kernel
theorem dX10_left_5 : decode cX10_left 5 = .ok (.iload 6, 2) := by decide +kernel
theorem dX10_left_7 : decode cX10_left 7 = .ok (.iload 4, 2) := by decide +kernel
theorem dX10_left_9 : decode cX10_left 9 = .ok (.invokevirtual 165, 3) := by decide +kernel
theorem dX10_left_12 : decode cX10_left 12 = .ok (.istore 9, 2) := by decide +kernel
theorem dX10_left_14 : decode cX10_left 14 = .ok (.lload_n 2, 1) := by decide +kernel
theorem dX10_left_15 : decode cX10_left 15 = .ok (.lstore 10, 2) := by decide +kernel
theorem dX10_left_17 : decode cX10_left 17 = .ok (.lload 10, 2) := by decide +kernel
theorem dX10_left_19 : decode cX10_left 19 = .ok (.lconst 0, 1) := by decide +kernel
theorem dX10_left_20 : decode cX10_left 20 = .ok (.lcmp, 1) := by decide +kernel
theorem dX10_left_21 : decode cX10_left 21 = .ok (.ifCond .eq 51, 3) := by decide +kernel
theorem dX10_left_24 : decode cX10_left 24 = .ok (.lload 10, 2) := by decide +kernel
theorem dX10_left_26 : decode cX10_left 26 = .ok (.invokestatic 230, 3) := by decide +kernel
theorem dX10_left_29 : decode cX10_left 29 = .ok (.istore 12, 2) := by decide +kernel
theorem dX10_left_31 : decode cX10_left 31 = .ok (.aload_n 0, 1) := by decide +kernel
theorem dX10_left_32 : decode cX10_left 32 = .ok (.iload_n 1, 1) := by decide +kernel
theorem dX10_left_33 : decode cX10_left 33 = .ok (.iload 12, 2) := by decide +kernel
theorem dX10_left_35 : decode cX10_left 35 = .ok (.iload 4, 2) := by decide +kernel
theorem dX10_left_37 : decode cX10_left 37 = .ok (.invokevirtual 165, 3) := by decide +kernel
theorem dX10_left_40 : decode cX10_left 40 = .ok (.iload 9, 2) := by decide +kernel
theorem dX10_left_42 : decode cX10_left 42 = .ok (.isub, 1) := by decide +kernel
theorem dX10_left_43 : decode cX10_left 43 = .ok (.invokestatic 171, 3) := by decide +kernel
theorem dX10_left_46 : decode cX10_left 46 = .ok (.iload 5, 2) := by decide +kernel
theorem dX10_left_48 : decode cX10_left 48 = .ok (.if_icmp .gt 12, 3) := by decide +kernel
theorem dX10_left_51 : decode cX10_left 51 = .ok (.lload 7, 2) := by decide +kernel
theorem dX10_left_53 : decode cX10_left 53 = .ok (.lconst 1, 1) := by decide +kernel
theorem dX10_left_54 : decode cX10_left 54 = .ok (.iload 12, 2) := by decide +kernel
theorem dX10_left_56 : decode cX10_left 56 = .ok (.lshl, 1) := by decide +kernel
theorem dX10_left_57 : decode cX10_left 57 = .ok (.lor, 1) := by decide +kernel
theorem dX10_left_58 : decode cX10_left 58 = .ok (.lstore 7, 2) := by decide +kernel
theorem dX10_left_60 : decode cX10_left 60 = .ok (.lload 10, 2) := by decide +kernel
theorem dX10_left_62 : decode cX10_left 62 = .ok (.lload 10, 2) := by decide +kernel
theorem dX10_left_64 : decode cX10_left 64 = .ok (.lconst 1, 1) := by decide +kernel
theorem dX10_left_65 : decode cX10_left 65 = .ok (.lsub, 1) := by decide +kernel
theorem dX10_left_66 : decode cX10_left 66 = .ok (.land, 1) := by decide +kernel
theorem dX10_left_67 : decode cX10_left 67 = .ok (.lstore 10, 2) := by decide +kernel
theorem dX10_left_69 : decode cX10_left 69 = .ok (.goto (-52), 3) := by decide +kernel
theorem dX10_left_72 : decode cX10_left 72 = .ok (.lload 7, 2) := by decide +kernel
theorem dX10_left_74 : decode cX10_left 74 = .ok (.lreturn, 1) := by decide +kernel
theorem dX10_worstOf_0 : decode cX10_worstOf 0 = .ok (.iconst 0, 1) := by decide +kernel
theorem dX10_worstOf_1 : decode cX10_worstOf 1 = .ok (.istore 6, 2) := by decide +kernel
theorem dX10_worstOf_3 : decode cX10_worstOf 3 = .ok (.lload_n 2, 1) := by decide +kernel
theorem dX10_worstOf_4 : decode cX10_worstOf 4 = .ok (.lstore 7, 2) := by decide +kernel
theorem dX10_worstOf_6 : decode cX10_worstOf 6 = .ok (.lload 7, 2) := by decide +kernel
theorem dX10_worstOf_8 : decode cX10_worstOf 8 = .ok (.lconst 0, 1) := by decide +kernel
theorem dX10_worstOf_9 : decode cX10_worstOf 9 = .ok (.lcmp, 1) := by decide +kernel
theorem dX10_worstOf_10 : decode cX10_worstOf 10 = .ok (.ifCond .eq 40, 3) := by decide +kernel
theorem dX10_worstOf_13 : decode cX10_worstOf 13 = .ok (.iload 6, 2) := by decide +kernel
theorem dX10_worstOf_15 : decode cX10_worstOf 15 = .ok (.aload_n 0, 1) := by decide +kernel
theorem dX10_worstOf_16 : decode cX10_worstOf 16 = .ok (.iload_n 1, 1) := by decide +kernel
theorem dX10_worstOf_17 : decode cX10_worstOf 17 = .ok (.lload_n 2, 1) := by decide +kernel
theorem dX10_worstOf_18 : decode cX10_worstOf 18 = .ok (.iload 4, 2) := by decide +kernel
theorem dX10_worstOf_20 : decode cX10_worstOf 20 = .ok (.iload 5, 2) := by decide +kernel
theorem dX10_worstOf_22 : decode cX10_worstOf 22 = .ok (.lload 7, 2) := by decide +kernel
theorem dX10_worstOf_24 : decode cX10_worstOf 24 = .ok (.invokestatic 230, 3) := by decide +kernel
theorem dX10_worstOf_27 : decode cX10_worstOf 27 = .ok (.invokevirtual 233, 3) := by decide +kernel
theorem dX10_worstOf_30 : decode cX10_worstOf 30 = .ok (.invokestatic 217, 3) := by decide +kernel
theorem dX10_worstOf_33 : decode cX10_worstOf 33 = .ok (.invokestatic 139, 3) := by decide +kernel
theorem dX10_worstOf_36 : decode cX10_worstOf 36 = .ok (.istore 6, 2) := by decide +kernel
theorem dX10_worstOf_38 : decode cX10_worstOf 38 = .ok (.lload 7, 2) := by decide +kernel
theorem dX10_worstOf_40 : decode cX10_worstOf 40 = .ok (.lload 7, 2) := by decide +kernel
theorem dX10_worstOf_42 : decode cX10_worstOf 42 = .ok (.lconst 1, 1) := by decide +kernel
theorem dX10_worstOf_43 : decode cX10_worstOf 43 = .ok (.lsub, 1) := by decide +kernel
theorem dX10_worstOf_44 : decode cX10_worstOf 44 = .ok (.land, 1) := by decide +kernel
theorem dX10_worstOf_45 : decode cX10_worstOf 45 = .ok (.lstore 7, 2) := by decide +kernel
theorem dX10_worstOf_47 : decode cX10_worstOf 47 = .ok (.goto (-41), 3) := by decide +kernel
theorem dX10_worstOf_50 : decode cX10_worstOf 50 = .ok (.iload 6, 2) := by decide +kernel
theorem dX10_worstOf_52 : decode cX10_worstOf 52 = .ok (.ireturn, 1) := by decide +kernel
theorem dX10_isErrs_0 : decode cX10_isErrs 0 = .ok (.iload_n 0, 1) := by decide +kernel
theorem dX10_isErrs_1 : decode cX10_isErrs 1 = .ok (.iconst 0, 1) := by decide +kernel
theorem dX10_isErrs_2 : decode cX10_isErrs 2 = .ok (.bipush 50, 2) := by decide +kernel
theorem dX10_isErrs_4 : decode cX10_isErrs 4 = .ok (.invokestatic 119, 3) := by decide +kernel
theorem dX10_isErrs_7 : decode cX10_isErrs 7 = .ok (.ireturn, 1) := by decide +kernel
theorem dX10_worst_0 : decode cX10_worst 0 = .ok (.aload_n 0, 1) := by decide +kernel
theorem dX10_worst_1 : decode cX10_worst 1 = .ok (.iconst 0, 1) := by decide +kernel
theorem dX10_worst_2 : decode cX10_worst 2 = .ok (.putfield 113, 3) := by decide +kernel
theorem dX10_worst_5 : decode cX10_worst 5 = .ok (.aload_n 0, 1) := by decide +kernel
theorem dX10_worst_6 : decode cX10_worst 6 = .ok (.iload_n 1, 1) := by decide +kernel
theorem dX10_worst_7 : decode cX10_worst 7 = .ok (.invokevirtual 145, 3) := by decide +kernel
theorem dX10_worst_10 : decode cX10_worst 10 = .ok (.ifCond .eq 17, 3) := by decide +kernel
theorem dX10_worst_13 : decode cX10_worst 13 = .ok (.iload_n 2, 1) := by decide +kernel
theorem dX10_worst_14 : decode cX10_worst 14 = .ok (.invokestatic 126, 3) := by decide +kernel
theorem dX10_worst_17 : decode cX10_worst 17 = .ok (.ifCond .eq 10, 3) := by decide +kernel
theorem dX10_worst_20 : decode cX10_worst 20 = .ok (.iload_n 3, 1) := by decide +kernel
theorem dX10_worst_21 : decode cX10_worst 21 = .ok (.invokestatic 237, 3) := by decide +kernel
theorem dX10_worst_24 : decode cX10_worst 24 = .ok (.ifCond .ne 5, 3) := by decide +kernel
theorem dX10_worst_27 : decode cX10_worst 27 = .ok (.iconst (-1), 1) := by decide +kernel
theorem dX10_worst_28 : decode cX10_worst 28 = .ok (.ireturn, 1) := by decide +kernel
theorem dX10_worst_29 : decode cX10_worst 29 = .ok (.aload_n 0, 1) := by decide +kernel
theorem dX10_worst_30 : decode cX10_worst 30 = .ok (.iload_n 1, 1) := by decide +kernel
theorem dX10_worst_31 : decode cX10_worst 31 = .ok (.aload_n 0, 1) := by decide +kernel
theorem dX10_worst_32 : decode cX10_worst 32 = .ok (.getfield 55, 3) := by decide +kernel
theorem dX10_worst_35 : decode cX10_worst 35 = .ok (.invokevirtual 207, 3) := by decide +kernel
theorem dX10_worst_38 : decode cX10_worst 38 = .ok (.lstore 4, 2) := by decide +kernel
theorem dX10_worst_40 : decode cX10_worst 40 = .ok (.lload 4, 2) := by decide +kernel
theorem dX10_worst_42 : decode cX10_worst 42 = .ok (.lconst 0, 1) := by decide +kernel
theorem dX10_worst_43 : decode cX10_worst 43 = .ok (.lcmp, 1) := by decide +kernel
theorem dX10_worst_44 : decode cX10_worst 44 = .ok (.ifCond .ne 7, 3) := by decide +kernel
theorem dX10_worst_47 : decode cX10_worst 47 = .ok (.iconst (-1), 1) := by decide +kernel
theorem dX10_worst_48 : decode cX10_worst 48 = .ok (.goto 12, 3) := by decide +kernel
theorem dX10_worst_51 : decode cX10_worst 51 = .ok (.aload_n 0, 1) := by decide +kernel
theorem dX10_worst_52 : decode cX10_worst 52 = .ok (.iload_n 1, 1) := by decide +kernel
theorem dX10_worst_53 : decode cX10_worst 53 = .ok (.lload 4, 2) := by decide +kernel
theorem dX10_worst_55 : decode cX10_worst 55 = .ok (.iload_n 2, 1) := by decide +kernel
theorem dX10_worst_56 : decode cX10_worst 56 = .ok (.iload_n 3, 1) := by decide +kernel
theorem dX10_worst_57 : decode cX10_worst 57 = .ok (.invokevirtual 240, 3) := by decide +kernel
theorem dX10_worst_60 : decode cX10_worst 60 = .ok (.ireturn, 1) := by decide +kernel
theorem dX10_next_0 : decode cX10_next 0 = .ok (.aload_n 0, 1) := by decide +kernel
theorem dX10_next_1 : decode cX10_next 1 = .ok (.iconst 0, 1) := by decide +kernel
theorem dX10_next_2 : decode cX10_next 2 = .ok (.putfield 113, 3) := by decide +kernel
theorem dX10_next_5 : decode cX10_next 5 = .ok (.aload_n 0, 1) := by decide +kernel
theorem dX10_next_6 : decode cX10_next 6 = .ok (.iload_n 1, 1) := by decide +kernel
theorem dX10_next_7 : decode cX10_next 7 = .ok (.invokevirtual 145, 3) := by decide +kernel
theorem dX10_next_10 : decode cX10_next 10 = .ok (.ifCond .eq 29, 3) := by decide +kernel
theorem dX10_next_13 : decode cX10_next 13 = .ok (.iload_n 2, 1) := by decide +kernel
theorem dX10_next_14 : decode cX10_next 14 = .ok (.invokestatic 126, 3) := by decide +kernel
theorem dX10_next_17 : decode cX10_next 17 = .ok (.ifCond .eq 22, 3) := by decide +kernel
theorem dX10_next_20 : decode cX10_next 20 = .ok (.iload_n 3, 1) := by decide +kernel
theorem dX10_next_21 : decode cX10_next 21 = .ok (.iload_n 2, 1) := by decide +kernel
theorem dX10_next_22 : decode cX10_next 22 = .ok (.sipush 399, 3) := by decide +kernel
theorem dX10_next_25 : decode cX10_next 25 = .ok (.invokestatic 119, 3) := by decide +kernel
theorem dX10_next_28 : decode cX10_next 28 = .ok (.ifCond .eq 11, 3) := by decide +kernel
theorem dX10_next_31 : decode cX10_next 31 = .ok (.iload 4, 2) := by decide +kernel
theorem dX10_next_33 : decode cX10_next 33 = .ok (.invokestatic 237, 3) := by decide +kernel
theorem dX10_next_36 : decode cX10_next 36 = .ok (.ifCond .ne 5, 3) := by decide +kernel
theorem dX10_next_39 : decode cX10_next 39 = .ok (.iconst (-1), 1) := by decide +kernel
theorem dX10_next_40 : decode cX10_next 40 = .ok (.ireturn, 1) := by decide +kernel
theorem dX10_next_41 : decode cX10_next 41 = .ok (.aload_n 0, 1) := by decide +kernel
theorem dX10_next_42 : decode cX10_next 42 = .ok (.iload_n 1, 1) := by decide +kernel
theorem dX10_next_43 : decode cX10_next 43 = .ok (.aload_n 0, 1) := by decide +kernel
theorem dX10_next_44 : decode cX10_next 44 = .ok (.getfield 55, 3) := by decide +kernel
theorem dX10_next_47 : decode cX10_next 47 = .ok (.invokevirtual 207, 3) := by decide +kernel
theorem dX10_next_50 : decode cX10_next 50 = .ok (.lstore 5, 2) := by decide +kernel
theorem dX10_next_52 : decode cX10_next 52 = .ok (.lload 5, 2) := by decide +kernel
theorem dX10_next_54 : decode cX10_next 54 = .ok (.lconst 0, 1) := by decide +kernel
theorem dX10_next_55 : decode cX10_next 55 = .ok (.lcmp, 1) := by decide +kernel
theorem dX10_next_56 : decode cX10_next 56 = .ok (.ifCond .ne 5, 3) := by decide +kernel
theorem dX10_next_59 : decode cX10_next 59 = .ok (.iconst (-1), 1) := by decide +kernel
theorem dX10_next_60 : decode cX10_next 60 = .ok (.ireturn, 1) := by decide +kernel
theorem dX10_next_61 : decode cX10_next 61 = .ok (.iconst (-1), 1) := by decide +kernel
theorem dX10_next_62 : decode cX10_next 62 = .ok (.istore 7, 2) := by decide +kernel
theorem dX10_next_64 : decode cX10_next 64 = .ok (.bipush 65, 2) := by decide +kernel
theorem dX10_next_66 : decode cX10_next 66 = .ok (.istore 8, 2) := by decide +kernel
theorem dX10_next_68 : decode cX10_next 68 = .ok (.iload_n 2, 1) := by decide +kernel
theorem dX10_next_69 : decode cX10_next 69 = .ok (.istore 9, 2) := by decide +kernel
theorem dX10_next_71 : decode cX10_next 71 = .ok (.iload 9, 2) := by decide +kernel
theorem dX10_next_73 : decode cX10_next 73 = .ok (.iload_n 3, 1) := by decide +kernel
theorem dX10_next_74 : decode cX10_next 74 = .ok (.if_icmp .gt 40, 3) := by decide +kernel
theorem dX10_next_77 : decode cX10_next 77 = .ok (.aload_n 0, 1) := by decide +kernel
theorem dX10_next_78 : decode cX10_next 78 = .ok (.iload_n 1, 1) := by decide +kernel
theorem dX10_next_79 : decode cX10_next 79 = .ok (.lload 5, 2) := by decide +kernel
theorem dX10_next_81 : decode cX10_next 81 = .ok (.iload 9, 2) := by decide +kernel
theorem dX10_next_83 : decode cX10_next 83 = .ok (.iload 4, 2) := by decide +kernel
theorem dX10_next_85 : decode cX10_next 85 = .ok (.invokevirtual 240, 3) := by decide +kernel
theorem dX10_next_88 : decode cX10_next 88 = .ok (.istore 10, 2) := by decide +kernel
theorem dX10_next_90 : decode cX10_next 90 = .ok (.iload 10, 2) := by decide +kernel
theorem dX10_next_92 : decode cX10_next 92 = .ok (.iload 8, 2) := by decide +kernel
theorem dX10_next_94 : decode cX10_next 94 = .ok (.if_icmp .lt 6, 3) := by decide +kernel
theorem dX10_next_97 : decode cX10_next 97 = .ok (.goto 11, 3) := by decide +kernel
theorem dX10_next_100 : decode cX10_next 100 = .ok (.iload 10, 2) := by decide +kernel
theorem dX10_next_102 : decode cX10_next 102 = .ok (.istore 8, 2) := by decide +kernel
theorem dX10_next_104 : decode cX10_next 104 = .ok (.iload 9, 2) := by decide +kernel
theorem dX10_next_106 : decode cX10_next 106 = .ok (.istore 7, 2) := by decide +kernel
theorem dX10_next_108 : decode cX10_next 108 = .ok (.iinc 9 1, 3) := by decide +kernel
theorem dX10_next_111 : decode cX10_next 111 = .ok (.goto (-40), 3) := by decide +kernel
theorem dX10_next_114 : decode cX10_next 114 = .ok (.aload_n 0, 1) := by decide +kernel
theorem dX10_next_115 : decode cX10_next 115 = .ok (.iconst 0, 1) := by decide +kernel
theorem dX10_next_116 : decode cX10_next 116 = .ok (.putfield 123, 3) := by decide +kernel
theorem dX10_next_119 : decode cX10_next 119 = .ok (.aload_n 0, 1) := by decide +kernel
theorem dX10_next_120 : decode cX10_next 120 = .ok (.iload 8, 2) := by decide +kernel
theorem dX10_next_122 : decode cX10_next 122 = .ok (.invokevirtual 211, 3) := by decide +kernel
theorem dX10_next_125 : decode cX10_next 125 = .ok (.iload 7, 2) := by decide +kernel
theorem dX10_next_127 : decode cX10_next 127 = .ok (.ireturn, 1) := by decide +kernel
theorem dX10_isPlan_0 : decode cX10_isPlan 0 = .ok (.aload_n 0, 1) := by decide +kernel
theorem dX10_isPlan_1 : decode cX10_isPlan 1 = .ok (.iload_n 1, 1) := by decide +kernel
theorem dX10_isPlan_2 : decode cX10_isPlan 2 = .ok (.invokevirtual 145, 3) := by decide +kernel
theorem dX10_isPlan_5 : decode cX10_isPlan 5 = .ok (.ifCond .eq 57, 3) := by decide +kernel
theorem dX10_isPlan_8 : decode cX10_isPlan 8 = .ok (.iload_n 2, 1) := by decide +kernel
theorem dX10_isPlan_9 : decode cX10_isPlan 9 = .ok (.invokestatic 126, 3) := by decide +kernel
theorem dX10_isPlan_12 : decode cX10_isPlan 12 = .ok (.ifCond .eq 50, 3) := by decide +kernel
theorem dX10_isPlan_15 : decode cX10_isPlan 15 = .ok (.iload_n 3, 1) := by decide +kernel
theorem dX10_isPlan_16 : decode cX10_isPlan 16 = .ok (.iconst 1, 1) := by decide +kernel
theorem dX10_isPlan_17 : decode cX10_isPlan 17 = .ok (.bipush 50, 2) := by decide +kernel
theorem dX10_isPlan_19 : decode cX10_isPlan 19 = .ok (.invokestatic 119, 3) := by decide +kernel
theorem dX10_isPlan_22 : decode cX10_isPlan 22 = .ok (.ifCond .eq 40, 3) := by decide +kernel
theorem dX10_isPlan_25 : decode cX10_isPlan 25 = .ok (.iload 4, 2) := by decide +kernel
theorem dX10_isPlan_27 : decode cX10_isPlan 27 = .ok (.iconst 1, 1) := by decide +kernel
theorem dX10_isPlan_28 : decode cX10_isPlan 28 = .ok (.bipush 6, 2) := by decide +kernel
theorem dX10_isPlan_30 : decode cX10_isPlan 30 = .ok (.invokestatic 119, 3) := by decide +kernel
theorem dX10_isPlan_33 : decode cX10_isPlan 33 = .ok (.ifCond .eq 29, 3) := by decide +kernel
theorem dX10_isPlan_36 : decode cX10_isPlan 36 = .ok (.iload_n 2, 1) := by decide +kernel
theorem dX10_isPlan_37 : decode cX10_isPlan 37 = .ok (.iload_n 3, 1) := by decide +kernel
theorem dX10_isPlan_38 : decode cX10_isPlan 38 = .ok (.iload 4, 2) := by decide +kernel
theorem dX10_isPlan_40 : decode cX10_isPlan 40 = .ok (.iconst 1, 1) := by decide +kernel
theorem dX10_isPlan_41 : decode cX10_isPlan 41 = .ok (.isub, 1) := by decide +kernel
theorem dX10_isPlan_42 : decode cX10_isPlan 42 = .ok (.imul, 1) := by decide +kernel
theorem dX10_isPlan_43 : decode cX10_isPlan 43 = .ok (.iadd, 1) := by decide +kernel
theorem dX10_isPlan_44 : decode cX10_isPlan 44 = .ok (.sipush 400, 3) := by decide +kernel
theorem dX10_isPlan_47 : decode cX10_isPlan 47 = .ok (.if_icmp .ge 15, 3) := by decide +kernel
theorem dX10_isPlan_50 : decode cX10_isPlan 50 = .ok (.iload 5, 2) := by decide +kernel
theorem dX10_isPlan_52 : decode cX10_isPlan 52 = .ok (.invokestatic 237, 3) := by decide +kernel
theorem dX10_isPlan_55 : decode cX10_isPlan 55 = .ok (.ifCond .eq 7, 3) := by decide +kernel
theorem dX10_isPlan_58 : decode cX10_isPlan 58 = .ok (.iconst 1, 1) := by decide +kernel
theorem dX10_isPlan_59 : decode cX10_isPlan 59 = .ok (.goto 4, 3) := by decide +kernel
theorem dX10_isPlan_62 : decode cX10_isPlan 62 = .ok (.iconst 0, 1) := by decide +kernel
theorem dX10_isPlan_63 : decode cX10_isPlan 63 = .ok (.ireturn, 1) := by decide +kernel
theorem dX10_beginPlan_0 : decode cX10_beginPlan 0 = .ok (.aload_n 0, 1) := by decide +kernel
theorem dX10_beginPlan_1 : decode cX10_beginPlan 1 = .ok (.iload_n 1, 1) := by decide +kernel
theorem dX10_beginPlan_2 : decode cX10_beginPlan 2 = .ok (.putfield 244, 3) := by decide +kernel
theorem dX10_beginPlan_5 : decode cX10_beginPlan 5 = .ok (.aload_n 0, 1) := by decide +kernel
theorem dX10_beginPlan_6 : decode cX10_beginPlan 6 = .ok (.iload 5, 2) := by decide +kernel
theorem dX10_beginPlan_8 : decode cX10_beginPlan 8 = .ok (.putfield 247, 3) := by decide +kernel
theorem dX10_beginPlan_11 : decode cX10_beginPlan 11 = .ok (.aload_n 0, 1) := by decide +kernel
theorem dX10_beginPlan_12 : decode cX10_beginPlan 12 = .ok (.iload 4, 2) := by decide +kernel
theorem dX10_beginPlan_14 : decode cX10_beginPlan 14 = .ok (.putfield 250, 3) := by decide +kernel
theorem dX10_beginPlan_17 : decode cX10_beginPlan 17 = .ok (.iconst 0, 1) := by decide +kernel
theorem dX10_beginPlan_18 : decode cX10_beginPlan 18 = .ok (.istore 6, 2) := by decide +kernel
theorem dX10_beginPlan_20 : decode cX10_beginPlan 20 = .ok (.iload 6, 2) := by decide +kernel
theorem dX10_beginPlan_22 : decode cX10_beginPlan 22 = .ok (.iload 4, 2) := by decide +kernel
theorem dX10_beginPlan_24 : decode cX10_beginPlan 24 = .ok (.if_icmp .ge 22, 3) := by decide +kernel
theorem dX10_beginPlan_27 : decode cX10_beginPlan 27 = .ok (.aload_n 0, 1) := by decide +kernel
theorem dX10_beginPlan_28 : decode cX10_beginPlan 28 = .ok (.getfield 104, 3) := by decide +kernel
theorem dX10_beginPlan_31 : decode cX10_beginPlan 31 = .ok (.iload 6, 2) := by decide +kernel
theorem dX10_beginPlan_33 : decode cX10_beginPlan 33 = .ok (.iload_n 2, 1) := by decide +kernel
theorem dX10_beginPlan_34 : decode cX10_beginPlan 34 = .ok (.iload_n 3, 1) := by decide +kernel
theorem dX10_beginPlan_35 : decode cX10_beginPlan 35 = .ok (.iload 6, 2) := by decide +kernel
theorem dX10_beginPlan_37 : decode cX10_beginPlan 37 = .ok (.imul, 1) := by decide +kernel
theorem dX10_beginPlan_38 : decode cX10_beginPlan 38 = .ok (.iadd, 1) := by decide +kernel
theorem dX10_beginPlan_39 : decode cX10_beginPlan 39 = .ok (.iastore, 1) := by decide +kernel
theorem dX10_beginPlan_40 : decode cX10_beginPlan 40 = .ok (.iinc 6 1, 3) := by decide +kernel
theorem dX10_beginPlan_43 : decode cX10_beginPlan 43 = .ok (.goto (-23), 3) := by decide +kernel
theorem dX10_beginPlan_46 : decode cX10_beginPlan 46 = .ok (.return_, 1) := by decide +kernel
theorem dX10_least_0 : decode cX10_least 0 = .ok (.lload_n 1, 1) := by decide +kernel
theorem dX10_least_1 : decode cX10_least 1 = .ok (.invokestatic 217, 3) := by decide +kernel
theorem dX10_least_4 : decode cX10_least 4 = .ok (.istore 6, 2) := by decide +kernel
theorem dX10_least_6 : decode cX10_least 6 = .ok (.iload 6, 2) := by decide +kernel
theorem dX10_least_8 : decode cX10_least 8 = .ok (.iconst 1, 1) := by decide +kernel
theorem dX10_least_9 : decode cX10_least 9 = .ok (.if_icmp .le 8, 3) := by decide +kernel
theorem dX10_least_12 : decode cX10_least 12 = .ok (.iload 4, 2) := by decide +kernel
theorem dX10_least_14 : decode cX10_least 14 = .ok (.ifCond .ne 6, 3) := by decide +kernel
theorem dX10_least_17 : decode cX10_least 17 = .ok (.iload 6, 2) := by decide +kernel
theorem dX10_least_19 : decode cX10_least 19 = .ok (.ireturn, 1) := by decide +kernel
theorem dX10_least_20 : decode cX10_least 20 = .ok (.iload 6, 2) := by decide +kernel
theorem dX10_least_22 : decode cX10_least 22 = .ok (.iload 5, 2) := by decide +kernel
theorem dX10_least_24 : decode cX10_least 24 = .ok (.invokestatic 133, 3) := by decide +kernel
theorem dX10_least_27 : decode cX10_least 27 = .ok (.istore 7, 2) := by decide +kernel
theorem dX10_least_29 : decode cX10_least 29 = .ok (.iload_n 3, 1) := by decide +kernel
theorem dX10_least_30 : decode cX10_least 30 = .ok (.istore 8, 2) := by decide +kernel
theorem dX10_least_32 : decode cX10_least 32 = .ok (.iload 8, 2) := by decide +kernel
theorem dX10_least_34 : decode cX10_least 34 = .ok (.aload_n 0, 1) := by decide +kernel
theorem dX10_least_35 : decode cX10_least 35 = .ok (.getfield 250, 3) := by decide +kernel
theorem dX10_least_38 : decode cX10_least 38 = .ok (.if_icmp .ge 27, 3) := by decide +kernel
theorem dX10_least_41 : decode cX10_least 41 = .ok (.iload 7, 2) := by decide +kernel
theorem dX10_least_43 : decode cX10_least 43 = .ok (.aload_n 0, 1) := by decide +kernel
theorem dX10_least_44 : decode cX10_least 44 = .ok (.lload_n 1, 1) := by decide +kernel
theorem dX10_least_45 : decode cX10_least 45 = .ok (.iload 8, 2) := by decide +kernel
theorem dX10_least_47 : decode cX10_least 47 = .ok (.iload 4, 2) := by decide +kernel
theorem dX10_least_49 : decode cX10_least 49 = .ok (.iload 7, 2) := by decide +kernel
theorem dX10_least_51 : decode cX10_least 51 = .ok (.invokevirtual 253, 3) := by decide +kernel
theorem dX10_least_54 : decode cX10_least 54 = .ok (.invokestatic 133, 3) := by decide +kernel
theorem dX10_least_57 : decode cX10_least 57 = .ok (.istore 7, 2) := by decide +kernel
theorem dX10_least_59 : decode cX10_least 59 = .ok (.iinc 8 1, 3) := by decide +kernel
theorem dX10_least_62 : decode cX10_least 62 = .ok (.goto (-30), 3) := by decide +kernel
theorem dX10_least_65 : decode cX10_least 65 = .ok (.iload 7, 2) := by decide +kernel
theorem dX10_least_67 : decode cX10_least 67 = .ok (.ireturn, 1) := by decide +kernel
theorem dX10_behind_0 : decode cX10_behind 0 = .ok (.iconst 0, 1) := by decide +kernel
theorem dX10_behind_1 : decode cX10_behind 1 = .ok (.istore 6, 2) := by decide +kernel
theorem dX10_behind_3 : decode cX10_behind 3 = .ok (.lload_n 1, 1) := by decide +kernel
theorem dX10_behind_4 : decode cX10_behind 4 = .ok (.lstore 7, 2) := by decide +kernel
theorem dX10_behind_6 : decode cX10_behind 6 = .ok (.lload 7, 2) := by decide +kernel
theorem dX10_behind_8 : decode cX10_behind 8 = .ok (.lconst 0, 1) := by decide +kernel
theorem dX10_behind_9 : decode cX10_behind 9 = .ok (.lcmp, 1) := by decide +kernel
theorem dX10_behind_10 : decode cX10_behind 10 = .ok (.ifCond .eq 103, 3) := by decide +kernel
theorem dX10_behind_13 : decode cX10_behind 13 = .ok (.iload 6, 2) := by decide +kernel
theorem dX10_behind_15 : decode cX10_behind 15 = .ok (.iload 5, 2) := by decide +kernel
theorem dX10_behind_17 : decode cX10_behind 17 = .ok (.if_icmp .ge 96, 3) := by decide +kernel
theorem dX10_behind_20 : decode cX10_behind 20 = .ok (.lload 7, 2) := by decide +kernel
theorem dX10_behind_22 : decode cX10_behind 22 = .ok (.invokestatic 230, 3) := by decide +kernel
theorem dX10_behind_25 : decode cX10_behind 25 = .ok (.istore 9, 2) := by decide +kernel
theorem dX10_behind_27 : decode cX10_behind 27 = .ok (.aload_n 0, 1) := by decide +kernel
theorem dX10_behind_28 : decode cX10_behind 28 = .ok (.aload_n 0, 1) := by decide +kernel
theorem dX10_behind_29 : decode cX10_behind 29 = .ok (.getfield 244, 3) := by decide +kernel
theorem dX10_behind_32 : decode cX10_behind 32 = .ok (.lload_n 1, 1) := by decide +kernel
theorem dX10_behind_33 : decode cX10_behind 33 = .ok (.aload_n 0, 1) := by decide +kernel
theorem dX10_behind_34 : decode cX10_behind 34 = .ok (.getfield 104, 3) := by decide +kernel
theorem dX10_behind_37 : decode cX10_behind 37 = .ok (.iload_n 3, 1) := by decide +kernel
theorem dX10_behind_38 : decode cX10_behind 38 = .ok (.iaload, 1) := by decide +kernel
theorem dX10_behind_39 : decode cX10_behind 39 = .ok (.aload_n 0, 1) := by decide +kernel
theorem dX10_behind_40 : decode cX10_behind 40 = .ok (.getfield 247, 3) := by decide +kernel
theorem dX10_behind_43 : decode cX10_behind 43 = .ok (.iload 9, 2) := by decide +kernel
theorem dX10_behind_45 : decode cX10_behind 45 = .ok (.invokevirtual 233, 3) := by decide +kernel
theorem dX10_behind_48 : decode cX10_behind 48 = .ok (.lstore 10, 2) := by decide +kernel
theorem dX10_behind_50 : decode cX10_behind 50 = .ok (.lload 7, 2) := by decide +kernel
theorem dX10_behind_52 : decode cX10_behind 52 = .ok (.aload_n 0, 1) := by decide +kernel
theorem dX10_behind_53 : decode cX10_behind 53 = .ok (.aload_n 0, 1) := by decide +kernel
theorem dX10_behind_54 : decode cX10_behind 54 = .ok (.getfield 244, 3) := by decide +kernel
theorem dX10_behind_57 : decode cX10_behind 57 = .ok (.lload 7, 2) := by decide +kernel
theorem dX10_behind_59 : decode cX10_behind 59 = .ok (.aload_n 0, 1) := by decide +kernel
theorem dX10_behind_60 : decode cX10_behind 60 = .ok (.getfield 104, 3) := by decide +kernel
theorem dX10_behind_63 : decode cX10_behind 63 = .ok (.iload_n 3, 1) := by decide +kernel
theorem dX10_behind_64 : decode cX10_behind 64 = .ok (.iaload, 1) := by decide +kernel
theorem dX10_behind_65 : decode cX10_behind 65 = .ok (.iconst 0, 1) := by decide +kernel
theorem dX10_behind_66 : decode cX10_behind 66 = .ok (.iload 9, 2) := by decide +kernel
theorem dX10_behind_68 : decode cX10_behind 68 = .ok (.invokevirtual 233, 3) := by decide +kernel
theorem dX10_behind_71 : decode cX10_behind 71 = .ok (.ldc2_w 183, 3) := by decide +kernel
theorem dX10_behind_74 : decode cX10_behind 74 = .ok (.lxor, 1) := by decide +kernel
theorem dX10_behind_75 : decode cX10_behind 75 = .ok (.land, 1) := by decide +kernel
theorem dX10_behind_76 : decode cX10_behind 76 = .ok (.lstore 7, 2) := by decide +kernel
theorem dX10_behind_78 : decode cX10_behind 78 = .ok (.lload 10, 2) := by decide +kernel
theorem dX10_behind_80 : decode cX10_behind 80 = .ok (.invokestatic 217, 3) := by decide +kernel
theorem dX10_behind_83 : decode cX10_behind 83 = .ok (.iload 6, 2) := by decide +kernel
theorem dX10_behind_85 : decode cX10_behind 85 = .ok (.if_icmp .le 25, 3) := by decide +kernel
theorem dX10_behind_88 : decode cX10_behind 88 = .ok (.iload 6, 2) := by decide +kernel
theorem dX10_behind_90 : decode cX10_behind 90 = .ok (.aload_n 0, 1) := by decide +kernel
theorem dX10_behind_91 : decode cX10_behind 91 = .ok (.lload 10, 2) := by decide +kernel
theorem dX10_behind_93 : decode cX10_behind 93 = .ok (.iload_n 3, 1) := by decide +kernel
theorem dX10_behind_94 : decode cX10_behind 94 = .ok (.iconst 1, 1) := by decide +kernel
theorem dX10_behind_95 : decode cX10_behind 95 = .ok (.iadd, 1) := by decide +kernel
theorem dX10_behind_96 : decode cX10_behind 96 = .ok (.iload 4, 2) := by decide +kernel
theorem dX10_behind_98 : decode cX10_behind 98 = .ok (.iconst 1, 1) := by decide +kernel
theorem dX10_behind_99 : decode cX10_behind 99 = .ok (.isub, 1) := by decide +kernel
theorem dX10_behind_100 : decode cX10_behind 100 = .ok (.iload 5, 2) := by decide +kernel
theorem dX10_behind_102 : decode cX10_behind 102 = .ok (.invokevirtual 257, 3) := by decide +kernel
theorem dX10_behind_105 : decode cX10_behind 105 = .ok (.invokestatic 139, 3) := by decide +kernel
theorem dX10_behind_108 : decode cX10_behind 108 = .ok (.istore 6, 2) := by decide +kernel
theorem dX10_behind_110 : decode cX10_behind 110 = .ok (.goto (-104), 3) := by decide +kernel
theorem dX10_behind_113 : decode cX10_behind 113 = .ok (.iload 6, 2) := by decide +kernel
theorem dX10_behind_115 : decode cX10_behind 115 = .ok (.ireturn, 1) := by decide +kernel
theorem dX10_plan_0 : decode cX10_plan 0 = .ok (.aload_n 0, 1) := by decide +kernel
theorem dX10_plan_1 : decode cX10_plan 1 = .ok (.iconst 0, 1) := by decide +kernel
theorem dX10_plan_2 : decode cX10_plan 2 = .ok (.putfield 113, 3) := by decide +kernel
theorem dX10_plan_5 : decode cX10_plan 5 = .ok (.aload_n 0, 1) := by decide +kernel
theorem dX10_plan_6 : decode cX10_plan 6 = .ok (.iload_n 1, 1) := by decide +kernel
theorem dX10_plan_7 : decode cX10_plan 7 = .ok (.iload_n 2, 1) := by decide +kernel
theorem dX10_plan_8 : decode cX10_plan 8 = .ok (.iload_n 3, 1) := by decide +kernel
theorem dX10_plan_9 : decode cX10_plan 9 = .ok (.iload 4, 2) := by decide +kernel
theorem dX10_plan_11 : decode cX10_plan 11 = .ok (.iload 6, 2) := by decide +kernel
theorem dX10_plan_13 : decode cX10_plan 13 = .ok (.invokevirtual 260, 3) := by decide +kernel
theorem dX10_plan_16 : decode cX10_plan 16 = .ok (.ifCond .eq 13, 3) := by decide +kernel
theorem dX10_plan_19 : decode cX10_plan 19 = .ok (.iload 5, 2) := by decide +kernel
theorem dX10_plan_21 : decode cX10_plan 21 = .ok (.iconst 1, 1) := by decide +kernel
theorem dX10_plan_22 : decode cX10_plan 22 = .ok (.iconst 3, 1) := by decide +kernel
theorem dX10_plan_23 : decode cX10_plan 23 = .ok (.invokestatic 119, 3) := by decide +kernel
theorem dX10_plan_26 : decode cX10_plan 26 = .ok (.ifCond .ne 5, 3) := by decide +kernel
theorem dX10_plan_29 : decode cX10_plan 29 = .ok (.iconst (-1), 1) := by decide +kernel
theorem dX10_plan_30 : decode cX10_plan 30 = .ok (.ireturn, 1) := by decide +kernel
theorem dX10_plan_31 : decode cX10_plan 31 = .ok (.aload_n 0, 1) := by decide +kernel
theorem dX10_plan_32 : decode cX10_plan 32 = .ok (.iload_n 1, 1) := by decide +kernel
theorem dX10_plan_33 : decode cX10_plan 33 = .ok (.aload_n 0, 1) := by decide +kernel
theorem dX10_plan_34 : decode cX10_plan 34 = .ok (.getfield 55, 3) := by decide +kernel
theorem dX10_plan_37 : decode cX10_plan 37 = .ok (.invokevirtual 207, 3) := by decide +kernel
theorem dX10_plan_40 : decode cX10_plan 40 = .ok (.lstore 7, 2) := by decide +kernel
theorem dX10_plan_42 : decode cX10_plan 42 = .ok (.lload 7, 2) := by decide +kernel
theorem dX10_plan_44 : decode cX10_plan 44 = .ok (.lconst 0, 1) := by decide +kernel
theorem dX10_plan_45 : decode cX10_plan 45 = .ok (.lcmp, 1) := by decide +kernel
theorem dX10_plan_46 : decode cX10_plan 46 = .ok (.ifCond .ne 5, 3) := by decide +kernel
theorem dX10_plan_49 : decode cX10_plan 49 = .ok (.iconst (-1), 1) := by decide +kernel
theorem dX10_plan_50 : decode cX10_plan 50 = .ok (.ireturn, 1) := by decide +kernel
theorem dX10_plan_51 : decode cX10_plan 51 = .ok (.aload_n 0, 1) := by decide +kernel
theorem dX10_plan_52 : decode cX10_plan 52 = .ok (.iload_n 1, 1) := by decide +kernel
theorem dX10_plan_53 : decode cX10_plan 53 = .ok (.iload_n 2, 1) := by decide +kernel
theorem dX10_plan_54 : decode cX10_plan 54 = .ok (.iload_n 3, 1) := by decide +kernel
theorem dX10_plan_55 : decode cX10_plan 55 = .ok (.iload 4, 2) := by decide +kernel
theorem dX10_plan_57 : decode cX10_plan 57 = .ok (.iload 6, 2) := by decide +kernel
theorem dX10_plan_59 : decode cX10_plan 59 = .ok (.invokevirtual 264, 3) := by decide +kernel
theorem dX10_plan_62 : decode cX10_plan 62 = .ok (.lload 7, 2) := by decide +kernel
theorem dX10_plan_64 : decode cX10_plan 64 = .ok (.invokestatic 217, 3) := by decide +kernel
theorem dX10_plan_67 : decode cX10_plan 67 = .ok (.istore 9, 2) := by decide +kernel
theorem dX10_plan_69 : decode cX10_plan 69 = .ok (.iconst (-1), 1) := by decide +kernel
theorem dX10_plan_70 : decode cX10_plan 70 = .ok (.istore 10, 2) := by decide +kernel
theorem dX10_plan_72 : decode cX10_plan 72 = .ok (.iconst 0, 1) := by decide +kernel
theorem dX10_plan_73 : decode cX10_plan 73 = .ok (.istore 11, 2) := by decide +kernel
theorem dX10_plan_75 : decode cX10_plan 75 = .ok (.iload 11, 2) := by decide +kernel
theorem dX10_plan_77 : decode cX10_plan 77 = .ok (.iload 4, 2) := by decide +kernel
theorem dX10_plan_79 : decode cX10_plan 79 = .ok (.if_icmp .ge 46, 3) := by decide +kernel
theorem dX10_plan_82 : decode cX10_plan 82 = .ok (.aload_n 0, 1) := by decide +kernel
theorem dX10_plan_83 : decode cX10_plan 83 = .ok (.lload 7, 2) := by decide +kernel
theorem dX10_plan_85 : decode cX10_plan 85 = .ok (.iload 11, 2) := by decide +kernel
theorem dX10_plan_87 : decode cX10_plan 87 = .ok (.iload 5, 2) := by decide +kernel
theorem dX10_plan_89 : decode cX10_plan 89 = .ok (.iload 9, 2) := by decide +kernel
theorem dX10_plan_91 : decode cX10_plan 91 = .ok (.invokevirtual 253, 3) := by decide +kernel
theorem dX10_plan_94 : decode cX10_plan 94 = .ok (.istore 12, 2) := by decide +kernel
theorem dX10_plan_96 : decode cX10_plan 96 = .ok (.iload 12, 2) := by decide +kernel
theorem dX10_plan_98 : decode cX10_plan 98 = .ok (.iload 9, 2) := by decide +kernel
theorem dX10_plan_100 : decode cX10_plan 100 = .ok (.if_icmp .lt 6, 3) := by decide +kernel
theorem dX10_plan_103 : decode cX10_plan 103 = .ok (.goto 16, 3) := by decide +kernel
theorem dX10_plan_106 : decode cX10_plan 106 = .ok (.iload 12, 2) := by decide +kernel
theorem dX10_plan_108 : decode cX10_plan 108 = .ok (.istore 9, 2) := by decide +kernel
theorem dX10_plan_110 : decode cX10_plan 110 = .ok (.aload_n 0, 1) := by decide +kernel
theorem dX10_plan_111 : decode cX10_plan 111 = .ok (.getfield 104, 3) := by decide +kernel
theorem dX10_plan_114 : decode cX10_plan 114 = .ok (.iload 11, 2) := by decide +kernel
theorem dX10_plan_116 : decode cX10_plan 116 = .ok (.iaload, 1) := by decide +kernel
theorem dX10_plan_117 : decode cX10_plan 117 = .ok (.istore 10, 2) := by decide +kernel
theorem dX10_plan_119 : decode cX10_plan 119 = .ok (.iinc 11 1, 3) := by decide +kernel
theorem dX10_plan_122 : decode cX10_plan 122 = .ok (.goto (-47), 3) := by decide +kernel
theorem dX10_plan_125 : decode cX10_plan 125 = .ok (.aload_n 0, 1) := by decide +kernel
theorem dX10_plan_126 : decode cX10_plan 126 = .ok (.iconst 0, 1) := by decide +kernel
theorem dX10_plan_127 : decode cX10_plan 127 = .ok (.putfield 123, 3) := by decide +kernel
theorem dX10_plan_130 : decode cX10_plan 130 = .ok (.aload_n 0, 1) := by decide +kernel
theorem dX10_plan_131 : decode cX10_plan 131 = .ok (.iload 10, 2) := by decide +kernel
theorem dX10_plan_133 : decode cX10_plan 133 = .ok (.invokevirtual 211, 3) := by decide +kernel
theorem dX10_plan_136 : decode cX10_plan 136 = .ok (.iload 9, 2) := by decide +kernel
theorem dX10_plan_138 : decode cX10_plan 138 = .ok (.ireturn, 1) := by decide +kernel
theorem dX10_settled_0 : decode cX10_settled 0 = .ok (.lload_n 1, 1) := by decide +kernel
theorem dX10_settled_1 : decode cX10_settled 1 = .ok (.lload_n 3, 1) := by decide +kernel
theorem dX10_settled_2 : decode cX10_settled 2 = .ok (.land, 1) := by decide +kernel
theorem dX10_settled_3 : decode cX10_settled 3 = .ok (.lstore 7, 2) := by decide +kernel
theorem dX10_settled_5 : decode cX10_settled 5 = .ok (.lload 7, 2) := by decide +kernel
theorem dX10_settled_7 : decode cX10_settled 7 = .ok (.lconst 0, 1) := by decide +kernel
theorem dX10_settled_8 : decode cX10_settled 8 = .ok (.lcmp, 1) := by decide +kernel
theorem dX10_settled_9 : decode cX10_settled 9 = .ok (.ifCond .eq 10, 3) := by decide +kernel
theorem dX10_settled_12 : decode cX10_settled 12 = .ok (.lload 7, 2) := by decide +kernel
theorem dX10_settled_14 : decode cX10_settled 14 = .ok (.lload_n 1, 1) := by decide +kernel
theorem dX10_settled_15 : decode cX10_settled 15 = .ok (.lcmp, 1) := by decide +kernel
theorem dX10_settled_16 : decode cX10_settled 16 = .ok (.ifCond .ne 5, 3) := by decide +kernel
theorem dX10_settled_19 : decode cX10_settled 19 = .ok (.iconst 1, 1) := by decide +kernel
theorem dX10_settled_20 : decode cX10_settled 20 = .ok (.ireturn, 1) := by decide +kernel
theorem dX10_settled_21 : decode cX10_settled 21 = .ok (.iload 6, 2) := by decide +kernel
theorem dX10_settled_23 : decode cX10_settled 23 = .ok (.ifCond .ne 5, 3) := by decide +kernel
theorem dX10_settled_26 : decode cX10_settled 26 = .ok (.iconst 0, 1) := by decide +kernel
theorem dX10_settled_27 : decode cX10_settled 27 = .ok (.ireturn, 1) := by decide +kernel
theorem dX10_settled_28 : decode cX10_settled 28 = .ok (.iload 5, 2) := by decide +kernel
theorem dX10_settled_30 : decode cX10_settled 30 = .ok (.istore 9, 2) := by decide +kernel
theorem dX10_settled_32 : decode cX10_settled 32 = .ok (.iload 9, 2) := by decide +kernel
theorem dX10_settled_34 : decode cX10_settled 34 = .ok (.aload_n 0, 1) := by decide +kernel
theorem dX10_settled_35 : decode cX10_settled 35 = .ok (.getfield 250, 3) := by decide +kernel
theorem dX10_settled_38 : decode cX10_settled 38 = .ok (.if_icmp .ge 110, 3) := by decide +kernel
theorem dX10_settled_41 : decode cX10_settled 41 = .ok (.iconst 1, 1) := by decide +kernel
theorem dX10_settled_42 : decode cX10_settled 42 = .ok (.istore 10, 2) := by decide +kernel
theorem dX10_settled_44 : decode cX10_settled 44 = .ok (.lload_n 1, 1) := by decide +kernel
theorem dX10_settled_45 : decode cX10_settled 45 = .ok (.lstore 11, 2) := by decide +kernel
theorem dX10_settled_47 : decode cX10_settled 47 = .ok (.lload 11, 2) := by decide +kernel
theorem dX10_settled_49 : decode cX10_settled 49 = .ok (.lconst 0, 1) := by decide +kernel
theorem dX10_settled_50 : decode cX10_settled 50 = .ok (.lcmp, 1) := by decide +kernel
theorem dX10_settled_51 : decode cX10_settled 51 = .ok (.ifCond .eq 84, 3) := by decide +kernel
theorem dX10_settled_54 : decode cX10_settled 54 = .ok (.iload 10, 2) := by decide +kernel
theorem dX10_settled_56 : decode cX10_settled 56 = .ok (.ifCond .eq 79, 3) := by decide +kernel
theorem dX10_settled_59 : decode cX10_settled 59 = .ok (.lload 11, 2) := by decide +kernel
theorem dX10_settled_61 : decode cX10_settled 61 = .ok (.invokestatic 230, 3) := by decide +kernel
theorem dX10_settled_64 : decode cX10_settled 64 = .ok (.istore 13, 2) := by decide +kernel
theorem dX10_settled_66 : decode cX10_settled 66 = .ok (.aload_n 0, 1) := by decide +kernel
theorem dX10_settled_67 : decode cX10_settled 67 = .ok (.aload_n 0, 1) := by decide +kernel
theorem dX10_settled_68 : decode cX10_settled 68 = .ok (.aload_n 0, 1) := by decide +kernel
theorem dX10_settled_69 : decode cX10_settled 69 = .ok (.getfield 244, 3) := by decide +kernel
theorem dX10_settled_72 : decode cX10_settled 72 = .ok (.lload_n 1, 1) := by decide +kernel
theorem dX10_settled_73 : decode cX10_settled 73 = .ok (.aload_n 0, 1) := by decide +kernel
theorem dX10_settled_74 : decode cX10_settled 74 = .ok (.getfield 104, 3) := by decide +kernel
theorem dX10_settled_77 : decode cX10_settled 77 = .ok (.iload 9, 2) := by decide +kernel
theorem dX10_settled_79 : decode cX10_settled 79 = .ok (.iaload, 1) := by decide +kernel
theorem dX10_settled_80 : decode cX10_settled 80 = .ok (.aload_n 0, 1) := by decide +kernel
theorem dX10_settled_81 : decode cX10_settled 81 = .ok (.getfield 247, 3) := by decide +kernel
theorem dX10_settled_84 : decode cX10_settled 84 = .ok (.iload 13, 2) := by decide +kernel
theorem dX10_settled_86 : decode cX10_settled 86 = .ok (.invokevirtual 233, 3) := by decide +kernel
theorem dX10_settled_89 : decode cX10_settled 89 = .ok (.lload_n 3, 1) := by decide +kernel
theorem dX10_settled_90 : decode cX10_settled 90 = .ok (.iload 9, 2) := by decide +kernel
theorem dX10_settled_92 : decode cX10_settled 92 = .ok (.iconst 1, 1) := by decide +kernel
theorem dX10_settled_93 : decode cX10_settled 93 = .ok (.iadd, 1) := by decide +kernel
theorem dX10_settled_94 : decode cX10_settled 94 = .ok (.iload 6, 2) := by decide +kernel
theorem dX10_settled_96 : decode cX10_settled 96 = .ok (.iconst 1, 1) := by decide +kernel
theorem dX10_settled_97 : decode cX10_settled 97 = .ok (.isub, 1) := by decide +kernel
theorem dX10_settled_98 : decode cX10_settled 98 = .ok (.invokevirtual 268, 3) := by decide +kernel
theorem dX10_settled_101 : decode cX10_settled 101 = .ok (.istore 10, 2) := by decide +kernel
theorem dX10_settled_103 : decode cX10_settled 103 = .ok (.lload 11, 2) := by decide +kernel
theorem dX10_settled_105 : decode cX10_settled 105 = .ok (.aload_n 0, 1) := by decide +kernel
theorem dX10_settled_106 : decode cX10_settled 106 = .ok (.aload_n 0, 1) := by decide +kernel
theorem dX10_settled_107 : decode cX10_settled 107 = .ok (.getfield 244, 3) := by decide +kernel
theorem dX10_settled_110 : decode cX10_settled 110 = .ok (.lload 11, 2) := by decide +kernel
theorem dX10_settled_112 : decode cX10_settled 112 = .ok (.aload_n 0, 1) := by decide +kernel
theorem dX10_settled_113 : decode cX10_settled 113 = .ok (.getfield 104, 3) := by decide +kernel
theorem dX10_settled_116 : decode cX10_settled 116 = .ok (.iload 9, 2) := by decide +kernel
theorem dX10_settled_118 : decode cX10_settled 118 = .ok (.iaload, 1) := by decide +kernel
theorem dX10_settled_119 : decode cX10_settled 119 = .ok (.iconst 0, 1) := by decide +kernel
theorem dX10_settled_120 : decode cX10_settled 120 = .ok (.iload 13, 2) := by decide +kernel
theorem dX10_settled_122 : decode cX10_settled 122 = .ok (.invokevirtual 233, 3) := by decide +kernel
theorem dX10_settled_125 : decode cX10_settled 125 = .ok (.ldc2_w 183, 3) := by decide +kernel
theorem dX10_settled_128 : decode cX10_settled 128 = .ok (.lxor, 1) := by decide +kernel
theorem dX10_settled_129 : decode cX10_settled 129 = .ok (.land, 1) := by decide +kernel
theorem dX10_settled_130 : decode cX10_settled 130 = .ok (.lstore 11, 2) := by decide +kernel
theorem dX10_settled_132 : decode cX10_settled 132 = .ok (.goto (-85), 3) := by decide +kernel
theorem dX10_settled_135 : decode cX10_settled 135 = .ok (.iload 10, 2) := by decide +kernel
theorem dX10_settled_137 : decode cX10_settled 137 = .ok (.ifCond .eq 5, 3) := by decide +kernel
theorem dX10_settled_140 : decode cX10_settled 140 = .ok (.iconst 1, 1) := by decide +kernel
theorem dX10_settled_141 : decode cX10_settled 141 = .ok (.ireturn, 1) := by decide +kernel
theorem dX10_settled_142 : decode cX10_settled 142 = .ok (.iinc 9 1, 3) := by decide +kernel
theorem dX10_settled_145 : decode cX10_settled 145 = .ok (.goto (-113), 3) := by decide +kernel
theorem dX10_settled_148 : decode cX10_settled 148 = .ok (.iconst 0, 1) := by decide +kernel
theorem dX10_settled_149 : decode cX10_settled 149 = .ok (.ireturn, 1) := by decide +kernel
theorem dX10_settles_0 : decode cX10_settles 0 = .ok (.aload_n 0, 1) := by decide +kernel
theorem dX10_settles_1 : decode cX10_settles 1 = .ok (.iconst 0, 1) := by decide +kernel
theorem dX10_settles_2 : decode cX10_settles 2 = .ok (.putfield 113, 3) := by decide +kernel
theorem dX10_settles_5 : decode cX10_settles 5 = .ok (.aload_n 0, 1) := by decide +kernel
theorem dX10_settles_6 : decode cX10_settles 6 = .ok (.iload_n 1, 1) := by decide +kernel
theorem dX10_settles_7 : decode cX10_settles 7 = .ok (.iload 4, 2) := by decide +kernel
theorem dX10_settles_9 : decode cX10_settles 9 = .ok (.iload 5, 2) := by decide +kernel
theorem dX10_settles_11 : decode cX10_settles 11 = .ok (.iload 6, 2) := by decide +kernel
theorem dX10_settles_13 : decode cX10_settles 13 = .ok (.iload 7, 2) := by decide +kernel
theorem dX10_settles_15 : decode cX10_settles 15 = .ok (.invokevirtual 260, 3) := by decide +kernel
theorem dX10_settles_18 : decode cX10_settles 18 = .ok (.ifCond .eq 19, 3) := by decide +kernel
theorem dX10_settles_21 : decode cX10_settles 21 = .ok (.iload_n 2, 1) := by decide +kernel
theorem dX10_settles_22 : decode cX10_settles 22 = .ok (.iconst 0, 1) := by decide +kernel
theorem dX10_settles_23 : decode cX10_settles 23 = .ok (.iconst 1, 1) := by decide +kernel
theorem dX10_settles_24 : decode cX10_settles 24 = .ok (.invokestatic 119, 3) := by decide +kernel
theorem dX10_settles_27 : decode cX10_settles 27 = .ok (.ifCond .eq 10, 3) := by decide +kernel
theorem dX10_settles_30 : decode cX10_settles 30 = .ok (.iload_n 3, 1) := by decide +kernel
theorem dX10_settles_31 : decode cX10_settles 31 = .ok (.invokestatic 126, 3) := by decide +kernel
theorem dX10_settles_34 : decode cX10_settles 34 = .ok (.ifCond .ne 5, 3) := by decide +kernel
theorem dX10_settles_37 : decode cX10_settles 37 = .ok (.iconst (-1), 1) := by decide +kernel
theorem dX10_settles_38 : decode cX10_settles 38 = .ok (.ireturn, 1) := by decide +kernel
theorem dX10_settles_39 : decode cX10_settles 39 = .ok (.aload_n 0, 1) := by decide +kernel
theorem dX10_settles_40 : decode cX10_settles 40 = .ok (.iload_n 1, 1) := by decide +kernel
theorem dX10_settles_41 : decode cX10_settles 41 = .ok (.aload_n 0, 1) := by decide +kernel
theorem dX10_settles_42 : decode cX10_settles 42 = .ok (.getfield 55, 3) := by decide +kernel
theorem dX10_settles_45 : decode cX10_settles 45 = .ok (.invokevirtual 207, 3) := by decide +kernel
theorem dX10_settles_48 : decode cX10_settles 48 = .ok (.lstore 8, 2) := by decide +kernel
theorem dX10_settles_50 : decode cX10_settles 50 = .ok (.lload 8, 2) := by decide +kernel
theorem dX10_settles_52 : decode cX10_settles 52 = .ok (.lconst 0, 1) := by decide +kernel
theorem dX10_settles_53 : decode cX10_settles 53 = .ok (.lcmp, 1) := by decide +kernel
theorem dX10_settles_54 : decode cX10_settles 54 = .ok (.ifCond .ne 5, 3) := by decide +kernel
theorem dX10_settles_57 : decode cX10_settles 57 = .ok (.iconst (-1), 1) := by decide +kernel
theorem dX10_settles_58 : decode cX10_settles 58 = .ok (.ireturn, 1) := by decide +kernel
theorem dX10_settles_59 : decode cX10_settles 59 = .ok (.aload_n 0, 1) := by decide +kernel
theorem dX10_settles_60 : decode cX10_settles 60 = .ok (.iload_n 1, 1) := by decide +kernel
theorem dX10_settles_61 : decode cX10_settles 61 = .ok (.iload 4, 2) := by decide +kernel
theorem dX10_settles_63 : decode cX10_settles 63 = .ok (.iload 5, 2) := by decide +kernel
theorem dX10_settles_65 : decode cX10_settles 65 = .ok (.iload 6, 2) := by decide +kernel
theorem dX10_settles_67 : decode cX10_settles 67 = .ok (.iload 7, 2) := by decide +kernel
theorem dX10_settles_69 : decode cX10_settles 69 = .ok (.invokevirtual 264, 3) := by decide +kernel
theorem dX10_settles_72 : decode cX10_settles 72 = .ok (.aload_n 0, 1) := by decide +kernel
theorem dX10_settles_73 : decode cX10_settles 73 = .ok (.iload_n 1, 1) := by decide +kernel
theorem dX10_settles_74 : decode cX10_settles 74 = .ok (.lload 8, 2) := by decide +kernel
theorem dX10_settles_76 : decode cX10_settles 76 = .ok (.iload_n 3, 1) := by decide +kernel
theorem dX10_settles_77 : decode cX10_settles 77 = .ok (.iload_n 2, 1) := by decide +kernel
theorem dX10_settles_78 : decode cX10_settles 78 = .ok (.invokevirtual 226, 3) := by decide +kernel
theorem dX10_settles_81 : decode cX10_settles 81 = .ok (.lstore 10, 2) := by decide +kernel
theorem dX10_settles_83 : decode cX10_settles 83 = .ok (.iconst 0, 1) := by decide +kernel
theorem dX10_settles_84 : decode cX10_settles 84 = .ok (.istore 12, 2) := by decide +kernel
theorem dX10_settles_86 : decode cX10_settles 86 = .ok (.iload 12, 2) := by decide +kernel
theorem dX10_settles_88 : decode cX10_settles 88 = .ok (.iconst 4, 1) := by decide +kernel
theorem dX10_settles_89 : decode cX10_settles 89 = .ok (.if_icmp .ge 26, 3) := by decide +kernel
theorem dX10_settles_92 : decode cX10_settles 92 = .ok (.aload_n 0, 1) := by decide +kernel
theorem dX10_settles_93 : decode cX10_settles 93 = .ok (.lload 8, 2) := by decide +kernel
theorem dX10_settles_95 : decode cX10_settles 95 = .ok (.lload 10, 2) := by decide +kernel
theorem dX10_settles_97 : decode cX10_settles 97 = .ok (.iconst 0, 1) := by decide +kernel
theorem dX10_settles_98 : decode cX10_settles 98 = .ok (.iload 12, 2) := by decide +kernel
theorem dX10_settles_100 : decode cX10_settles 100 = .ok (.invokevirtual 268, 3) := by decide +kernel
theorem dX10_settles_103 : decode cX10_settles 103 = .ok (.ifCond .eq 6, 3) := by decide +kernel
theorem dX10_settles_106 : decode cX10_settles 106 = .ok (.iload 12, 2) := by decide +kernel
theorem dX10_settles_108 : decode cX10_settles 108 = .ok (.ireturn, 1) := by decide +kernel
theorem dX10_settles_109 : decode cX10_settles 109 = .ok (.iinc 12 1, 3) := by decide +kernel
theorem dX10_settles_112 : decode cX10_settles 112 = .ok (.goto (-26), 3) := by decide +kernel
theorem dX10_settles_115 : decode cX10_settles 115 = .ok (.bipush (-2), 2) := by decide +kernel
theorem dX10_settles_117 : decode cX10_settles 117 = .ok (.ireturn, 1) := by decide +kernel
theorem dX10_prove_0 : decode cX10_prove 0 = .ok (.aload_n 0, 1) := by decide +kernel
theorem dX10_prove_1 : decode cX10_prove 1 = .ok (.iconst 0, 1) := by decide +kernel
theorem dX10_prove_2 : decode cX10_prove 2 = .ok (.putfield 113, 3) := by decide +kernel
theorem dX10_prove_5 : decode cX10_prove 5 = .ok (.iload_n 1, 1) := by decide +kernel
theorem dX10_prove_6 : decode cX10_prove 6 = .ok (.invokestatic 162, 3) := by decide +kernel
theorem dX10_prove_9 : decode cX10_prove 9 = .ok (.ifCond .eq 22, 3) := by decide +kernel
theorem dX10_prove_12 : decode cX10_prove 12 = .ok (.iload_n 2, 1) := by decide +kernel
theorem dX10_prove_13 : decode cX10_prove 13 = .ok (.iconst 0, 1) := by decide +kernel
theorem dX10_prove_14 : decode cX10_prove 14 = .ok (.bipush 39, 2) := by decide +kernel
theorem dX10_prove_16 : decode cX10_prove 16 = .ok (.invokestatic 119, 3) := by decide +kernel
theorem dX10_prove_19 : decode cX10_prove 19 = .ok (.ifCond .eq 12, 3) := by decide +kernel
theorem dX10_prove_22 : decode cX10_prove 22 = .ok (.aload_n 0, 1) := by decide +kernel
theorem dX10_prove_23 : decode cX10_prove 23 = .ok (.getfield 272, 3) := by decide +kernel
theorem dX10_prove_26 : decode cX10_prove 26 = .ok (.bipush 64, 2) := by decide +kernel
theorem dX10_prove_28 : decode cX10_prove 28 = .ok (.if_icmp .ne 5, 3) := by decide +kernel
theorem dX10_prove_31 : decode cX10_prove 31 = .ok (.iconst (-1), 1) := by decide +kernel
theorem dX10_prove_32 : decode cX10_prove 32 = .ok (.ireturn, 1) := by decide +kernel
theorem dX10_prove_33 : decode cX10_prove 33 = .ok (.aload_n 0, 1) := by decide +kernel
theorem dX10_prove_34 : decode cX10_prove 34 = .ok (.getfield 59, 3) := by decide +kernel
theorem dX10_prove_37 : decode cX10_prove 37 = .ok (.aload_n 0, 1) := by decide +kernel
theorem dX10_prove_38 : decode cX10_prove 38 = .ok (.getfield 272, 3) := by decide +kernel
theorem dX10_prove_41 : decode cX10_prove 41 = .ok (.iload_n 1, 1) := by decide +kernel
theorem dX10_prove_42 : decode cX10_prove 42 = .ok (.iastore, 1) := by decide +kernel
theorem dX10_prove_43 : decode cX10_prove 43 = .ok (.aload_n 0, 1) := by decide +kernel
theorem dX10_prove_44 : decode cX10_prove 44 = .ok (.getfield 62, 3) := by decide +kernel
theorem dX10_prove_47 : decode cX10_prove 47 = .ok (.aload_n 0, 1) := by decide +kernel
theorem dX10_prove_48 : decode cX10_prove 48 = .ok (.getfield 272, 3) := by decide +kernel
theorem dX10_prove_51 : decode cX10_prove 51 = .ok (.iload_n 2, 1) := by decide +kernel
theorem dX10_prove_52 : decode cX10_prove 52 = .ok (.iastore, 1) := by decide +kernel
theorem dX10_prove_53 : decode cX10_prove 53 = .ok (.aload_n 0, 1) := by decide +kernel
theorem dX10_prove_54 : decode cX10_prove 54 = .ok (.dup, 1) := by decide +kernel
theorem dX10_prove_55 : decode cX10_prove 55 = .ok (.getfield 272, 3) := by decide +kernel
theorem dX10_prove_58 : decode cX10_prove 58 = .ok (.iconst 1, 1) := by decide +kernel
theorem dX10_prove_59 : decode cX10_prove 59 = .ok (.iadd, 1) := by decide +kernel
theorem dX10_prove_60 : decode cX10_prove 60 = .ok (.putfield 272, 3) := by decide +kernel
theorem dX10_prove_63 : decode cX10_prove 63 = .ok (.aload_n 0, 1) := by decide +kernel
theorem dX10_prove_64 : decode cX10_prove 64 = .ok (.getfield 272, 3) := by decide +kernel
theorem dX10_prove_67 : decode cX10_prove 67 = .ok (.ireturn, 1) := by decide +kernel
theorem dX10_check_0 : decode cX10_check 0 = .ok (.aload_n 0, 1) := by decide +kernel
theorem dX10_check_1 : decode cX10_check 1 = .ok (.iconst 0, 1) := by decide +kernel
theorem dX10_check_2 : decode cX10_check 2 = .ok (.putfield 113, 3) := by decide +kernel
theorem dX10_check_5 : decode cX10_check 5 = .ok (.aload_n 0, 1) := by decide +kernel
theorem dX10_check_6 : decode cX10_check 6 = .ok (.getfield 272, 3) := by decide +kernel
theorem dX10_check_9 : decode cX10_check 9 = .ok (.istore_n 2, 1) := by decide +kernel
theorem dX10_check_10 : decode cX10_check 10 = .ok (.aload_n 0, 1) := by decide +kernel
theorem dX10_check_11 : decode cX10_check 11 = .ok (.iconst 0, 1) := by decide +kernel
theorem dX10_check_12 : decode cX10_check 12 = .ok (.putfield 272, 3) := by decide +kernel
theorem dX10_check_15 : decode cX10_check 15 = .ok (.aload_n 0, 1) := by decide +kernel
theorem dX10_check_16 : decode cX10_check 16 = .ok (.iload_n 1, 1) := by decide +kernel
theorem dX10_check_17 : decode cX10_check 17 = .ok (.invokevirtual 145, 3) := by decide +kernel
theorem dX10_check_20 : decode cX10_check 20 = .ok (.ifCond .ne 6, 3) := by decide +kernel
theorem dX10_check_23 : decode cX10_check 23 = .ok (.bipush (-100), 2) := by decide +kernel
theorem dX10_check_25 : decode cX10_check 25 = .ok (.ireturn, 1) := by decide +kernel
theorem dX10_check_26 : decode cX10_check 26 = .ok (.lconst 0, 1) := by decide +kernel
theorem dX10_check_27 : decode cX10_check 27 = .ok (.lstore_n 3, 1) := by decide +kernel
theorem dX10_check_28 : decode cX10_check 28 = .ok (.iconst 0, 1) := by decide +kernel
theorem dX10_check_29 : decode cX10_check 29 = .ok (.istore 5, 2) := by decide +kernel
theorem dX10_check_31 : decode cX10_check 31 = .ok (.iload 5, 2) := by decide +kernel
theorem dX10_check_33 : decode cX10_check 33 = .ok (.iload_n 2, 1) := by decide +kernel
theorem dX10_check_34 : decode cX10_check 34 = .ok (.if_icmp .ge 92, 3) := by decide +kernel
theorem dX10_check_37 : decode cX10_check 37 = .ok (.aload_n 0, 1) := by decide +kernel
theorem dX10_check_38 : decode cX10_check 38 = .ok (.getfield 59, 3) := by decide +kernel
theorem dX10_check_41 : decode cX10_check 41 = .ok (.iload 5, 2) := by decide +kernel
theorem dX10_check_43 : decode cX10_check 43 = .ok (.iaload, 1) := by decide +kernel
theorem dX10_check_44 : decode cX10_check 44 = .ok (.istore 6, 2) := by decide +kernel
theorem dX10_check_46 : decode cX10_check 46 = .ok (.aload_n 0, 1) := by decide +kernel
theorem dX10_check_47 : decode cX10_check 47 = .ok (.getfield 62, 3) := by decide +kernel
theorem dX10_check_50 : decode cX10_check 50 = .ok (.iload 5, 2) := by decide +kernel
theorem dX10_check_52 : decode cX10_check 52 = .ok (.iaload, 1) := by decide +kernel
theorem dX10_check_53 : decode cX10_check 53 = .ok (.istore 7, 2) := by decide +kernel
theorem dX10_check_55 : decode cX10_check 55 = .ok (.aload_n 0, 1) := by decide +kernel
theorem dX10_check_56 : decode cX10_check 56 = .ok (.iload 7, 2) := by decide +kernel
theorem dX10_check_58 : decode cX10_check 58 = .ok (.invokevirtual 214, 3) := by decide +kernel
theorem dX10_check_61 : decode cX10_check 61 = .ok (.ifCond .eq 47, 3) := by decide +kernel
theorem dX10_check_64 : decode cX10_check 64 = .ok (.aload_n 0, 1) := by decide +kernel
theorem dX10_check_65 : decode cX10_check 65 = .ok (.getfield 37, 3) := by decide +kernel
theorem dX10_check_68 : decode cX10_check 68 = .ok (.iload 7, 2) := by decide +kernel
theorem dX10_check_70 : decode cX10_check 70 = .ok (.iaload, 1) := by decide +kernel
theorem dX10_check_71 : decode cX10_check 71 = .ok (.iload_n 1, 1) := by decide +kernel
theorem dX10_check_72 : decode cX10_check 72 = .ok (.if_icmp .ne 36, 3) := by decide +kernel
theorem dX10_check_75 : decode cX10_check 75 = .ok (.aload_n 0, 1) := by decide +kernel
theorem dX10_check_76 : decode cX10_check 76 = .ok (.iload 7, 2) := by decide +kernel
theorem dX10_check_78 : decode cX10_check 78 = .ok (.aload_n 0, 1) := by decide +kernel
theorem dX10_check_79 : decode cX10_check 79 = .ok (.getfield 55, 3) := by decide +kernel
theorem dX10_check_82 : decode cX10_check 82 = .ok (.invokevirtual 188, 3) := by decide +kernel
theorem dX10_check_85 : decode cX10_check 85 = .ok (.ifCond .eq 23, 3) := by decide +kernel
theorem dX10_check_88 : decode cX10_check 88 = .ok (.aload_n 0, 1) := by decide +kernel
theorem dX10_check_89 : decode cX10_check 89 = .ok (.iload 7, 2) := by decide +kernel
theorem dX10_check_91 : decode cX10_check 91 = .ok (.iload 6, 2) := by decide +kernel
theorem dX10_check_93 : decode cX10_check 93 = .ok (.invokevirtual 220, 3) := by decide +kernel
theorem dX10_check_96 : decode cX10_check 96 = .ok (.ifCond .eq 12, 3) := by decide +kernel
theorem dX10_check_99 : decode cX10_check 99 = .ok (.lload_n 3, 1) := by decide +kernel
theorem dX10_check_100 : decode cX10_check 100 = .ok (.iload 6, 2) := by decide +kernel
theorem dX10_check_102 : decode cX10_check 102 = .ok (.invokestatic 179, 3) := by decide +kernel
theorem dX10_check_105 : decode cX10_check 105 = .ok (.ifCond .eq 8, 3) := by decide +kernel
theorem dX10_check_108 : decode cX10_check 108 = .ok (.iconst (-1), 1) := by decide +kernel
theorem dX10_check_109 : decode cX10_check 109 = .ok (.iload 5, 2) := by decide +kernel
theorem dX10_check_111 : decode cX10_check 111 = .ok (.isub, 1) := by decide +kernel
theorem dX10_check_112 : decode cX10_check 112 = .ok (.ireturn, 1) := by decide +kernel
theorem dX10_check_113 : decode cX10_check 113 = .ok (.lload_n 3, 1) := by decide +kernel
theorem dX10_check_114 : decode cX10_check 114 = .ok (.lconst 1, 1) := by decide +kernel
theorem dX10_check_115 : decode cX10_check 115 = .ok (.iload 6, 2) := by decide +kernel
theorem dX10_check_117 : decode cX10_check 117 = .ok (.lshl, 1) := by decide +kernel
theorem dX10_check_118 : decode cX10_check 118 = .ok (.lor, 1) := by decide +kernel
theorem dX10_check_119 : decode cX10_check 119 = .ok (.lstore_n 3, 1) := by decide +kernel
theorem dX10_check_120 : decode cX10_check 120 = .ok (.iinc 5 1, 3) := by decide +kernel
theorem dX10_check_123 : decode cX10_check 123 = .ok (.goto (-92), 3) := by decide +kernel
theorem dX10_check_126 : decode cX10_check 126 = .ok (.lload_n 3, 1) := by decide +kernel
theorem dX10_check_127 : decode cX10_check 127 = .ok (.aload_n 0, 1) := by decide +kernel
theorem dX10_check_128 : decode cX10_check 128 = .ok (.iload_n 1, 1) := by decide +kernel
theorem dX10_check_129 : decode cX10_check 129 = .ok (.aload_n 0, 1) := by decide +kernel
theorem dX10_check_130 : decode cX10_check 130 = .ok (.getfield 55, 3) := by decide +kernel
theorem dX10_check_133 : decode cX10_check 133 = .ok (.iconst (-1), 1) := by decide +kernel
theorem dX10_check_134 : decode cX10_check 134 = .ok (.invokevirtual 192, 3) := by decide +kernel
theorem dX10_check_137 : decode cX10_check 137 = .ok (.ldc2_w 183, 3) := by decide +kernel
theorem dX10_check_140 : decode cX10_check 140 = .ok (.lxor, 1) := by decide +kernel
theorem dX10_check_141 : decode cX10_check 141 = .ok (.lcmp, 1) := by decide +kernel
theorem dX10_check_142 : decode cX10_check 142 = .ok (.ifCond .ne 7, 3) := by decide +kernel
theorem dX10_check_145 : decode cX10_check 145 = .ok (.iconst 0, 1) := by decide +kernel
theorem dX10_check_146 : decode cX10_check 146 = .ok (.goto 4, 3) := by decide +kernel
theorem dX10_check_149 : decode cX10_check 149 = .ok (.iconst 1, 1) := by decide +kernel
theorem dX10_check_150 : decode cX10_check 150 = .ok (.ireturn, 1) := by decide +kernel
theorem dX10_lay_0 : decode cX10_lay 0 = .ok (.aload_n 0, 1) := by decide +kernel
theorem dX10_lay_1 : decode cX10_lay 1 = .ok (.iconst 0, 1) := by decide +kernel
theorem dX10_lay_2 : decode cX10_lay 2 = .ok (.putfield 113, 3) := by decide +kernel
theorem dX10_lay_5 : decode cX10_lay 5 = .ok (.aload_n 0, 1) := by decide +kernel
theorem dX10_lay_6 : decode cX10_lay 6 = .ok (.iload_n 1, 1) := by decide +kernel
theorem dX10_lay_7 : decode cX10_lay 7 = .ok (.invokevirtual 145, 3) := by decide +kernel
theorem dX10_lay_10 : decode cX10_lay 10 = .ok (.ifCond .ne 5, 3) := by decide +kernel
theorem dX10_lay_13 : decode cX10_lay 13 = .ok (.iconst (-1), 1) := by decide +kernel
theorem dX10_lay_14 : decode cX10_lay 14 = .ok (.ireturn, 1) := by decide +kernel
theorem dX10_lay_15 : decode cX10_lay 15 = .ok (.aload_n 0, 1) := by decide +kernel
theorem dX10_lay_16 : decode cX10_lay 16 = .ok (.iload_n 1, 1) := by decide +kernel
theorem dX10_lay_17 : decode cX10_lay 17 = .ok (.aload_n 0, 1) := by decide +kernel
theorem dX10_lay_18 : decode cX10_lay 18 = .ok (.getfield 55, 3) := by decide +kernel
theorem dX10_lay_21 : decode cX10_lay 21 = .ok (.iconst (-1), 1) := by decide +kernel
theorem dX10_lay_22 : decode cX10_lay 22 = .ok (.invokevirtual 192, 3) := by decide +kernel
theorem dX10_lay_25 : decode cX10_lay 25 = .ok (.lstore_n 2, 1) := by decide +kernel
theorem dX10_lay_26 : decode cX10_lay 26 = .ok (.aload_n 0, 1) := by decide +kernel
theorem dX10_lay_27 : decode cX10_lay 27 = .ok (.iconst 0, 1) := by decide +kernel
theorem dX10_lay_28 : decode cX10_lay 28 = .ok (.putfield 272, 3) := by decide +kernel
theorem dX10_lay_31 : decode cX10_lay 31 = .ok (.iconst 0, 1) := by decide +kernel
theorem dX10_lay_32 : decode cX10_lay 32 = .ok (.istore 4, 2) := by decide +kernel
theorem dX10_lay_34 : decode cX10_lay 34 = .ok (.iload 4, 2) := by decide +kernel
theorem dX10_lay_36 : decode cX10_lay 36 = .ok (.bipush 64, 2) := by decide +kernel
theorem dX10_lay_38 : decode cX10_lay 38 = .ok (.if_icmp .ge 97, 3) := by decide +kernel
theorem dX10_lay_41 : decode cX10_lay 41 = .ok (.lload_n 2, 1) := by decide +kernel
theorem dX10_lay_42 : decode cX10_lay 42 = .ok (.iload 4, 2) := by decide +kernel
theorem dX10_lay_44 : decode cX10_lay 44 = .ok (.invokestatic 179, 3) := by decide +kernel
theorem dX10_lay_47 : decode cX10_lay 47 = .ok (.ifCond .eq 6, 3) := by decide +kernel
theorem dX10_lay_50 : decode cX10_lay 50 = .ok (.goto 79, 3) := by decide +kernel
theorem dX10_lay_53 : decode cX10_lay 53 = .ok (.iconst 0, 1) := by decide +kernel
theorem dX10_lay_54 : decode cX10_lay 54 = .ok (.istore 5, 2) := by decide +kernel
theorem dX10_lay_56 : decode cX10_lay 56 = .ok (.aload_n 0, 1) := by decide +kernel
theorem dX10_lay_57 : decode cX10_lay 57 = .ok (.getfield 37, 3) := by decide +kernel
theorem dX10_lay_60 : decode cX10_lay 60 = .ok (.iload 5, 2) := by decide +kernel
theorem dX10_lay_62 : decode cX10_lay 62 = .ok (.iaload, 1) := by decide +kernel
theorem dX10_lay_63 : decode cX10_lay 63 = .ok (.iload_n 1, 1) := by decide +kernel
theorem dX10_lay_64 : decode cX10_lay 64 = .ok (.if_icmp .ne 27, 3) := by decide +kernel
theorem dX10_lay_67 : decode cX10_lay 67 = .ok (.aload_n 0, 1) := by decide +kernel
theorem dX10_lay_68 : decode cX10_lay 68 = .ok (.iload 5, 2) := by decide +kernel
theorem dX10_lay_70 : decode cX10_lay 70 = .ok (.aload_n 0, 1) := by decide +kernel
theorem dX10_lay_71 : decode cX10_lay 71 = .ok (.getfield 55, 3) := by decide +kernel
theorem dX10_lay_74 : decode cX10_lay 74 = .ok (.invokevirtual 188, 3) := by decide +kernel
theorem dX10_lay_77 : decode cX10_lay 77 = .ok (.ifCond .eq 14, 3) := by decide +kernel
theorem dX10_lay_80 : decode cX10_lay 80 = .ok (.aload_n 0, 1) := by decide +kernel
theorem dX10_lay_81 : decode cX10_lay 81 = .ok (.iload 5, 2) := by decide +kernel
theorem dX10_lay_83 : decode cX10_lay 83 = .ok (.iload 4, 2) := by decide +kernel
theorem dX10_lay_85 : decode cX10_lay 85 = .ok (.invokevirtual 220, 3) := by decide +kernel
theorem dX10_lay_88 : decode cX10_lay 88 = .ok (.ifCond .ne 9, 3) := by decide +kernel
theorem dX10_lay_91 : decode cX10_lay 91 = .ok (.iinc 5 1, 3) := by decide +kernel
theorem dX10_lay_94 : decode cX10_lay 94 = .ok (.goto (-38), 3) := by decide +kernel
theorem dX10_lay_97 : decode cX10_lay 97 = .ok (.aload_n 0, 1) := by decide +kernel
theorem dX10_lay_98 : decode cX10_lay 98 = .ok (.getfield 59, 3) := by decide +kernel
theorem dX10_lay_101 : decode cX10_lay 101 = .ok (.aload_n 0, 1) := by decide +kernel
theorem dX10_lay_102 : decode cX10_lay 102 = .ok (.getfield 272, 3) := by decide +kernel
theorem dX10_lay_105 : decode cX10_lay 105 = .ok (.iload 4, 2) := by decide +kernel
theorem dX10_lay_107 : decode cX10_lay 107 = .ok (.iastore, 1) := by decide +kernel
theorem dX10_lay_108 : decode cX10_lay 108 = .ok (.aload_n 0, 1) := by decide +kernel
theorem dX10_lay_109 : decode cX10_lay 109 = .ok (.getfield 62, 3) := by decide +kernel
theorem dX10_lay_112 : decode cX10_lay 112 = .ok (.aload_n 0, 1) := by decide +kernel
theorem dX10_lay_113 : decode cX10_lay 113 = .ok (.getfield 272, 3) := by decide +kernel
theorem dX10_lay_116 : decode cX10_lay 116 = .ok (.iload 5, 2) := by decide +kernel
theorem dX10_lay_118 : decode cX10_lay 118 = .ok (.iastore, 1) := by decide +kernel
theorem dX10_lay_119 : decode cX10_lay 119 = .ok (.aload_n 0, 1) := by decide +kernel
theorem dX10_lay_120 : decode cX10_lay 120 = .ok (.dup, 1) := by decide +kernel
theorem dX10_lay_121 : decode cX10_lay 121 = .ok (.getfield 272, 3) := by decide +kernel
theorem dX10_lay_124 : decode cX10_lay 124 = .ok (.iconst 1, 1) := by decide +kernel
theorem dX10_lay_125 : decode cX10_lay 125 = .ok (.iadd, 1) := by decide +kernel
theorem dX10_lay_126 : decode cX10_lay 126 = .ok (.putfield 272, 3) := by decide +kernel
theorem dX10_lay_129 : decode cX10_lay 129 = .ok (.iinc 4 1, 3) := by decide +kernel
theorem dX10_lay_132 : decode cX10_lay 132 = .ok (.goto (-98), 3) := by decide +kernel
theorem dX10_lay_135 : decode cX10_lay 135 = .ok (.aload_n 0, 1) := by decide +kernel
theorem dX10_lay_136 : decode cX10_lay 136 = .ok (.getfield 272, 3) := by decide +kernel
theorem dX10_lay_139 : decode cX10_lay 139 = .ok (.ireturn, 1) := by decide +kernel
theorem dX10_proof_0 : decode cX10_proof 0 = .ok (.aload_n 0, 1) := by decide +kernel
theorem dX10_proof_1 : decode cX10_proof 1 = .ok (.iconst 0, 1) := by decide +kernel
theorem dX10_proof_2 : decode cX10_proof 2 = .ok (.putfield 113, 3) := by decide +kernel
theorem dX10_proof_5 : decode cX10_proof 5 = .ok (.iload_n 1, 1) := by decide +kernel
theorem dX10_proof_6 : decode cX10_proof 6 = .ok (.iconst 0, 1) := by decide +kernel
theorem dX10_proof_7 : decode cX10_proof 7 = .ok (.aload_n 0, 1) := by decide +kernel
theorem dX10_proof_8 : decode cX10_proof 8 = .ok (.getfield 272, 3) := by decide +kernel
theorem dX10_proof_11 : decode cX10_proof 11 = .ok (.iconst 1, 1) := by decide +kernel
theorem dX10_proof_12 : decode cX10_proof 12 = .ok (.isub, 1) := by decide +kernel
theorem dX10_proof_13 : decode cX10_proof 13 = .ok (.invokestatic 119, 3) := by decide +kernel
theorem dX10_proof_16 : decode cX10_proof 16 = .ok (.ifCond .eq 34, 3) := by decide +kernel
theorem dX10_proof_19 : decode cX10_proof 19 = .ok (.iload_n 2, 1) := by decide +kernel
theorem dX10_proof_20 : decode cX10_proof 20 = .ok (.iconst 0, 1) := by decide +kernel
theorem dX10_proof_21 : decode cX10_proof 21 = .ok (.iconst 1, 1) := by decide +kernel
theorem dX10_proof_22 : decode cX10_proof 22 = .ok (.invokestatic 119, 3) := by decide +kernel
theorem dX10_proof_25 : decode cX10_proof 25 = .ok (.ifCond .eq 25, 3) := by decide +kernel
theorem dX10_proof_28 : decode cX10_proof 28 = .ok (.iload_n 2, 1) := by decide +kernel
theorem dX10_proof_29 : decode cX10_proof 29 = .ok (.ifCond .ne 12, 3) := by decide +kernel
theorem dX10_proof_32 : decode cX10_proof 32 = .ok (.aload_n 0, 1) := by decide +kernel
theorem dX10_proof_33 : decode cX10_proof 33 = .ok (.getfield 59, 3) := by decide +kernel
theorem dX10_proof_36 : decode cX10_proof 36 = .ok (.iload_n 1, 1) := by decide +kernel
theorem dX10_proof_37 : decode cX10_proof 37 = .ok (.iaload, 1) := by decide +kernel
theorem dX10_proof_38 : decode cX10_proof 38 = .ok (.goto 13, 3) := by decide +kernel
theorem dX10_proof_41 : decode cX10_proof 41 = .ok (.aload_n 0, 1) := by decide +kernel
theorem dX10_proof_42 : decode cX10_proof 42 = .ok (.getfield 62, 3) := by decide +kernel
theorem dX10_proof_45 : decode cX10_proof 45 = .ok (.iload_n 1, 1) := by decide +kernel
theorem dX10_proof_46 : decode cX10_proof 46 = .ok (.iaload, 1) := by decide +kernel
theorem dX10_proof_47 : decode cX10_proof 47 = .ok (.goto 4, 3) := by decide +kernel
theorem dX10_proof_50 : decode cX10_proof 50 = .ok (.iconst (-1), 1) := by decide +kernel
theorem dX10_proof_51 : decode cX10_proof 51 = .ok (.ireturn, 1) := by decide +kernel
theorem dX10_bridge_0 : decode cX10_bridge 0 = .ok (.aload_n 0, 1) := by decide +kernel
theorem dX10_bridge_1 : decode cX10_bridge 1 = .ok (.iconst 0, 1) := by decide +kernel
theorem dX10_bridge_2 : decode cX10_bridge 2 = .ok (.putfield 113, 3) := by decide +kernel
theorem dX10_bridge_5 : decode cX10_bridge 5 = .ok (.iload_n 1, 1) := by decide +kernel
theorem dX10_bridge_6 : decode cX10_bridge 6 = .ok (.iconst 1, 1) := by decide +kernel
theorem dX10_bridge_7 : decode cX10_bridge 7 = .ok (.iconst 1, 1) := by decide +kernel
theorem dX10_bridge_8 : decode cX10_bridge 8 = .ok (.aload_n 0, 1) := by decide +kernel
theorem dX10_bridge_9 : decode cX10_bridge 9 = .ok (.getfield 116, 3) := by decide +kernel
theorem dX10_bridge_12 : decode cX10_bridge 12 = .ok (.ishl, 1) := by decide +kernel
theorem dX10_bridge_13 : decode cX10_bridge 13 = .ok (.iconst 1, 1) := by decide +kernel
theorem dX10_bridge_14 : decode cX10_bridge 14 = .ok (.isub, 1) := by decide +kernel
theorem dX10_bridge_15 : decode cX10_bridge 15 = .ok (.invokestatic 119, 3) := by decide +kernel
theorem dX10_bridge_18 : decode cX10_bridge 18 = .ok (.ifCond .eq 22, 3) := by decide +kernel
theorem dX10_bridge_21 : decode cX10_bridge 21 = .ok (.iload_n 2, 1) := by decide +kernel
theorem dX10_bridge_22 : decode cX10_bridge 22 = .ok (.iconst 0, 1) := by decide +kernel
theorem dX10_bridge_23 : decode cX10_bridge 23 = .ok (.sipush 999, 3) := by decide +kernel
theorem dX10_bridge_26 : decode cX10_bridge 26 = .ok (.invokestatic 119, 3) := by decide +kernel
theorem dX10_bridge_29 : decode cX10_bridge 29 = .ok (.ifCond .eq 11, 3) := by decide +kernel
theorem dX10_bridge_32 : decode cX10_bridge 32 = .ok (.aload_n 0, 1) := by decide +kernel
theorem dX10_bridge_33 : decode cX10_bridge 33 = .ok (.getfield 275, 3) := by decide +kernel
theorem dX10_bridge_36 : decode cX10_bridge 36 = .ok (.iconst 4, 1) := by decide +kernel
theorem dX10_bridge_37 : decode cX10_bridge 37 = .ok (.if_icmp .ne 5, 3) := by decide +kernel
theorem dX10_bridge_40 : decode cX10_bridge 40 = .ok (.iconst (-1), 1) := by decide +kernel
theorem dX10_bridge_41 : decode cX10_bridge 41 = .ok (.ireturn, 1) := by decide +kernel
theorem dX10_bridge_42 : decode cX10_bridge 42 = .ok (.aload_n 0, 1) := by decide +kernel
theorem dX10_bridge_43 : decode cX10_bridge 43 = .ok (.getfield 65, 3) := by decide +kernel
theorem dX10_bridge_46 : decode cX10_bridge 46 = .ok (.aload_n 0, 1) := by decide +kernel
theorem dX10_bridge_47 : decode cX10_bridge 47 = .ok (.getfield 275, 3) := by decide +kernel
theorem dX10_bridge_50 : decode cX10_bridge 50 = .ok (.iload_n 1, 1) := by decide +kernel
theorem dX10_bridge_51 : decode cX10_bridge 51 = .ok (.iastore, 1) := by decide +kernel
theorem dX10_bridge_52 : decode cX10_bridge 52 = .ok (.aload_n 0, 1) := by decide +kernel
theorem dX10_bridge_53 : decode cX10_bridge 53 = .ok (.getfield 68, 3) := by decide +kernel
theorem dX10_bridge_56 : decode cX10_bridge 56 = .ok (.aload_n 0, 1) := by decide +kernel
theorem dX10_bridge_57 : decode cX10_bridge 57 = .ok (.getfield 275, 3) := by decide +kernel
theorem dX10_bridge_60 : decode cX10_bridge 60 = .ok (.iload_n 2, 1) := by decide +kernel
theorem dX10_bridge_61 : decode cX10_bridge 61 = .ok (.iastore, 1) := by decide +kernel
theorem dX10_bridge_62 : decode cX10_bridge 62 = .ok (.aload_n 0, 1) := by decide +kernel
theorem dX10_bridge_63 : decode cX10_bridge 63 = .ok (.dup, 1) := by decide +kernel
theorem dX10_bridge_64 : decode cX10_bridge 64 = .ok (.getfield 275, 3) := by decide +kernel
theorem dX10_bridge_67 : decode cX10_bridge 67 = .ok (.iconst 1, 1) := by decide +kernel
theorem dX10_bridge_68 : decode cX10_bridge 68 = .ok (.iadd, 1) := by decide +kernel
theorem dX10_bridge_69 : decode cX10_bridge 69 = .ok (.putfield 275, 3) := by decide +kernel
theorem dX10_bridge_72 : decode cX10_bridge 72 = .ok (.aload_n 0, 1) := by decide +kernel
theorem dX10_bridge_73 : decode cX10_bridge 73 = .ok (.getfield 275, 3) := by decide +kernel
theorem dX10_bridge_76 : decode cX10_bridge 76 = .ok (.iconst 1, 1) := by decide +kernel
theorem dX10_bridge_77 : decode cX10_bridge 77 = .ok (.isub, 1) := by decide +kernel
theorem dX10_bridge_78 : decode cX10_bridge 78 = .ok (.ireturn, 1) := by decide +kernel
theorem dX10_truth_0 : decode cX10_truth 0 = .ok (.aload_n 0, 1) := by decide +kernel
theorem dX10_truth_1 : decode cX10_truth 1 = .ok (.iconst 0, 1) := by decide +kernel
theorem dX10_truth_2 : decode cX10_truth 2 = .ok (.putfield 113, 3) := by decide +kernel
theorem dX10_truth_5 : decode cX10_truth 5 = .ok (.aload_n 0, 1) := by decide +kernel
theorem dX10_truth_6 : decode cX10_truth 6 = .ok (.iload_n 1, 1) := by decide +kernel
theorem dX10_truth_7 : decode cX10_truth 7 = .ok (.invokevirtual 145, 3) := by decide +kernel
theorem dX10_truth_10 : decode cX10_truth 10 = .ok (.ifCond .eq 10, 3) := by decide +kernel
theorem dX10_truth_13 : decode cX10_truth 13 = .ok (.iload_n 2, 1) := by decide +kernel
theorem dX10_truth_14 : decode cX10_truth 14 = .ok (.invokestatic 162, 3) := by decide +kernel
theorem dX10_truth_17 : decode cX10_truth 17 = .ok (.ifCond .ne 5, 3) := by decide +kernel
theorem dX10_truth_20 : decode cX10_truth 20 = .ok (.iconst (-1), 1) := by decide +kernel
theorem dX10_truth_21 : decode cX10_truth 21 = .ok (.ireturn, 1) := by decide +kernel
theorem dX10_truth_22 : decode cX10_truth 22 = .ok (.aload_n 0, 1) := by decide +kernel
theorem dX10_truth_23 : decode cX10_truth 23 = .ok (.getfield 71, 3) := by decide +kernel
theorem dX10_truth_26 : decode cX10_truth 26 = .ok (.iload_n 1, 1) := by decide +kernel
theorem dX10_truth_27 : decode cX10_truth 27 = .ok (.iaload, 1) := by decide +kernel
theorem dX10_truth_28 : decode cX10_truth 28 = .ok (.istore_n 3, 1) := by decide +kernel
theorem dX10_truth_29 : decode cX10_truth 29 = .ok (.aload_n 0, 1) := by decide +kernel
theorem dX10_truth_30 : decode cX10_truth 30 = .ok (.getfield 71, 3) := by decide +kernel
theorem dX10_truth_33 : decode cX10_truth 33 = .ok (.iload_n 1, 1) := by decide +kernel
theorem dX10_truth_34 : decode cX10_truth 34 = .ok (.iload_n 2, 1) := by decide +kernel
theorem dX10_truth_35 : decode cX10_truth 35 = .ok (.iastore, 1) := by decide +kernel
theorem dX10_truth_36 : decode cX10_truth 36 = .ok (.iload_n 3, 1) := by decide +kernel
theorem dX10_truth_37 : decode cX10_truth 37 = .ok (.ireturn, 1) := by decide +kernel
theorem dX10_isShut_0 : decode cX10_isShut 0 = .ok (.iconst 0, 1) := by decide +kernel
theorem dX10_isShut_1 : decode cX10_isShut 1 = .ok (.istore 4, 2) := by decide +kernel
theorem dX10_isShut_3 : decode cX10_isShut 3 = .ok (.iload 4, 2) := by decide +kernel
theorem dX10_isShut_5 : decode cX10_isShut 5 = .ok (.aload_n 0, 1) := by decide +kernel
theorem dX10_isShut_6 : decode cX10_isShut 6 = .ok (.getfield 116, 3) := by decide +kernel
theorem dX10_isShut_9 : decode cX10_isShut 9 = .ok (.if_icmp .ge 76, 3) := by decide +kernel
theorem dX10_isShut_12 : decode cX10_isShut 12 = .ok (.aload_n 0, 1) := by decide +kernel
theorem dX10_isShut_13 : decode cX10_isShut 13 = .ok (.getfield 65, 3) := by decide +kernel
theorem dX10_isShut_16 : decode cX10_isShut 16 = .ok (.iload_n 1, 1) := by decide +kernel
theorem dX10_isShut_17 : decode cX10_isShut 17 = .ok (.iaload, 1) := by decide +kernel
theorem dX10_isShut_18 : decode cX10_isShut 18 = .ok (.iload 4, 2) := by decide +kernel
theorem dX10_isShut_20 : decode cX10_isShut 20 = .ok (.ishr, 1) := by decide +kernel
theorem dX10_isShut_21 : decode cX10_isShut 21 = .ok (.iconst 1, 1) := by decide +kernel
theorem dX10_isShut_22 : decode cX10_isShut 22 = .ok (.iand, 1) := by decide +kernel
theorem dX10_isShut_23 : decode cX10_isShut 23 = .ok (.ifCond .ne 6, 3) := by decide +kernel
theorem dX10_isShut_26 : decode cX10_isShut 26 = .ok (.goto 53, 3) := by decide +kernel
theorem dX10_isShut_29 : decode cX10_isShut 29 = .ok (.aload_n 0, 1) := by decide +kernel
theorem dX10_isShut_30 : decode cX10_isShut 30 = .ok (.iload 4, 2) := by decide +kernel
theorem dX10_isShut_32 : decode cX10_isShut 32 = .ok (.iload_n 2, 1) := by decide +kernel
theorem dX10_isShut_33 : decode cX10_isShut 33 = .ok (.invokevirtual 207, 3) := by decide +kernel
theorem dX10_isShut_36 : decode cX10_isShut 36 = .ok (.lstore 5, 2) := by decide +kernel
theorem dX10_isShut_38 : decode cX10_isShut 38 = .ok (.lload 5, 2) := by decide +kernel
theorem dX10_isShut_40 : decode cX10_isShut 40 = .ok (.invokestatic 217, 3) := by decide +kernel
theorem dX10_isShut_43 : decode cX10_isShut 43 = .ok (.istore 7, 2) := by decide +kernel
theorem dX10_isShut_45 : decode cX10_isShut 45 = .ok (.iload 7, 2) := by decide +kernel
theorem dX10_isShut_47 : decode cX10_isShut 47 = .ok (.ifCond .eq 30, 3) := by decide +kernel
theorem dX10_isShut_50 : decode cX10_isShut 50 = .ok (.iload 7, 2) := by decide +kernel
theorem dX10_isShut_52 : decode cX10_isShut 52 = .ok (.aload_n 0, 1) := by decide +kernel
theorem dX10_isShut_53 : decode cX10_isShut 53 = .ok (.iload 4, 2) := by decide +kernel
theorem dX10_isShut_55 : decode cX10_isShut 55 = .ok (.lload 5, 2) := by decide +kernel
theorem dX10_isShut_57 : decode cX10_isShut 57 = .ok (.iload_n 2, 1) := by decide +kernel
theorem dX10_isShut_58 : decode cX10_isShut 58 = .ok (.iconst 0, 1) := by decide +kernel
theorem dX10_isShut_59 : decode cX10_isShut 59 = .ok (.invokevirtual 226, 3) := by decide +kernel
theorem dX10_isShut_62 : decode cX10_isShut 62 = .ok (.invokestatic 217, 3) := by decide +kernel
theorem dX10_isShut_65 : decode cX10_isShut 65 = .ok (.isub, 1) := by decide +kernel
theorem dX10_isShut_66 : decode cX10_isShut 66 = .ok (.sipush 1000, 3) := by decide +kernel
theorem dX10_isShut_69 : decode cX10_isShut 69 = .ok (.imul, 1) := by decide +kernel
theorem dX10_isShut_70 : decode cX10_isShut 70 = .ok (.iload_n 3, 1) := by decide +kernel
theorem dX10_isShut_71 : decode cX10_isShut 71 = .ok (.iload 7, 2) := by decide +kernel
theorem dX10_isShut_73 : decode cX10_isShut 73 = .ok (.imul, 1) := by decide +kernel
theorem dX10_isShut_74 : decode cX10_isShut 74 = .ok (.if_icmp .le 5, 3) := by decide +kernel
theorem dX10_isShut_77 : decode cX10_isShut 77 = .ok (.iconst 1, 1) := by decide +kernel
theorem dX10_isShut_78 : decode cX10_isShut 78 = .ok (.ireturn, 1) := by decide +kernel
theorem dX10_isShut_79 : decode cX10_isShut 79 = .ok (.iinc 4 1, 3) := by decide +kernel
theorem dX10_isShut_82 : decode cX10_isShut 82 = .ok (.goto (-79), 3) := by decide +kernel
theorem dX10_isShut_85 : decode cX10_isShut 85 = .ok (.iconst 0, 1) := by decide +kernel
theorem dX10_isShut_86 : decode cX10_isShut 86 = .ok (.ireturn, 1) := by decide +kernel
theorem dX10_isBridge_0 : decode cX10_isBridge 0 = .ok (.iload_n 1, 1) := by decide +kernel
theorem dX10_isBridge_1 : decode cX10_isBridge 1 = .ok (.iconst 0, 1) := by decide +kernel
theorem dX10_isBridge_2 : decode cX10_isBridge 2 = .ok (.aload_n 0, 1) := by decide +kernel
theorem dX10_isBridge_3 : decode cX10_isBridge 3 = .ok (.getfield 275, 3) := by decide +kernel
theorem dX10_isBridge_6 : decode cX10_isBridge 6 = .ok (.iconst 1, 1) := by decide +kernel
theorem dX10_isBridge_7 : decode cX10_isBridge 7 = .ok (.isub, 1) := by decide +kernel
theorem dX10_isBridge_8 : decode cX10_isBridge 8 = .ok (.invokestatic 119, 3) := by decide +kernel
theorem dX10_isBridge_11 : decode cX10_isBridge 11 = .ok (.ireturn, 1) := by decide +kernel
theorem dX10_isShare_0 : decode cX10_isShare 0 = .ok (.iload_n 0, 1) := by decide +kernel
theorem dX10_isShare_1 : decode cX10_isShare 1 = .ok (.iconst 0, 1) := by decide +kernel
theorem dX10_isShare_2 : decode cX10_isShare 2 = .ok (.sipush 1000, 3) := by decide +kernel
theorem dX10_isShare_5 : decode cX10_isShare 5 = .ok (.invokestatic 119, 3) := by decide +kernel
theorem dX10_isShare_8 : decode cX10_isShare 8 = .ok (.ireturn, 1) := by decide +kernel
theorem dX10_shut_0 : decode cX10_shut 0 = .ok (.aload_n 0, 1) := by decide +kernel
theorem dX10_shut_1 : decode cX10_shut 1 = .ok (.iconst 0, 1) := by decide +kernel
theorem dX10_shut_2 : decode cX10_shut 2 = .ok (.putfield 113, 3) := by decide +kernel
theorem dX10_shut_5 : decode cX10_shut 5 = .ok (.aload_n 0, 1) := by decide +kernel
theorem dX10_shut_6 : decode cX10_shut 6 = .ok (.iload_n 1, 1) := by decide +kernel
theorem dX10_shut_7 : decode cX10_shut 7 = .ok (.invokevirtual 278, 3) := by decide +kernel
theorem dX10_shut_10 : decode cX10_shut 10 = .ok (.ifCond .eq 35, 3) := by decide +kernel
theorem dX10_shut_13 : decode cX10_shut 13 = .ok (.iload_n 2, 1) := by decide +kernel
theorem dX10_shut_14 : decode cX10_shut 14 = .ok (.invokestatic 126, 3) := by decide +kernel
theorem dX10_shut_17 : decode cX10_shut 17 = .ok (.ifCond .eq 28, 3) := by decide +kernel
theorem dX10_shut_20 : decode cX10_shut 20 = .ok (.iload_n 3, 1) := by decide +kernel
theorem dX10_shut_21 : decode cX10_shut 21 = .ok (.invokestatic 281, 3) := by decide +kernel
theorem dX10_shut_24 : decode cX10_shut 24 = .ok (.ifCond .eq 21, 3) := by decide +kernel
theorem dX10_shut_27 : decode cX10_shut 27 = .ok (.aload_n 0, 1) := by decide +kernel
theorem dX10_shut_28 : decode cX10_shut 28 = .ok (.iload_n 1, 1) := by decide +kernel
theorem dX10_shut_29 : decode cX10_shut 29 = .ok (.iload_n 2, 1) := by decide +kernel
theorem dX10_shut_30 : decode cX10_shut 30 = .ok (.iload_n 3, 1) := by decide +kernel
theorem dX10_shut_31 : decode cX10_shut 31 = .ok (.invokevirtual 284, 3) := by decide +kernel
theorem dX10_shut_34 : decode cX10_shut 34 = .ok (.ifCond .eq 7, 3) := by decide +kernel
theorem dX10_shut_37 : decode cX10_shut 37 = .ok (.iconst 1, 1) := by decide +kernel
theorem dX10_shut_38 : decode cX10_shut 38 = .ok (.goto 8, 3) := by decide +kernel
theorem dX10_shut_41 : decode cX10_shut 41 = .ok (.iconst 0, 1) := by decide +kernel
theorem dX10_shut_42 : decode cX10_shut 42 = .ok (.goto 4, 3) := by decide +kernel
theorem dX10_shut_45 : decode cX10_shut 45 = .ok (.iconst (-1), 1) := by decide +kernel
theorem dX10_shut_46 : decode cX10_shut 46 = .ok (.ireturn, 1) := by decide +kernel
theorem dX10_goDays_0 : decode cX10_goDays 0 = .ok (.aload_n 0, 1) := by decide +kernel
theorem dX10_goDays_1 : decode cX10_goDays 1 = .ok (.iconst 0, 1) := by decide +kernel
theorem dX10_goDays_2 : decode cX10_goDays 2 = .ok (.putfield 287, 3) := by decide +kernel
theorem dX10_goDays_5 : decode cX10_goDays 5 = .ok (.aload_n 0, 1) := by decide +kernel
theorem dX10_goDays_6 : decode cX10_goDays 6 = .ok (.iconst 0, 1) := by decide +kernel
theorem dX10_goDays_7 : decode cX10_goDays 7 = .ok (.putfield 290, 3) := by decide +kernel
theorem dX10_goDays_10 : decode cX10_goDays 10 = .ok (.aload_n 0, 1) := by decide +kernel
theorem dX10_goDays_11 : decode cX10_goDays 11 = .ok (.iconst 0, 1) := by decide +kernel
theorem dX10_goDays_12 : decode cX10_goDays 12 = .ok (.putfield 293, 3) := by decide +kernel
theorem dX10_goDays_15 : decode cX10_goDays 15 = .ok (.iload_n 2, 1) := by decide +kernel
theorem dX10_goDays_16 : decode cX10_goDays 16 = .ok (.istore 5, 2) := by decide +kernel
theorem dX10_goDays_18 : decode cX10_goDays 18 = .ok (.iload 5, 2) := by decide +kernel
theorem dX10_goDays_20 : decode cX10_goDays 20 = .ok (.iload_n 3, 1) := by decide +kernel
theorem dX10_goDays_21 : decode cX10_goDays 21 = .ok (.if_icmp .gt 123, 3) := by decide +kernel
theorem dX10_goDays_24 : decode cX10_goDays 24 = .ok (.iconst 0, 1) := by decide +kernel
theorem dX10_goDays_25 : decode cX10_goDays 25 = .ok (.istore 6, 2) := by decide +kernel
theorem dX10_goDays_27 : decode cX10_goDays 27 = .ok (.iconst 0, 1) := by decide +kernel
theorem dX10_goDays_28 : decode cX10_goDays 28 = .ok (.istore 7, 2) := by decide +kernel
theorem dX10_goDays_30 : decode cX10_goDays 30 = .ok (.iload 7, 2) := by decide +kernel
theorem dX10_goDays_32 : decode cX10_goDays 32 = .ok (.aload_n 0, 1) := by decide +kernel
theorem dX10_goDays_33 : decode cX10_goDays 33 = .ok (.getfield 116, 3) := by decide +kernel
theorem dX10_goDays_36 : decode cX10_goDays 36 = .ok (.if_icmp .ge 46, 3) := by decide +kernel
theorem dX10_goDays_39 : decode cX10_goDays 39 = .ok (.aload_n 0, 1) := by decide +kernel
theorem dX10_goDays_40 : decode cX10_goDays 40 = .ok (.getfield 65, 3) := by decide +kernel
theorem dX10_goDays_43 : decode cX10_goDays 43 = .ok (.iload_n 1, 1) := by decide +kernel
theorem dX10_goDays_44 : decode cX10_goDays 44 = .ok (.iaload, 1) := by decide +kernel
theorem dX10_goDays_45 : decode cX10_goDays 45 = .ok (.iload 7, 2) := by decide +kernel
theorem dX10_goDays_47 : decode cX10_goDays 47 = .ok (.ishr, 1) := by decide +kernel
theorem dX10_goDays_48 : decode cX10_goDays 48 = .ok (.iconst 1, 1) := by decide +kernel
theorem dX10_goDays_49 : decode cX10_goDays 49 = .ok (.iand, 1) := by decide +kernel
theorem dX10_goDays_50 : decode cX10_goDays 50 = .ok (.iconst 1, 1) := by decide +kernel
theorem dX10_goDays_51 : decode cX10_goDays 51 = .ok (.if_icmp .ne 25, 3) := by decide +kernel
theorem dX10_goDays_54 : decode cX10_goDays 54 = .ok (.iload 6, 2) := by decide +kernel
theorem dX10_goDays_56 : decode cX10_goDays 56 = .ok (.aload_n 0, 1) := by decide +kernel
theorem dX10_goDays_57 : decode cX10_goDays 57 = .ok (.iload 7, 2) := by decide +kernel
theorem dX10_goDays_59 : decode cX10_goDays 59 = .ok (.aload_n 0, 1) := by decide +kernel
theorem dX10_goDays_60 : decode cX10_goDays 60 = .ok (.getfield 71, 3) := by decide +kernel
theorem dX10_goDays_63 : decode cX10_goDays 63 = .ok (.iload 7, 2) := by decide +kernel
theorem dX10_goDays_65 : decode cX10_goDays 65 = .ok (.iaload, 1) := by decide +kernel
theorem dX10_goDays_66 : decode cX10_goDays 66 = .ok (.iload 5, 2) := by decide +kernel
theorem dX10_goDays_68 : decode cX10_goDays 68 = .ok (.invokevirtual 168, 3) := by decide +kernel
theorem dX10_goDays_71 : decode cX10_goDays 71 = .ok (.invokestatic 139, 3) := by decide +kernel
theorem dX10_goDays_74 : decode cX10_goDays 74 = .ok (.istore 6, 2) := by decide +kernel
theorem dX10_goDays_76 : decode cX10_goDays 76 = .ok (.iinc 7 1, 3) := by decide +kernel
theorem dX10_goDays_79 : decode cX10_goDays 79 = .ok (.goto (-49), 3) := by decide +kernel
theorem dX10_goDays_82 : decode cX10_goDays 82 = .ok (.aload_n 0, 1) := by decide +kernel
theorem dX10_goDays_83 : decode cX10_goDays 83 = .ok (.iload_n 1, 1) := by decide +kernel
theorem dX10_goDays_84 : decode cX10_goDays 84 = .ok (.iload 5, 2) := by decide +kernel
theorem dX10_goDays_86 : decode cX10_goDays 86 = .ok (.iload 4, 2) := by decide +kernel
theorem dX10_goDays_88 : decode cX10_goDays 88 = .ok (.invokevirtual 284, 3) := by decide +kernel
theorem dX10_goDays_91 : decode cX10_goDays 91 = .ok (.ifCond .eq 31, 3) := by decide +kernel
theorem dX10_goDays_94 : decode cX10_goDays 94 = .ok (.aload_n 0, 1) := by decide +kernel
theorem dX10_goDays_95 : decode cX10_goDays 95 = .ok (.dup, 1) := by decide +kernel
theorem dX10_goDays_96 : decode cX10_goDays 96 = .ok (.getfield 287, 3) := by decide +kernel
theorem dX10_goDays_99 : decode cX10_goDays 99 = .ok (.iconst 1, 1) := by decide +kernel
theorem dX10_goDays_100 : decode cX10_goDays 100 = .ok (.iadd, 1) := by decide +kernel
theorem dX10_goDays_101 : decode cX10_goDays 101 = .ok (.putfield 287, 3) := by decide +kernel
theorem dX10_goDays_104 : decode cX10_goDays 104 = .ok (.iload 6, 2) := by decide +kernel
theorem dX10_goDays_106 : decode cX10_goDays 106 = .ok (.ifCond .ne 32, 3) := by decide +kernel
theorem dX10_goDays_109 : decode cX10_goDays 109 = .ok (.aload_n 0, 1) := by decide +kernel
theorem dX10_goDays_110 : decode cX10_goDays 110 = .ok (.dup, 1) := by decide +kernel
theorem dX10_goDays_111 : decode cX10_goDays 111 = .ok (.getfield 293, 3) := by decide +kernel
theorem dX10_goDays_114 : decode cX10_goDays 114 = .ok (.iconst 1, 1) := by decide +kernel
theorem dX10_goDays_115 : decode cX10_goDays 115 = .ok (.iadd, 1) := by decide +kernel
theorem dX10_goDays_116 : decode cX10_goDays 116 = .ok (.putfield 293, 3) := by decide +kernel
theorem dX10_goDays_119 : decode cX10_goDays 119 = .ok (.goto 19, 3) := by decide +kernel
theorem dX10_goDays_122 : decode cX10_goDays 122 = .ok (.iload 6, 2) := by decide +kernel
theorem dX10_goDays_124 : decode cX10_goDays 124 = .ok (.iconst 2, 1) := by decide +kernel
theorem dX10_goDays_125 : decode cX10_goDays 125 = .ok (.if_icmp .ne 13, 3) := by decide +kernel
theorem dX10_goDays_128 : decode cX10_goDays 128 = .ok (.aload_n 0, 1) := by decide +kernel
theorem dX10_goDays_129 : decode cX10_goDays 129 = .ok (.dup, 1) := by decide +kernel
theorem dX10_goDays_130 : decode cX10_goDays 130 = .ok (.getfield 290, 3) := by decide +kernel
theorem dX10_goDays_133 : decode cX10_goDays 133 = .ok (.iconst 1, 1) := by decide +kernel
theorem dX10_goDays_134 : decode cX10_goDays 134 = .ok (.iadd, 1) := by decide +kernel
theorem dX10_goDays_135 : decode cX10_goDays 135 = .ok (.putfield 290, 3) := by decide +kernel
theorem dX10_goDays_138 : decode cX10_goDays 138 = .ok (.iinc 5 1, 3) := by decide +kernel
theorem dX10_goDays_141 : decode cX10_goDays 141 = .ok (.goto (-123), 3) := by decide +kernel
theorem dX10_goDays_144 : decode cX10_goDays 144 = .ok (.return_, 1) := by decide +kernel
theorem dX10_isSpan_0 : decode cX10_isSpan 0 = .ok (.iload_n 1, 1) := by decide +kernel
theorem dX10_isSpan_1 : decode cX10_isSpan 1 = .ok (.invokestatic 126, 3) := by decide +kernel
theorem dX10_isSpan_4 : decode cX10_isSpan 4 = .ok (.ifCond .eq 26, 3) := by decide +kernel
theorem dX10_isSpan_7 : decode cX10_isSpan 7 = .ok (.iload_n 2, 1) := by decide +kernel
theorem dX10_isSpan_8 : decode cX10_isSpan 8 = .ok (.iload_n 1, 1) := by decide +kernel
theorem dX10_isSpan_9 : decode cX10_isSpan 9 = .ok (.sipush 399, 3) := by decide +kernel
theorem dX10_isSpan_12 : decode cX10_isSpan 12 = .ok (.invokestatic 119, 3) := by decide +kernel
theorem dX10_isSpan_15 : decode cX10_isSpan 15 = .ok (.ifCond .eq 15, 3) := by decide +kernel
theorem dX10_isSpan_18 : decode cX10_isSpan 18 = .ok (.iload_n 2, 1) := by decide +kernel
theorem dX10_isSpan_19 : decode cX10_isSpan 19 = .ok (.iload_n 1, 1) := by decide +kernel
theorem dX10_isSpan_20 : decode cX10_isSpan 20 = .ok (.isub, 1) := by decide +kernel
theorem dX10_isSpan_21 : decode cX10_isSpan 21 = .ok (.bipush 60, 2) := by decide +kernel
theorem dX10_isSpan_23 : decode cX10_isSpan 23 = .ok (.if_icmp .ge 7, 3) := by decide +kernel
theorem dX10_isSpan_26 : decode cX10_isSpan 26 = .ok (.iconst 1, 1) := by decide +kernel
theorem dX10_isSpan_27 : decode cX10_isSpan 27 = .ok (.goto 4, 3) := by decide +kernel
theorem dX10_isSpan_30 : decode cX10_isSpan 30 = .ok (.iconst 0, 1) := by decide +kernel
theorem dX10_isSpan_31 : decode cX10_isSpan 31 = .ok (.ireturn, 1) := by decide +kernel
theorem dX10_run_0 : decode cX10_run 0 = .ok (.aload_n 0, 1) := by decide +kernel
theorem dX10_run_1 : decode cX10_run 1 = .ok (.iconst 0, 1) := by decide +kernel
theorem dX10_run_2 : decode cX10_run 2 = .ok (.putfield 113, 3) := by decide +kernel
theorem dX10_run_5 : decode cX10_run 5 = .ok (.aload_n 0, 1) := by decide +kernel
theorem dX10_run_6 : decode cX10_run 6 = .ok (.iload_n 1, 1) := by decide +kernel
theorem dX10_run_7 : decode cX10_run 7 = .ok (.invokevirtual 278, 3) := by decide +kernel
theorem dX10_run_10 : decode cX10_run 10 = .ok (.ifCond .eq 20, 3) := by decide +kernel
theorem dX10_run_13 : decode cX10_run 13 = .ok (.aload_n 0, 1) := by decide +kernel
theorem dX10_run_14 : decode cX10_run 14 = .ok (.iload_n 2, 1) := by decide +kernel
theorem dX10_run_15 : decode cX10_run 15 = .ok (.iload_n 3, 1) := by decide +kernel
theorem dX10_run_16 : decode cX10_run 16 = .ok (.invokevirtual 296, 3) := by decide +kernel
theorem dX10_run_19 : decode cX10_run 19 = .ok (.ifCond .eq 11, 3) := by decide +kernel
theorem dX10_run_22 : decode cX10_run 22 = .ok (.iload 4, 2) := by decide +kernel
theorem dX10_run_24 : decode cX10_run 24 = .ok (.invokestatic 281, 3) := by decide +kernel
theorem dX10_run_27 : decode cX10_run 27 = .ok (.ifCond .ne 5, 3) := by decide +kernel
theorem dX10_run_30 : decode cX10_run 30 = .ok (.iconst (-1), 1) := by decide +kernel
theorem dX10_run_31 : decode cX10_run 31 = .ok (.ireturn, 1) := by decide +kernel
theorem dX10_run_32 : decode cX10_run 32 = .ok (.aload_n 0, 1) := by decide +kernel
theorem dX10_run_33 : decode cX10_run 33 = .ok (.iload_n 1, 1) := by decide +kernel
theorem dX10_run_34 : decode cX10_run 34 = .ok (.iload_n 2, 1) := by decide +kernel
theorem dX10_run_35 : decode cX10_run 35 = .ok (.iload_n 3, 1) := by decide +kernel
theorem dX10_run_36 : decode cX10_run 36 = .ok (.iload 4, 2) := by decide +kernel
theorem dX10_run_38 : decode cX10_run 38 = .ok (.invokevirtual 299, 3) := by decide +kernel
theorem dX10_run_41 : decode cX10_run 41 = .ok (.aload_n 0, 1) := by decide +kernel
theorem dX10_run_42 : decode cX10_run 42 = .ok (.iconst 0, 1) := by decide +kernel
theorem dX10_run_43 : decode cX10_run 43 = .ok (.putfield 123, 3) := by decide +kernel
theorem dX10_run_46 : decode cX10_run 46 = .ok (.aload_n 0, 1) := by decide +kernel
theorem dX10_run_47 : decode cX10_run 47 = .ok (.aload_n 0, 1) := by decide +kernel
theorem dX10_run_48 : decode cX10_run 48 = .ok (.getfield 290, 3) := by decide +kernel
theorem dX10_run_51 : decode cX10_run 51 = .ok (.invokevirtual 211, 3) := by decide +kernel
theorem dX10_run_54 : decode cX10_run 54 = .ok (.aload_n 0, 1) := by decide +kernel
theorem dX10_run_55 : decode cX10_run 55 = .ok (.aload_n 0, 1) := by decide +kernel
theorem dX10_run_56 : decode cX10_run 56 = .ok (.getfield 293, 3) := by decide +kernel
theorem dX10_run_59 : decode cX10_run 59 = .ok (.invokevirtual 211, 3) := by decide +kernel
theorem dX10_run_62 : decode cX10_run 62 = .ok (.aload_n 0, 1) := by decide +kernel
theorem dX10_run_63 : decode cX10_run 63 = .ok (.aload_n 0, 1) := by decide +kernel
theorem dX10_run_64 : decode cX10_run 64 = .ok (.getfield 68, 3) := by decide +kernel
theorem dX10_run_67 : decode cX10_run 67 = .ok (.iload_n 1, 1) := by decide +kernel
theorem dX10_run_68 : decode cX10_run 68 = .ok (.iaload, 1) := by decide +kernel
theorem dX10_run_69 : decode cX10_run 69 = .ok (.aload_n 0, 1) := by decide +kernel
theorem dX10_run_70 : decode cX10_run 70 = .ok (.getfield 287, 3) := by decide +kernel
theorem dX10_run_73 : decode cX10_run 73 = .ok (.imul, 1) := by decide +kernel
theorem dX10_run_74 : decode cX10_run 74 = .ok (.invokevirtual 211, 3) := by decide +kernel
theorem dX10_run_77 : decode cX10_run 77 = .ok (.aload_n 0, 1) := by decide +kernel
theorem dX10_run_78 : decode cX10_run 78 = .ok (.getfield 287, 3) := by decide +kernel
theorem dX10_run_81 : decode cX10_run 81 = .ok (.ireturn, 1) := by decide +kernel
theorem dX10_best_0 : decode cX10_best 0 = .ok (.aload_n 0, 1) := by decide +kernel
theorem dX10_best_1 : decode cX10_best 1 = .ok (.iconst 0, 1) := by decide +kernel
theorem dX10_best_2 : decode cX10_best 2 = .ok (.putfield 113, 3) := by decide +kernel
theorem dX10_best_5 : decode cX10_best 5 = .ok (.aload_n 0, 1) := by decide +kernel
theorem dX10_best_6 : decode cX10_best 6 = .ok (.iload_n 1, 1) := by decide +kernel
theorem dX10_best_7 : decode cX10_best 7 = .ok (.invokevirtual 278, 3) := by decide +kernel
theorem dX10_best_10 : decode cX10_best 10 = .ok (.ifCond .eq 24, 3) := by decide +kernel
theorem dX10_best_13 : decode cX10_best 13 = .ok (.aload_n 0, 1) := by decide +kernel
theorem dX10_best_14 : decode cX10_best 14 = .ok (.iload_n 2, 1) := by decide +kernel
theorem dX10_best_15 : decode cX10_best 15 = .ok (.iload_n 3, 1) := by decide +kernel
theorem dX10_best_16 : decode cX10_best 16 = .ok (.invokevirtual 296, 3) := by decide +kernel
theorem dX10_best_19 : decode cX10_best 19 = .ok (.ifCond .eq 15, 3) := by decide +kernel
theorem dX10_best_22 : decode cX10_best 22 = .ok (.iload 4, 2) := by decide +kernel
theorem dX10_best_24 : decode cX10_best 24 = .ok (.iconst 0, 1) := by decide +kernel
theorem dX10_best_25 : decode cX10_best 25 = .ok (.sipush 9999, 3) := by decide +kernel
theorem dX10_best_28 : decode cX10_best 28 = .ok (.invokestatic 119, 3) := by decide +kernel
theorem dX10_best_31 : decode cX10_best 31 = .ok (.ifCond .ne 5, 3) := by decide +kernel
theorem dX10_best_34 : decode cX10_best 34 = .ok (.iconst (-1), 1) := by decide +kernel
theorem dX10_best_35 : decode cX10_best 35 = .ok (.ireturn, 1) := by decide +kernel
theorem dX10_best_36 : decode cX10_best 36 = .ok (.iconst (-1), 1) := by decide +kernel
theorem dX10_best_37 : decode cX10_best 37 = .ok (.istore 5, 2) := by decide +kernel
theorem dX10_best_39 : decode cX10_best 39 = .ok (.iconst 0, 1) := by decide +kernel
theorem dX10_best_40 : decode cX10_best 40 = .ok (.istore 6, 2) := by decide +kernel
theorem dX10_best_42 : decode cX10_best 42 = .ok (.sipush 1000, 3) := by decide +kernel
theorem dX10_best_45 : decode cX10_best 45 = .ok (.istore 7, 2) := by decide +kernel
theorem dX10_best_47 : decode cX10_best 47 = .ok (.iload 7, 2) := by decide +kernel
theorem dX10_best_49 : decode cX10_best 49 = .ok (.ifCond .lt 63, 3) := by decide +kernel
theorem dX10_best_52 : decode cX10_best 52 = .ok (.aload_n 0, 1) := by decide +kernel
theorem dX10_best_53 : decode cX10_best 53 = .ok (.iload_n 1, 1) := by decide +kernel
theorem dX10_best_54 : decode cX10_best 54 = .ok (.iload_n 2, 1) := by decide +kernel
theorem dX10_best_55 : decode cX10_best 55 = .ok (.iload_n 3, 1) := by decide +kernel
theorem dX10_best_56 : decode cX10_best 56 = .ok (.iload 7, 2) := by decide +kernel
theorem dX10_best_58 : decode cX10_best 58 = .ok (.invokevirtual 299, 3) := by decide +kernel
theorem dX10_best_61 : decode cX10_best 61 = .ok (.aload_n 0, 1) := by decide +kernel
theorem dX10_best_62 : decode cX10_best 62 = .ok (.getfield 68, 3) := by decide +kernel
theorem dX10_best_65 : decode cX10_best 65 = .ok (.iload_n 1, 1) := by decide +kernel
theorem dX10_best_66 : decode cX10_best 66 = .ok (.iaload, 1) := by decide +kernel
theorem dX10_best_67 : decode cX10_best 67 = .ok (.aload_n 0, 1) := by decide +kernel
theorem dX10_best_68 : decode cX10_best 68 = .ok (.getfield 287, 3) := by decide +kernel
theorem dX10_best_71 : decode cX10_best 71 = .ok (.imul, 1) := by decide +kernel
theorem dX10_best_72 : decode cX10_best 72 = .ok (.iload 4, 2) := by decide +kernel
theorem dX10_best_74 : decode cX10_best 74 = .ok (.aload_n 0, 1) := by decide +kernel
theorem dX10_best_75 : decode cX10_best 75 = .ok (.getfield 290, 3) := by decide +kernel
theorem dX10_best_78 : decode cX10_best 78 = .ok (.imul, 1) := by decide +kernel
theorem dX10_best_79 : decode cX10_best 79 = .ok (.iadd, 1) := by decide +kernel
theorem dX10_best_80 : decode cX10_best 80 = .ok (.istore 8, 2) := by decide +kernel
theorem dX10_best_82 : decode cX10_best 82 = .ok (.iload 5, 2) := by decide +kernel
theorem dX10_best_84 : decode cX10_best 84 = .ok (.iconst (-1), 1) := by decide +kernel
theorem dX10_best_85 : decode cX10_best 85 = .ok (.if_icmp .eq 13, 3) := by decide +kernel
theorem dX10_best_88 : decode cX10_best 88 = .ok (.iload 8, 2) := by decide +kernel
theorem dX10_best_90 : decode cX10_best 90 = .ok (.iload 6, 2) := by decide +kernel
theorem dX10_best_92 : decode cX10_best 92 = .ok (.if_icmp .lt 6, 3) := by decide +kernel
theorem dX10_best_95 : decode cX10_best 95 = .ok (.goto 11, 3) := by decide +kernel
theorem dX10_best_98 : decode cX10_best 98 = .ok (.iload 7, 2) := by decide +kernel
theorem dX10_best_100 : decode cX10_best 100 = .ok (.istore 5, 2) := by decide +kernel
theorem dX10_best_102 : decode cX10_best 102 = .ok (.iload 8, 2) := by decide +kernel
theorem dX10_best_104 : decode cX10_best 104 = .ok (.istore 6, 2) := by decide +kernel
theorem dX10_best_106 : decode cX10_best 106 = .ok (.iinc 7 (-100), 3) := by decide +kernel
theorem dX10_best_109 : decode cX10_best 109 = .ok (.goto (-62), 3) := by decide +kernel
theorem dX10_best_112 : decode cX10_best 112 = .ok (.aload_n 0, 1) := by decide +kernel
theorem dX10_best_113 : decode cX10_best 113 = .ok (.iconst 0, 1) := by decide +kernel
theorem dX10_best_114 : decode cX10_best 114 = .ok (.putfield 123, 3) := by decide +kernel
theorem dX10_best_117 : decode cX10_best 117 = .ok (.aload_n 0, 1) := by decide +kernel
theorem dX10_best_118 : decode cX10_best 118 = .ok (.iload 6, 2) := by decide +kernel
theorem dX10_best_120 : decode cX10_best 120 = .ok (.invokevirtual 211, 3) := by decide +kernel
theorem dX10_best_123 : decode cX10_best 123 = .ok (.iload 5, 2) := by decide +kernel
theorem dX10_best_125 : decode cX10_best 125 = .ok (.ireturn, 1) := by decide +kernel
theorem dX10_offer_0 : decode cX10_offer 0 = .ok (.aload_n 0, 1) := by decide +kernel
theorem dX10_offer_1 : decode cX10_offer 1 = .ok (.iconst 0, 1) := by decide +kernel
theorem dX10_offer_2 : decode cX10_offer 2 = .ok (.putfield 113, 3) := by decide +kernel
theorem dX10_offer_5 : decode cX10_offer 5 = .ok (.aload_n 0, 1) := by decide +kernel
theorem dX10_offer_6 : decode cX10_offer 6 = .ok (.iload_n 1, 1) := by decide +kernel
theorem dX10_offer_7 : decode cX10_offer 7 = .ok (.invokevirtual 145, 3) := by decide +kernel
theorem dX10_offer_10 : decode cX10_offer 10 = .ok (.ifCond .eq 33, 3) := by decide +kernel
theorem dX10_offer_13 : decode cX10_offer 13 = .ok (.iload_n 2, 1) := by decide +kernel
theorem dX10_offer_14 : decode cX10_offer 14 = .ok (.iconst 1, 1) := by decide +kernel
theorem dX10_offer_15 : decode cX10_offer 15 = .ok (.bipush 99, 2) := by decide +kernel
theorem dX10_offer_17 : decode cX10_offer 17 = .ok (.invokestatic 119, 3) := by decide +kernel
theorem dX10_offer_20 : decode cX10_offer 20 = .ok (.ifCond .eq 23, 3) := by decide +kernel
theorem dX10_offer_23 : decode cX10_offer 23 = .ok (.iload_n 3, 1) := by decide +kernel
theorem dX10_offer_24 : decode cX10_offer 24 = .ok (.iconst 1, 1) := by decide +kernel
theorem dX10_offer_25 : decode cX10_offer 25 = .ok (.sipush 999, 3) := by decide +kernel
theorem dX10_offer_28 : decode cX10_offer 28 = .ok (.invokestatic 119, 3) := by decide +kernel
theorem dX10_offer_31 : decode cX10_offer 31 = .ok (.ifCond .eq 12, 3) := by decide +kernel
theorem dX10_offer_34 : decode cX10_offer 34 = .ok (.aload_n 0, 1) := by decide +kernel
theorem dX10_offer_35 : decode cX10_offer 35 = .ok (.getfield 303, 3) := by decide +kernel
theorem dX10_offer_38 : decode cX10_offer 38 = .ok (.bipush 10, 2) := by decide +kernel
theorem dX10_offer_40 : decode cX10_offer 40 = .ok (.if_icmp .ne 5, 3) := by decide +kernel
theorem dX10_offer_43 : decode cX10_offer 43 = .ok (.iconst (-1), 1) := by decide +kernel
theorem dX10_offer_44 : decode cX10_offer 44 = .ok (.ireturn, 1) := by decide +kernel
theorem dX10_offer_45 : decode cX10_offer 45 = .ok (.aload_n 0, 1) := by decide +kernel
theorem dX10_offer_46 : decode cX10_offer 46 = .ok (.getfield 74, 3) := by decide +kernel
theorem dX10_offer_49 : decode cX10_offer 49 = .ok (.aload_n 0, 1) := by decide +kernel
theorem dX10_offer_50 : decode cX10_offer 50 = .ok (.getfield 303, 3) := by decide +kernel
theorem dX10_offer_53 : decode cX10_offer 53 = .ok (.iload_n 1, 1) := by decide +kernel
theorem dX10_offer_54 : decode cX10_offer 54 = .ok (.iastore, 1) := by decide +kernel
theorem dX10_offer_55 : decode cX10_offer 55 = .ok (.aload_n 0, 1) := by decide +kernel
theorem dX10_offer_56 : decode cX10_offer 56 = .ok (.getfield 77, 3) := by decide +kernel
theorem dX10_offer_59 : decode cX10_offer 59 = .ok (.aload_n 0, 1) := by decide +kernel
theorem dX10_offer_60 : decode cX10_offer 60 = .ok (.getfield 303, 3) := by decide +kernel
theorem dX10_offer_63 : decode cX10_offer 63 = .ok (.iload_n 2, 1) := by decide +kernel
theorem dX10_offer_64 : decode cX10_offer 64 = .ok (.iastore, 1) := by decide +kernel
theorem dX10_offer_65 : decode cX10_offer 65 = .ok (.aload_n 0, 1) := by decide +kernel
theorem dX10_offer_66 : decode cX10_offer 66 = .ok (.getfield 80, 3) := by decide +kernel
theorem dX10_offer_69 : decode cX10_offer 69 = .ok (.aload_n 0, 1) := by decide +kernel
theorem dX10_offer_70 : decode cX10_offer 70 = .ok (.getfield 303, 3) := by decide +kernel
theorem dX10_offer_73 : decode cX10_offer 73 = .ok (.iload_n 3, 1) := by decide +kernel
theorem dX10_offer_74 : decode cX10_offer 74 = .ok (.iastore, 1) := by decide +kernel
theorem dX10_offer_75 : decode cX10_offer 75 = .ok (.aload_n 0, 1) := by decide +kernel
theorem dX10_offer_76 : decode cX10_offer 76 = .ok (.dup, 1) := by decide +kernel
theorem dX10_offer_77 : decode cX10_offer 77 = .ok (.getfield 303, 3) := by decide +kernel
theorem dX10_offer_80 : decode cX10_offer 80 = .ok (.iconst 1, 1) := by decide +kernel
theorem dX10_offer_81 : decode cX10_offer 81 = .ok (.iadd, 1) := by decide +kernel
theorem dX10_offer_82 : decode cX10_offer 82 = .ok (.putfield 303, 3) := by decide +kernel
theorem dX10_offer_85 : decode cX10_offer 85 = .ok (.aload_n 0, 1) := by decide +kernel
theorem dX10_offer_86 : decode cX10_offer 86 = .ok (.getfield 303, 3) := by decide +kernel
theorem dX10_offer_89 : decode cX10_offer 89 = .ok (.ireturn, 1) := by decide +kernel
theorem dX10_deepest_0 : decode cX10_deepest 0 = .ok (.aload_n 0, 1) := by decide +kernel
theorem dX10_deepest_1 : decode cX10_deepest 1 = .ok (.iload_n 1, 1) := by decide +kernel
theorem dX10_deepest_2 : decode cX10_deepest 2 = .ok (.aload_n 0, 1) := by decide +kernel
theorem dX10_deepest_3 : decode cX10_deepest 3 = .ok (.getfield 55, 3) := by decide +kernel
theorem dX10_deepest_6 : decode cX10_deepest 6 = .ok (.invokevirtual 207, 3) := by decide +kernel
theorem dX10_deepest_9 : decode cX10_deepest 9 = .ok (.lstore_n 3, 1) := by decide +kernel
theorem dX10_deepest_10 : decode cX10_deepest 10 = .ok (.iconst (-1), 1) := by decide +kernel
theorem dX10_deepest_11 : decode cX10_deepest 11 = .ok (.istore 5, 2) := by decide +kernel
theorem dX10_deepest_13 : decode cX10_deepest 13 = .ok (.iconst 0, 1) := by decide +kernel
theorem dX10_deepest_14 : decode cX10_deepest 14 = .ok (.istore 6, 2) := by decide +kernel
theorem dX10_deepest_16 : decode cX10_deepest 16 = .ok (.iload 6, 2) := by decide +kernel
theorem dX10_deepest_18 : decode cX10_deepest 18 = .ok (.bipush 64, 2) := by decide +kernel
theorem dX10_deepest_20 : decode cX10_deepest 20 = .ok (.if_icmp .ge 33, 3) := by decide +kernel
theorem dX10_deepest_23 : decode cX10_deepest 23 = .ok (.lload_n 3, 1) := by decide +kernel
theorem dX10_deepest_24 : decode cX10_deepest 24 = .ok (.iload 6, 2) := by decide +kernel
theorem dX10_deepest_26 : decode cX10_deepest 26 = .ok (.invokestatic 179, 3) := by decide +kernel
theorem dX10_deepest_29 : decode cX10_deepest 29 = .ok (.ifCond .eq 18, 3) := by decide +kernel
theorem dX10_deepest_32 : decode cX10_deepest 32 = .ok (.iload 5, 2) := by decide +kernel
theorem dX10_deepest_34 : decode cX10_deepest 34 = .ok (.aload_n 0, 1) := by decide +kernel
theorem dX10_deepest_35 : decode cX10_deepest 35 = .ok (.iload_n 1, 1) := by decide +kernel
theorem dX10_deepest_36 : decode cX10_deepest 36 = .ok (.iload 6, 2) := by decide +kernel
theorem dX10_deepest_38 : decode cX10_deepest 38 = .ok (.iload_n 2, 1) := by decide +kernel
theorem dX10_deepest_39 : decode cX10_deepest 39 = .ok (.invokevirtual 159, 3) := by decide +kernel
theorem dX10_deepest_42 : decode cX10_deepest 42 = .ok (.invokestatic 139, 3) := by decide +kernel
theorem dX10_deepest_45 : decode cX10_deepest 45 = .ok (.istore 5, 2) := by decide +kernel
theorem dX10_deepest_47 : decode cX10_deepest 47 = .ok (.iinc 6 1, 3) := by decide +kernel
theorem dX10_deepest_50 : decode cX10_deepest 50 = .ok (.goto (-34), 3) := by decide +kernel
theorem dX10_deepest_53 : decode cX10_deepest 53 = .ok (.iload 5, 2) := by decide +kernel
theorem dX10_deepest_55 : decode cX10_deepest 55 = .ok (.ireturn, 1) := by decide +kernel
theorem dX10_choose_0 : decode cX10_choose 0 = .ok (.aload_n 0, 1) := by decide +kernel
theorem dX10_choose_1 : decode cX10_choose 1 = .ok (.iconst 0, 1) := by decide +kernel
theorem dX10_choose_2 : decode cX10_choose 2 = .ok (.putfield 113, 3) := by decide +kernel
theorem dX10_choose_5 : decode cX10_choose 5 = .ok (.iload_n 1, 1) := by decide +kernel
theorem dX10_choose_6 : decode cX10_choose 6 = .ok (.iconst 0, 1) := by decide +kernel
theorem dX10_choose_7 : decode cX10_choose 7 = .ok (.sipush 9999, 3) := by decide +kernel
theorem dX10_choose_10 : decode cX10_choose 10 = .ok (.invokestatic 119, 3) := by decide +kernel
theorem dX10_choose_13 : decode cX10_choose 13 = .ok (.ifCond .eq 10, 3) := by decide +kernel
theorem dX10_choose_16 : decode cX10_choose 16 = .ok (.iload_n 2, 1) := by decide +kernel
theorem dX10_choose_17 : decode cX10_choose 17 = .ok (.invokestatic 126, 3) := by decide +kernel
theorem dX10_choose_20 : decode cX10_choose 20 = .ok (.ifCond .ne 5, 3) := by decide +kernel
theorem dX10_choose_23 : decode cX10_choose 23 = .ok (.iconst (-1), 1) := by decide +kernel
theorem dX10_choose_24 : decode cX10_choose 24 = .ok (.ireturn, 1) := by decide +kernel
theorem dX10_choose_25 : decode cX10_choose 25 = .ok (.iconst 0, 1) := by decide +kernel
theorem dX10_choose_26 : decode cX10_choose 26 = .ok (.istore_n 3, 1) := by decide +kernel
theorem dX10_choose_27 : decode cX10_choose 27 = .ok (.iload_n 3, 1) := by decide +kernel
theorem dX10_choose_28 : decode cX10_choose 28 = .ok (.aload_n 0, 1) := by decide +kernel
theorem dX10_choose_29 : decode cX10_choose 29 = .ok (.getfield 116, 3) := by decide +kernel
theorem dX10_choose_32 : decode cX10_choose 32 = .ok (.if_icmp .ge 21, 3) := by decide +kernel
theorem dX10_choose_35 : decode cX10_choose 35 = .ok (.aload_n 0, 1) := by decide +kernel
theorem dX10_choose_36 : decode cX10_choose 36 = .ok (.getfield 107, 3) := by decide +kernel
theorem dX10_choose_39 : decode cX10_choose 39 = .ok (.iload_n 3, 1) := by decide +kernel
theorem dX10_choose_40 : decode cX10_choose 40 = .ok (.aload_n 0, 1) := by decide +kernel
theorem dX10_choose_41 : decode cX10_choose 41 = .ok (.iload_n 3, 1) := by decide +kernel
theorem dX10_choose_42 : decode cX10_choose 42 = .ok (.iload_n 2, 1) := by decide +kernel
theorem dX10_choose_43 : decode cX10_choose 43 = .ok (.invokevirtual 306, 3) := by decide +kernel
theorem dX10_choose_46 : decode cX10_choose 46 = .ok (.iastore, 1) := by decide +kernel
theorem dX10_choose_47 : decode cX10_choose 47 = .ok (.iinc 3 1, 3) := by decide +kernel
theorem dX10_choose_50 : decode cX10_choose 50 = .ok (.goto (-23), 3) := by decide +kernel
theorem dX10_choose_53 : decode cX10_choose 53 = .ok (.iconst (-1), 1) := by decide +kernel
theorem dX10_choose_54 : decode cX10_choose 54 = .ok (.istore_n 3, 1) := by decide +kernel
theorem dX10_choose_55 : decode cX10_choose 55 = .ok (.iconst 0, 1) := by decide +kernel
theorem dX10_choose_56 : decode cX10_choose 56 = .ok (.istore 4, 2) := by decide +kernel
theorem dX10_choose_58 : decode cX10_choose 58 = .ok (.iconst 0, 1) := by decide +kernel
theorem dX10_choose_59 : decode cX10_choose 59 = .ok (.istore 5, 2) := by decide +kernel
theorem dX10_choose_61 : decode cX10_choose 61 = .ok (.iconst 0, 1) := by decide +kernel
theorem dX10_choose_62 : decode cX10_choose 62 = .ok (.istore 6, 2) := by decide +kernel
theorem dX10_choose_64 : decode cX10_choose 64 = .ok (.iload 6, 2) := by decide +kernel
theorem dX10_choose_66 : decode cX10_choose 66 = .ok (.iconst 1, 1) := by decide +kernel
theorem dX10_choose_67 : decode cX10_choose 67 = .ok (.aload_n 0, 1) := by decide +kernel
theorem dX10_choose_68 : decode cX10_choose 68 = .ok (.getfield 303, 3) := by decide +kernel
theorem dX10_choose_71 : decode cX10_choose 71 = .ok (.ishl, 1) := by decide +kernel
theorem dX10_choose_72 : decode cX10_choose 72 = .ok (.if_icmp .ge 211, 3) := by decide +kernel
theorem dX10_choose_75 : decode cX10_choose 75 = .ok (.iconst 0, 1) := by decide +kernel
theorem dX10_choose_76 : decode cX10_choose 76 = .ok (.istore 7, 2) := by decide +kernel
theorem dX10_choose_78 : decode cX10_choose 78 = .ok (.iconst 0, 1) := by decide +kernel
theorem dX10_choose_79 : decode cX10_choose 79 = .ok (.istore 8, 2) := by decide +kernel
theorem dX10_choose_81 : decode cX10_choose 81 = .ok (.iload 8, 2) := by decide +kernel
theorem dX10_choose_83 : decode cX10_choose 83 = .ok (.bipush 8, 2) := by decide +kernel
theorem dX10_choose_85 : decode cX10_choose 85 = .ok (.if_icmp .ge 17, 3) := by decide +kernel
theorem dX10_choose_88 : decode cX10_choose 88 = .ok (.aload_n 0, 1) := by decide +kernel
theorem dX10_choose_89 : decode cX10_choose 89 = .ok (.getfield 110, 3) := by decide +kernel
theorem dX10_choose_92 : decode cX10_choose 92 = .ok (.iload 8, 2) := by decide +kernel
theorem dX10_choose_94 : decode cX10_choose 94 = .ok (.iconst 0, 1) := by decide +kernel
theorem dX10_choose_95 : decode cX10_choose 95 = .ok (.iastore, 1) := by decide +kernel
theorem dX10_choose_96 : decode cX10_choose 96 = .ok (.iinc 8 1, 3) := by decide +kernel
theorem dX10_choose_99 : decode cX10_choose 99 = .ok (.goto (-18), 3) := by decide +kernel
theorem dX10_choose_102 : decode cX10_choose 102 = .ok (.iconst 0, 1) := by decide +kernel
theorem dX10_choose_103 : decode cX10_choose 103 = .ok (.istore 8, 2) := by decide +kernel
theorem dX10_choose_105 : decode cX10_choose 105 = .ok (.iload 8, 2) := by decide +kernel
theorem dX10_choose_107 : decode cX10_choose 107 = .ok (.aload_n 0, 1) := by decide +kernel
theorem dX10_choose_108 : decode cX10_choose 108 = .ok (.getfield 303, 3) := by decide +kernel
theorem dX10_choose_111 : decode cX10_choose 111 = .ok (.if_icmp .ge 56, 3) := by decide +kernel
theorem dX10_choose_114 : decode cX10_choose 114 = .ok (.iload 6, 2) := by decide +kernel
theorem dX10_choose_116 : decode cX10_choose 116 = .ok (.iload 8, 2) := by decide +kernel
theorem dX10_choose_118 : decode cX10_choose 118 = .ok (.ishr, 1) := by decide +kernel
theorem dX10_choose_119 : decode cX10_choose 119 = .ok (.iconst 1, 1) := by decide +kernel
theorem dX10_choose_120 : decode cX10_choose 120 = .ok (.iand, 1) := by decide +kernel
theorem dX10_choose_121 : decode cX10_choose 121 = .ok (.ifCond .ne 6, 3) := by decide +kernel
theorem dX10_choose_124 : decode cX10_choose 124 = .ok (.goto 37, 3) := by decide +kernel
theorem dX10_choose_127 : decode cX10_choose 127 = .ok (.iload 7, 2) := by decide +kernel
theorem dX10_choose_129 : decode cX10_choose 129 = .ok (.aload_n 0, 1) := by decide +kernel
theorem dX10_choose_130 : decode cX10_choose 130 = .ok (.getfield 80, 3) := by decide +kernel
theorem dX10_choose_133 : decode cX10_choose 133 = .ok (.iload 8, 2) := by decide +kernel
theorem dX10_choose_135 : decode cX10_choose 135 = .ok (.iaload, 1) := by decide +kernel
theorem dX10_choose_136 : decode cX10_choose 136 = .ok (.iadd, 1) := by decide +kernel
theorem dX10_choose_137 : decode cX10_choose 137 = .ok (.istore 7, 2) := by decide +kernel
theorem dX10_choose_139 : decode cX10_choose 139 = .ok (.aload_n 0, 1) := by decide +kernel
theorem dX10_choose_140 : decode cX10_choose 140 = .ok (.getfield 110, 3) := by decide +kernel
theorem dX10_choose_143 : decode cX10_choose 143 = .ok (.aload_n 0, 1) := by decide +kernel
theorem dX10_choose_144 : decode cX10_choose 144 = .ok (.getfield 74, 3) := by decide +kernel
theorem dX10_choose_147 : decode cX10_choose 147 = .ok (.iload 8, 2) := by decide +kernel
theorem dX10_choose_149 : decode cX10_choose 149 = .ok (.iaload, 1) := by decide +kernel
theorem dX10_choose_150 : decode cX10_choose 150 = .ok (.dup2, 1) := by decide +kernel
theorem dX10_choose_151 : decode cX10_choose 151 = .ok (.iaload, 1) := by decide +kernel
theorem dX10_choose_152 : decode cX10_choose 152 = .ok (.aload_n 0, 1) := by decide +kernel
theorem dX10_choose_153 : decode cX10_choose 153 = .ok (.getfield 77, 3) := by decide +kernel
theorem dX10_choose_156 : decode cX10_choose 156 = .ok (.iload 8, 2) := by decide +kernel
theorem dX10_choose_158 : decode cX10_choose 158 = .ok (.iaload, 1) := by decide +kernel
theorem dX10_choose_159 : decode cX10_choose 159 = .ok (.iadd, 1) := by decide +kernel
theorem dX10_choose_160 : decode cX10_choose 160 = .ok (.iastore, 1) := by decide +kernel
theorem dX10_choose_161 : decode cX10_choose 161 = .ok (.iinc 8 1, 3) := by decide +kernel
theorem dX10_choose_164 : decode cX10_choose 164 = .ok (.goto (-59), 3) := by decide +kernel
theorem dX10_choose_167 : decode cX10_choose 167 = .ok (.iload 7, 2) := by decide +kernel
theorem dX10_choose_169 : decode cX10_choose 169 = .ok (.iload_n 1, 1) := by decide +kernel
theorem dX10_choose_170 : decode cX10_choose 170 = .ok (.if_icmp .le 6, 3) := by decide +kernel
theorem dX10_choose_173 : decode cX10_choose 173 = .ok (.goto 104, 3) := by decide +kernel
theorem dX10_choose_176 : decode cX10_choose 176 = .ok (.iconst 0, 1) := by decide +kernel
theorem dX10_choose_177 : decode cX10_choose 177 = .ok (.istore 8, 2) := by decide +kernel
theorem dX10_choose_179 : decode cX10_choose 179 = .ok (.iconst 0, 1) := by decide +kernel
theorem dX10_choose_180 : decode cX10_choose 180 = .ok (.istore 9, 2) := by decide +kernel
theorem dX10_choose_182 : decode cX10_choose 182 = .ok (.iload 9, 2) := by decide +kernel
theorem dX10_choose_184 : decode cX10_choose 184 = .ok (.aload_n 0, 1) := by decide +kernel
theorem dX10_choose_185 : decode cX10_choose 185 = .ok (.getfield 116, 3) := by decide +kernel
theorem dX10_choose_188 : decode cX10_choose 188 = .ok (.if_icmp .ge 56, 3) := by decide +kernel
theorem dX10_choose_191 : decode cX10_choose 191 = .ok (.aload_n 0, 1) := by decide +kernel
theorem dX10_choose_192 : decode cX10_choose 192 = .ok (.getfield 107, 3) := by decide +kernel
theorem dX10_choose_195 : decode cX10_choose 195 = .ok (.iload 9, 2) := by decide +kernel
theorem dX10_choose_197 : decode cX10_choose 197 = .ok (.iaload, 1) := by decide +kernel
theorem dX10_choose_198 : decode cX10_choose 198 = .ok (.iconst (-1), 1) := by decide +kernel
theorem dX10_choose_199 : decode cX10_choose 199 = .ok (.if_icmp .eq 39, 3) := by decide +kernel
theorem dX10_choose_202 : decode cX10_choose 202 = .ok (.aload_n 0, 1) := by decide +kernel
theorem dX10_choose_203 : decode cX10_choose 203 = .ok (.getfield 107, 3) := by decide +kernel
theorem dX10_choose_206 : decode cX10_choose 206 = .ok (.iload 9, 2) := by decide +kernel
theorem dX10_choose_208 : decode cX10_choose 208 = .ok (.iaload, 1) := by decide +kernel
theorem dX10_choose_209 : decode cX10_choose 209 = .ok (.aload_n 0, 1) := by decide +kernel
theorem dX10_choose_210 : decode cX10_choose 210 = .ok (.getfield 22, 3) := by decide +kernel
theorem dX10_choose_213 : decode cX10_choose 213 = .ok (.iload 9, 2) := by decide +kernel
theorem dX10_choose_215 : decode cX10_choose 215 = .ok (.iaload, 1) := by decide +kernel
theorem dX10_choose_216 : decode cX10_choose 216 = .ok (.aload_n 0, 1) := by decide +kernel
theorem dX10_choose_217 : decode cX10_choose 217 = .ok (.getfield 25, 3) := by decide +kernel
theorem dX10_choose_220 : decode cX10_choose 220 = .ok (.iload 9, 2) := by decide +kernel
theorem dX10_choose_222 : decode cX10_choose 222 = .ok (.iaload, 1) := by decide +kernel
theorem dX10_choose_223 : decode cX10_choose 223 = .ok (.iadd, 1) := by decide +kernel
theorem dX10_choose_224 : decode cX10_choose 224 = .ok (.aload_n 0, 1) := by decide +kernel
theorem dX10_choose_225 : decode cX10_choose 225 = .ok (.getfield 110, 3) := by decide +kernel
theorem dX10_choose_228 : decode cX10_choose 228 = .ok (.iload 9, 2) := by decide +kernel
theorem dX10_choose_230 : decode cX10_choose 230 = .ok (.iaload, 1) := by decide +kernel
theorem dX10_choose_231 : decode cX10_choose 231 = .ok (.iadd, 1) := by decide +kernel
theorem dX10_choose_232 : decode cX10_choose 232 = .ok (.if_icmp .gt 6, 3) := by decide +kernel
theorem dX10_choose_235 : decode cX10_choose 235 = .ok (.iinc 8 1, 3) := by decide +kernel
theorem dX10_choose_238 : decode cX10_choose 238 = .ok (.iinc 9 1, 3) := by decide +kernel
theorem dX10_choose_241 : decode cX10_choose 241 = .ok (.goto (-59), 3) := by decide +kernel
theorem dX10_choose_244 : decode cX10_choose 244 = .ok (.iload 8, 2) := by decide +kernel
theorem dX10_choose_246 : decode cX10_choose 246 = .ok (.iload_n 3, 1) := by decide +kernel
theorem dX10_choose_247 : decode cX10_choose 247 = .ok (.if_icmp .lt 30, 3) := by decide +kernel
theorem dX10_choose_250 : decode cX10_choose 250 = .ok (.iload 8, 2) := by decide +kernel
theorem dX10_choose_252 : decode cX10_choose 252 = .ok (.iload_n 3, 1) := by decide +kernel
theorem dX10_choose_253 : decode cX10_choose 253 = .ok (.if_icmp .ne 13, 3) := by decide +kernel
theorem dX10_choose_256 : decode cX10_choose 256 = .ok (.iload 7, 2) := by decide +kernel
theorem dX10_choose_258 : decode cX10_choose 258 = .ok (.iload 4, 2) := by decide +kernel
theorem dX10_choose_260 : decode cX10_choose 260 = .ok (.if_icmp .lt 6, 3) := by decide +kernel
theorem dX10_choose_263 : decode cX10_choose 263 = .ok (.goto 14, 3) := by decide +kernel
theorem dX10_choose_266 : decode cX10_choose 266 = .ok (.iload 8, 2) := by decide +kernel
theorem dX10_choose_268 : decode cX10_choose 268 = .ok (.istore_n 3, 1) := by decide +kernel
theorem dX10_choose_269 : decode cX10_choose 269 = .ok (.iload 7, 2) := by decide +kernel
theorem dX10_choose_271 : decode cX10_choose 271 = .ok (.istore 4, 2) := by decide +kernel
theorem dX10_choose_273 : decode cX10_choose 273 = .ok (.iload 6, 2) := by decide +kernel
theorem dX10_choose_275 : decode cX10_choose 275 = .ok (.istore 5, 2) := by decide +kernel
theorem dX10_choose_277 : decode cX10_choose 277 = .ok (.iinc 6 1, 3) := by decide +kernel
theorem dX10_choose_280 : decode cX10_choose 280 = .ok (.goto (-216), 3) := by decide +kernel
theorem dX10_choose_283 : decode cX10_choose 283 = .ok (.aload_n 0, 1) := by decide +kernel
theorem dX10_choose_284 : decode cX10_choose 284 = .ok (.iconst 0, 1) := by decide +kernel
theorem dX10_choose_285 : decode cX10_choose 285 = .ok (.putfield 123, 3) := by decide +kernel
theorem dX10_choose_288 : decode cX10_choose 288 = .ok (.aload_n 0, 1) := by decide +kernel
theorem dX10_choose_289 : decode cX10_choose 289 = .ok (.iload 5, 2) := by decide +kernel
theorem dX10_choose_291 : decode cX10_choose 291 = .ok (.invokevirtual 211, 3) := by decide +kernel
theorem dX10_choose_294 : decode cX10_choose 294 = .ok (.aload_n 0, 1) := by decide +kernel
theorem dX10_choose_295 : decode cX10_choose 295 = .ok (.iload 4, 2) := by decide +kernel
theorem dX10_choose_297 : decode cX10_choose 297 = .ok (.invokevirtual 211, 3) := by decide +kernel
theorem dX10_choose_300 : decode cX10_choose 300 = .ok (.iload_n 3, 1) := by decide +kernel
theorem dX10_choose_301 : decode cX10_choose 301 = .ok (.ireturn, 1) := by decide +kernel
theorem dX10_count_0 : decode cX10_count 0 = .ok (.aload_n 0, 1) := by decide +kernel
theorem dX10_count_1 : decode cX10_count 1 = .ok (.iconst 0, 1) := by decide +kernel
theorem dX10_count_2 : decode cX10_count 2 = .ok (.putfield 113, 3) := by decide +kernel
theorem dX10_count_5 : decode cX10_count 5 = .ok (.iconst 0, 1) := by decide +kernel
theorem dX10_count_6 : decode cX10_count 6 = .ok (.istore_n 2, 1) := by decide +kernel
theorem dX10_count_7 : decode cX10_count 7 = .ok (.iload_n 1, 1) := by decide +kernel
theorem dX10_count_8 : decode cX10_count 8 = .ok (.tableswitch 173 0 10 #[60, 65, 70, 75, 80, 113, 118, 123, 128, 133, 138], 60) := by decide +kernel
theorem dX10_count_68 : decode cX10_count 68 = .ok (.aload_n 0, 1) := by decide +kernel
theorem dX10_count_69 : decode cX10_count 69 = .ok (.getfield 142, 3) := by decide +kernel
theorem dX10_count_72 : decode cX10_count 72 = .ok (.ireturn, 1) := by decide +kernel
theorem dX10_count_73 : decode cX10_count 73 = .ok (.aload_n 0, 1) := by decide +kernel
theorem dX10_count_74 : decode cX10_count 74 = .ok (.getfield 116, 3) := by decide +kernel
theorem dX10_count_77 : decode cX10_count 77 = .ok (.ireturn, 1) := by decide +kernel
theorem dX10_count_78 : decode cX10_count 78 = .ok (.aload_n 0, 1) := by decide +kernel
theorem dX10_count_79 : decode cX10_count 79 = .ok (.getfield 148, 3) := by decide +kernel
theorem dX10_count_82 : decode cX10_count 82 = .ok (.ireturn, 1) := by decide +kernel
theorem dX10_count_83 : decode cX10_count 83 = .ok (.aload_n 0, 1) := by decide +kernel
theorem dX10_count_84 : decode cX10_count 84 = .ok (.getfield 185, 3) := by decide +kernel
theorem dX10_count_87 : decode cX10_count 87 = .ok (.ireturn, 1) := by decide +kernel
theorem dX10_count_88 : decode cX10_count 88 = .ok (.iconst 0, 1) := by decide +kernel
theorem dX10_count_89 : decode cX10_count 89 = .ok (.istore_n 3, 1) := by decide +kernel
theorem dX10_count_90 : decode cX10_count 90 = .ok (.iload_n 3, 1) := by decide +kernel
theorem dX10_count_91 : decode cX10_count 91 = .ok (.aload_n 0, 1) := by decide +kernel
theorem dX10_count_92 : decode cX10_count 92 = .ok (.getfield 185, 3) := by decide +kernel
theorem dX10_count_95 : decode cX10_count 95 = .ok (.if_icmp .ge 24, 3) := by decide +kernel
theorem dX10_count_98 : decode cX10_count 98 = .ok (.aload_n 0, 1) := by decide +kernel
theorem dX10_count_99 : decode cX10_count 99 = .ok (.iload_n 3, 1) := by decide +kernel
theorem dX10_count_100 : decode cX10_count 100 = .ok (.aload_n 0, 1) := by decide +kernel
theorem dX10_count_101 : decode cX10_count 101 = .ok (.getfield 55, 3) := by decide +kernel
theorem dX10_count_104 : decode cX10_count 104 = .ok (.invokevirtual 188, 3) := by decide +kernel
theorem dX10_count_107 : decode cX10_count 107 = .ok (.ifCond .eq 6, 3) := by decide +kernel
theorem dX10_count_110 : decode cX10_count 110 = .ok (.iinc 2 1, 3) := by decide +kernel
theorem dX10_count_113 : decode cX10_count 113 = .ok (.iinc 3 1, 3) := by decide +kernel
theorem dX10_count_116 : decode cX10_count 116 = .ok (.goto (-26), 3) := by decide +kernel
theorem dX10_count_119 : decode cX10_count 119 = .ok (.iload_n 2, 1) := by decide +kernel
theorem dX10_count_120 : decode cX10_count 120 = .ok (.ireturn, 1) := by decide +kernel
theorem dX10_count_121 : decode cX10_count 121 = .ok (.aload_n 0, 1) := by decide +kernel
theorem dX10_count_122 : decode cX10_count 122 = .ok (.getfield 55, 3) := by decide +kernel
theorem dX10_count_125 : decode cX10_count 125 = .ok (.ireturn, 1) := by decide +kernel
theorem dX10_count_126 : decode cX10_count 126 = .ok (.aload_n 0, 1) := by decide +kernel
theorem dX10_count_127 : decode cX10_count 127 = .ok (.getfield 272, 3) := by decide +kernel
theorem dX10_count_130 : decode cX10_count 130 = .ok (.ireturn, 1) := by decide +kernel
theorem dX10_count_131 : decode cX10_count 131 = .ok (.aload_n 0, 1) := by decide +kernel
theorem dX10_count_132 : decode cX10_count 132 = .ok (.getfield 275, 3) := by decide +kernel
theorem dX10_count_135 : decode cX10_count 135 = .ok (.ireturn, 1) := by decide +kernel
theorem dX10_count_136 : decode cX10_count 136 = .ok (.aload_n 0, 1) := by decide +kernel
theorem dX10_count_137 : decode cX10_count 137 = .ok (.getfield 303, 3) := by decide +kernel
theorem dX10_count_140 : decode cX10_count 140 = .ok (.ireturn, 1) := by decide +kernel
theorem dX10_count_141 : decode cX10_count 141 = .ok (.aload_n 0, 1) := by decide +kernel
theorem dX10_count_142 : decode cX10_count 142 = .ok (.getfield 123, 3) := by decide +kernel
theorem dX10_count_145 : decode cX10_count 145 = .ok (.ireturn, 1) := by decide +kernel
theorem dX10_count_146 : decode cX10_count 146 = .ok (.iconst 0, 1) := by decide +kernel
theorem dX10_count_147 : decode cX10_count 147 = .ok (.istore_n 3, 1) := by decide +kernel
theorem dX10_count_148 : decode cX10_count 148 = .ok (.iload_n 3, 1) := by decide +kernel
theorem dX10_count_149 : decode cX10_count 149 = .ok (.aload_n 0, 1) := by decide +kernel
theorem dX10_count_150 : decode cX10_count 150 = .ok (.getfield 116, 3) := by decide +kernel
theorem dX10_count_153 : decode cX10_count 153 = .ok (.if_icmp .ge 26, 3) := by decide +kernel
theorem dX10_count_156 : decode cX10_count 156 = .ok (.aload_n 0, 1) := by decide +kernel
theorem dX10_count_157 : decode cX10_count 157 = .ok (.iload_n 3, 1) := by decide +kernel
theorem dX10_count_158 : decode cX10_count 158 = .ok (.aload_n 0, 1) := by decide +kernel
theorem dX10_count_159 : decode cX10_count 159 = .ok (.getfield 55, 3) := by decide +kernel
theorem dX10_count_162 : decode cX10_count 162 = .ok (.invokevirtual 207, 3) := by decide +kernel
theorem dX10_count_165 : decode cX10_count 165 = .ok (.lconst 0, 1) := by decide +kernel
theorem dX10_count_166 : decode cX10_count 166 = .ok (.lcmp, 1) := by decide +kernel
theorem dX10_count_167 : decode cX10_count 167 = .ok (.ifCond .ne 6, 3) := by decide +kernel
theorem dX10_count_170 : decode cX10_count 170 = .ok (.iinc 2 1, 3) := by decide +kernel
theorem dX10_count_173 : decode cX10_count 173 = .ok (.iinc 3 1, 3) := by decide +kernel
theorem dX10_count_176 : decode cX10_count 176 = .ok (.goto (-28), 3) := by decide +kernel
theorem dX10_count_179 : decode cX10_count 179 = .ok (.iload_n 2, 1) := by decide +kernel
theorem dX10_count_180 : decode cX10_count 180 = .ok (.ireturn, 1) := by decide +kernel
theorem dX10_count_181 : decode cX10_count 181 = .ok (.iconst (-1), 1) := by decide +kernel
theorem dX10_count_182 : decode cX10_count 182 = .ok (.ireturn, 1) := by decide +kernel
theorem dX10_row_0 : decode cX10_row 0 = .ok (.aload_n 0, 1) := by decide +kernel
theorem dX10_row_1 : decode cX10_row 1 = .ok (.iconst 0, 1) := by decide +kernel
theorem dX10_row_2 : decode cX10_row 2 = .ok (.putfield 113, 3) := by decide +kernel
theorem dX10_row_5 : decode cX10_row 5 = .ok (.iload_n 1, 1) := by decide +kernel
theorem dX10_row_6 : decode cX10_row 6 = .ok (.iconst 0, 1) := by decide +kernel
theorem dX10_row_7 : decode cX10_row 7 = .ok (.aload_n 0, 1) := by decide +kernel
theorem dX10_row_8 : decode cX10_row 8 = .ok (.getfield 123, 3) := by decide +kernel
theorem dX10_row_11 : decode cX10_row 11 = .ok (.iconst 1, 1) := by decide +kernel
theorem dX10_row_12 : decode cX10_row 12 = .ok (.isub, 1) := by decide +kernel
theorem dX10_row_13 : decode cX10_row 13 = .ok (.invokestatic 119, 3) := by decide +kernel
theorem dX10_row_16 : decode cX10_row 16 = .ok (.ifCond .eq 12, 3) := by decide +kernel
theorem dX10_row_19 : decode cX10_row 19 = .ok (.aload_n 0, 1) := by decide +kernel
theorem dX10_row_20 : decode cX10_row 20 = .ok (.getfield 83, 3) := by decide +kernel
theorem dX10_row_23 : decode cX10_row 23 = .ok (.iload_n 1, 1) := by decide +kernel
theorem dX10_row_24 : decode cX10_row 24 = .ok (.iaload, 1) := by decide +kernel
theorem dX10_row_25 : decode cX10_row 25 = .ok (.goto 7, 3) := by decide +kernel
theorem dX10_row_28 : decode cX10_row 28 = .ok (.aload_n 0, 1) := by decide +kernel
theorem dX10_row_29 : decode cX10_row 29 = .ok (.invokevirtual 309, 3) := by decide +kernel
theorem dX10_row_32 : decode cX10_row 32 = .ok (.ireturn, 1) := by decide +kernel
