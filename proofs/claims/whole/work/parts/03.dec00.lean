theorem dX0_init_0 : decode cX0_init 0 = .ok (.aload_n 0, 1) := by decide +kernel
theorem dX0_init_1 : decode cX0_init 1 = .ok (.invokespecial 3, 3) := by decide +kernel
theorem dX0_init_4 : decode cX0_init 4 = .ok (.aload_n 0, 1) := by decide +kernel
theorem dX0_init_5 : decode cX0_init 5 = .ok (.sipush 384, 3) := by decide +kernel
theorem dX0_init_8 : decode cX0_init 8 = .ok (.newarray .long, 2) := by decide +kernel
theorem dX0_init_10 : decode cX0_init 10 = .ok (.putfield 9, 3) := by decide +kernel
theorem dX0_init_13 : decode cX0_init 13 = .ok (.aload_n 0, 1) := by decide +kernel
theorem dX0_init_14 : decode cX0_init 14 = .ok (.sipush 384, 3) := by decide +kernel
theorem dX0_init_17 : decode cX0_init 17 = .ok (.newarray .long, 2) := by decide +kernel
theorem dX0_init_19 : decode cX0_init 19 = .ok (.putfield 15, 3) := by decide +kernel
theorem dX0_init_22 : decode cX0_init 22 = .ok (.aload_n 0, 1) := by decide +kernel
theorem dX0_init_23 : decode cX0_init 23 = .ok (.bipush 6, 2) := by decide +kernel
theorem dX0_init_25 : decode cX0_init 25 = .ok (.newarray .int, 2) := by decide +kernel
theorem dX0_init_27 : decode cX0_init 27 = .ok (.putfield 18, 3) := by decide +kernel
theorem dX0_init_30 : decode cX0_init 30 = .ok (.aload_n 0, 1) := by decide +kernel
theorem dX0_init_31 : decode cX0_init 31 = .ok (.sipush 201, 3) := by decide +kernel
theorem dX0_init_34 : decode cX0_init 34 = .ok (.newarray .long, 2) := by decide +kernel
theorem dX0_init_36 : decode cX0_init 36 = .ok (.putfield 22, 3) := by decide +kernel
theorem dX0_init_39 : decode cX0_init 39 = .ok (.aload_n 0, 1) := by decide +kernel
theorem dX0_init_40 : decode cX0_init 40 = .ok (.sipush 202, 3) := by decide +kernel
theorem dX0_init_43 : decode cX0_init 43 = .ok (.newarray .long, 2) := by decide +kernel
theorem dX0_init_45 : decode cX0_init 45 = .ok (.putfield 25, 3) := by decide +kernel
theorem dX0_init_48 : decode cX0_init 48 = .ok (.aload_n 0, 1) := by decide +kernel
theorem dX0_init_49 : decode cX0_init 49 = .ok (.iconst 0, 1) := by decide +kernel
theorem dX0_init_50 : decode cX0_init 50 = .ok (.putfield 28, 3) := by decide +kernel
theorem dX0_init_53 : decode cX0_init 53 = .ok (.aload_n 0, 1) := by decide +kernel
theorem dX0_init_54 : decode cX0_init 54 = .ok (.iconst (-1), 1) := by decide +kernel
theorem dX0_init_55 : decode cX0_init 55 = .ok (.putfield 32, 3) := by decide +kernel
theorem dX0_init_58 : decode cX0_init 58 = .ok (.return_, 1) := by decide +kernel
theorem dX0_clear_0 : decode cX0_clear 0 = .ok (.aload_n 0, 1) := by decide +kernel
theorem dX0_clear_1 : decode cX0_clear 1 = .ok (.iconst 0, 1) := by decide +kernel
theorem dX0_clear_2 : decode cX0_clear 2 = .ok (.putfield 28, 3) := by decide +kernel
theorem dX0_clear_5 : decode cX0_clear 5 = .ok (.return_, 1) := by decide +kernel
theorem dX0_addDay_0 : decode cX0_addDay 0 = .ok (.aload_n 0, 1) := by decide +kernel
theorem dX0_addDay_1 : decode cX0_addDay 1 = .ok (.getfield 28, 3) := by decide +kernel
theorem dX0_addDay_4 : decode cX0_addDay 4 = .ok (.bipush 6, 2) := by decide +kernel
theorem dX0_addDay_6 : decode cX0_addDay 6 = .ok (.if_icmp .lt 4, 3) := by decide +kernel
theorem dX0_addDay_9 : decode cX0_addDay 9 = .ok (.return_, 1) := by decide +kernel
theorem dX0_addDay_10 : decode cX0_addDay 10 = .ok (.aload_n 0, 1) := by decide +kernel
theorem dX0_addDay_11 : decode cX0_addDay 11 = .ok (.aload_n 1, 1) := by decide +kernel
theorem dX0_addDay_12 : decode cX0_addDay 12 = .ok (.iload_n 2, 1) := by decide +kernel
theorem dX0_addDay_13 : decode cX0_addDay 13 = .ok (.invokevirtual 35, 3) := by decide +kernel
theorem dX0_addDay_16 : decode cX0_addDay 16 = .ok (.iconst 0, 1) := by decide +kernel
theorem dX0_addDay_17 : decode cX0_addDay 17 = .ok (.istore 4, 2) := by decide +kernel
theorem dX0_addDay_19 : decode cX0_addDay 19 = .ok (.iconst 0, 1) := by decide +kernel
theorem dX0_addDay_20 : decode cX0_addDay 20 = .ok (.istore 5, 2) := by decide +kernel
theorem dX0_addDay_22 : decode cX0_addDay 22 = .ok (.iload 5, 2) := by decide +kernel
theorem dX0_addDay_24 : decode cX0_addDay 24 = .ok (.sipush 200, 3) := by decide +kernel
theorem dX0_addDay_27 : decode cX0_addDay 27 = .ok (.if_icmp .gt 111, 3) := by decide +kernel
theorem dX0_addDay_30 : decode cX0_addDay 30 = .ok (.iload 4, 2) := by decide +kernel
theorem dX0_addDay_32 : decode cX0_addDay 32 = .ok (.bipush 64, 2) := by decide +kernel
theorem dX0_addDay_34 : decode cX0_addDay 34 = .ok (.if_icmp .ge 104, 3) := by decide +kernel
theorem dX0_addDay_37 : decode cX0_addDay 37 = .ok (.aload_n 0, 1) := by decide +kernel
theorem dX0_addDay_38 : decode cX0_addDay 38 = .ok (.getfield 22, 3) := by decide +kernel
theorem dX0_addDay_41 : decode cX0_addDay 41 = .ok (.iload 5, 2) := by decide +kernel
theorem dX0_addDay_43 : decode cX0_addDay 43 = .ok (.laload, 1) := by decide +kernel
theorem dX0_addDay_44 : decode cX0_addDay 44 = .ok (.lconst 0, 1) := by decide +kernel
theorem dX0_addDay_45 : decode cX0_addDay 45 = .ok (.lcmp, 1) := by decide +kernel
theorem dX0_addDay_46 : decode cX0_addDay 46 = .ok (.ifCond .eq 86, 3) := by decide +kernel
theorem dX0_addDay_49 : decode cX0_addDay 49 = .ok (.sipush 200, 3) := by decide +kernel
theorem dX0_addDay_52 : decode cX0_addDay 52 = .ok (.iload 5, 2) := by decide +kernel
theorem dX0_addDay_54 : decode cX0_addDay 54 = .ok (.iload_n 3, 1) := by decide +kernel
theorem dX0_addDay_55 : decode cX0_addDay 55 = .ok (.iadd, 1) := by decide +kernel
theorem dX0_addDay_56 : decode cX0_addDay 56 = .ok (.invokestatic 39, 3) := by decide +kernel
theorem dX0_addDay_59 : decode cX0_addDay 59 = .ok (.istore 6, 2) := by decide +kernel
theorem dX0_addDay_61 : decode cX0_addDay 61 = .ok (.iconst 0, 1) := by decide +kernel
theorem dX0_addDay_62 : decode cX0_addDay 62 = .ok (.iload 5, 2) := by decide +kernel
theorem dX0_addDay_64 : decode cX0_addDay 64 = .ok (.iload_n 3, 1) := by decide +kernel
theorem dX0_addDay_65 : decode cX0_addDay 65 = .ok (.isub, 1) := by decide +kernel
theorem dX0_addDay_66 : decode cX0_addDay 66 = .ok (.invokestatic 45, 3) := by decide +kernel
theorem dX0_addDay_69 : decode cX0_addDay 69 = .ok (.istore 7, 2) := by decide +kernel
theorem dX0_addDay_71 : decode cX0_addDay 71 = .ok (.aload_n 0, 1) := by decide +kernel
theorem dX0_addDay_72 : decode cX0_addDay 72 = .ok (.getfield 9, 3) := by decide +kernel
theorem dX0_addDay_75 : decode cX0_addDay 75 = .ok (.aload_n 0, 1) := by decide +kernel
theorem dX0_addDay_76 : decode cX0_addDay 76 = .ok (.getfield 28, 3) := by decide +kernel
theorem dX0_addDay_79 : decode cX0_addDay 79 = .ok (.bipush 64, 2) := by decide +kernel
theorem dX0_addDay_81 : decode cX0_addDay 81 = .ok (.imul, 1) := by decide +kernel
theorem dX0_addDay_82 : decode cX0_addDay 82 = .ok (.iload 4, 2) := by decide +kernel
theorem dX0_addDay_84 : decode cX0_addDay 84 = .ok (.iadd, 1) := by decide +kernel
theorem dX0_addDay_85 : decode cX0_addDay 85 = .ok (.aload_n 0, 1) := by decide +kernel
theorem dX0_addDay_86 : decode cX0_addDay 86 = .ok (.getfield 22, 3) := by decide +kernel
theorem dX0_addDay_89 : decode cX0_addDay 89 = .ok (.iload 5, 2) := by decide +kernel
theorem dX0_addDay_91 : decode cX0_addDay 91 = .ok (.laload, 1) := by decide +kernel
theorem dX0_addDay_92 : decode cX0_addDay 92 = .ok (.lastore, 1) := by decide +kernel
theorem dX0_addDay_93 : decode cX0_addDay 93 = .ok (.aload_n 0, 1) := by decide +kernel
theorem dX0_addDay_94 : decode cX0_addDay 94 = .ok (.getfield 15, 3) := by decide +kernel
theorem dX0_addDay_97 : decode cX0_addDay 97 = .ok (.aload_n 0, 1) := by decide +kernel
theorem dX0_addDay_98 : decode cX0_addDay 98 = .ok (.getfield 28, 3) := by decide +kernel
theorem dX0_addDay_101 : decode cX0_addDay 101 = .ok (.bipush 64, 2) := by decide +kernel
theorem dX0_addDay_103 : decode cX0_addDay 103 = .ok (.imul, 1) := by decide +kernel
theorem dX0_addDay_104 : decode cX0_addDay 104 = .ok (.iload 4, 2) := by decide +kernel
theorem dX0_addDay_106 : decode cX0_addDay 106 = .ok (.iadd, 1) := by decide +kernel
theorem dX0_addDay_107 : decode cX0_addDay 107 = .ok (.aload_n 0, 1) := by decide +kernel
theorem dX0_addDay_108 : decode cX0_addDay 108 = .ok (.getfield 25, 3) := by decide +kernel
theorem dX0_addDay_111 : decode cX0_addDay 111 = .ok (.iload 6, 2) := by decide +kernel
theorem dX0_addDay_113 : decode cX0_addDay 113 = .ok (.iconst 1, 1) := by decide +kernel
theorem dX0_addDay_114 : decode cX0_addDay 114 = .ok (.iadd, 1) := by decide +kernel
theorem dX0_addDay_115 : decode cX0_addDay 115 = .ok (.laload, 1) := by decide +kernel
theorem dX0_addDay_116 : decode cX0_addDay 116 = .ok (.aload_n 0, 1) := by decide +kernel
theorem dX0_addDay_117 : decode cX0_addDay 117 = .ok (.getfield 25, 3) := by decide +kernel
theorem dX0_addDay_120 : decode cX0_addDay 120 = .ok (.iload 7, 2) := by decide +kernel
theorem dX0_addDay_122 : decode cX0_addDay 122 = .ok (.laload, 1) := by decide +kernel
theorem dX0_addDay_123 : decode cX0_addDay 123 = .ok (.ldc2_w 48, 3) := by decide +kernel
theorem dX0_addDay_126 : decode cX0_addDay 126 = .ok (.lxor, 1) := by decide +kernel
theorem dX0_addDay_127 : decode cX0_addDay 127 = .ok (.land, 1) := by decide +kernel
theorem dX0_addDay_128 : decode cX0_addDay 128 = .ok (.lastore, 1) := by decide +kernel
theorem dX0_addDay_129 : decode cX0_addDay 129 = .ok (.iinc 4 1, 3) := by decide +kernel
theorem dX0_addDay_132 : decode cX0_addDay 132 = .ok (.iinc 5 1, 3) := by decide +kernel
theorem dX0_addDay_135 : decode cX0_addDay 135 = .ok (.goto (-113), 3) := by decide +kernel
theorem dX0_addDay_138 : decode cX0_addDay 138 = .ok (.aload_n 0, 1) := by decide +kernel
theorem dX0_addDay_139 : decode cX0_addDay 139 = .ok (.getfield 18, 3) := by decide +kernel
theorem dX0_addDay_142 : decode cX0_addDay 142 = .ok (.aload_n 0, 1) := by decide +kernel
theorem dX0_addDay_143 : decode cX0_addDay 143 = .ok (.getfield 28, 3) := by decide +kernel
theorem dX0_addDay_146 : decode cX0_addDay 146 = .ok (.iload 4, 2) := by decide +kernel
theorem dX0_addDay_148 : decode cX0_addDay 148 = .ok (.iastore, 1) := by decide +kernel
theorem dX0_addDay_149 : decode cX0_addDay 149 = .ok (.aload_n 0, 1) := by decide +kernel
theorem dX0_addDay_150 : decode cX0_addDay 150 = .ok (.dup, 1) := by decide +kernel
theorem dX0_addDay_151 : decode cX0_addDay 151 = .ok (.getfield 28, 3) := by decide +kernel
theorem dX0_addDay_154 : decode cX0_addDay 154 = .ok (.iconst 1, 1) := by decide +kernel
theorem dX0_addDay_155 : decode cX0_addDay 155 = .ok (.iadd, 1) := by decide +kernel
theorem dX0_addDay_156 : decode cX0_addDay 156 = .ok (.putfield 28, 3) := by decide +kernel
theorem dX0_addDay_159 : decode cX0_addDay 159 = .ok (.return_, 1) := by decide +kernel
theorem dX0_sortByHole_0 : decode cX0_sortByHole 0 = .ok (.aload_n 1, 1) := by decide +kernel
theorem dX0_sortByHole_1 : decode cX0_sortByHole 1 = .ok (.iload_n 2, 1) := by decide +kernel
theorem dX0_sortByHole_2 : decode cX0_sortByHole 2 = .ok (.invokevirtual 50, 3) := by decide +kernel
theorem dX0_sortByHole_5 : decode cX0_sortByHole 5 = .ok (.aload_n 0, 1) := by decide +kernel
theorem dX0_sortByHole_6 : decode cX0_sortByHole 6 = .ok (.getfield 22, 3) := by decide +kernel
theorem dX0_sortByHole_9 : decode cX0_sortByHole 9 = .ok (.lconst 0, 1) := by decide +kernel
theorem dX0_sortByHole_10 : decode cX0_sortByHole 10 = .ok (.invokestatic 56, 3) := by decide +kernel
theorem dX0_sortByHole_13 : decode cX0_sortByHole 13 = .ok (.iconst 0, 1) := by decide +kernel
theorem dX0_sortByHole_14 : decode cX0_sortByHole 14 = .ok (.istore_n 3, 1) := by decide +kernel
theorem dX0_sortByHole_15 : decode cX0_sortByHole 15 = .ok (.iload_n 3, 1) := by decide +kernel
theorem dX0_sortByHole_16 : decode cX0_sortByHole 16 = .ok (.bipush 64, 2) := by decide +kernel
theorem dX0_sortByHole_18 : decode cX0_sortByHole 18 = .ok (.if_icmp .ge 36, 3) := by decide +kernel
theorem dX0_sortByHole_21 : decode cX0_sortByHole 21 = .ok (.aload_n 1, 1) := by decide +kernel
theorem dX0_sortByHole_22 : decode cX0_sortByHole 22 = .ok (.getfield 62, 3) := by decide +kernel
theorem dX0_sortByHole_25 : decode cX0_sortByHole 25 = .ok (.iload_n 3, 1) := by decide +kernel
theorem dX0_sortByHole_26 : decode cX0_sortByHole 26 = .ok (.invokestatic 66, 3) := by decide +kernel
theorem dX0_sortByHole_29 : decode cX0_sortByHole 29 = .ok (.ifCond .eq 19, 3) := by decide +kernel
theorem dX0_sortByHole_32 : decode cX0_sortByHole 32 = .ok (.aload_n 0, 1) := by decide +kernel
theorem dX0_sortByHole_33 : decode cX0_sortByHole 33 = .ok (.getfield 22, 3) := by decide +kernel
theorem dX0_sortByHole_36 : decode cX0_sortByHole 36 = .ok (.aload_n 1, 1) := by decide +kernel
theorem dX0_sortByHole_37 : decode cX0_sortByHole 37 = .ok (.iload_n 3, 1) := by decide +kernel
theorem dX0_sortByHole_38 : decode cX0_sortByHole 38 = .ok (.invokevirtual 70, 3) := by decide +kernel
theorem dX0_sortByHole_41 : decode cX0_sortByHole 41 = .ok (.dup2, 1) := by decide +kernel
theorem dX0_sortByHole_42 : decode cX0_sortByHole 42 = .ok (.laload, 1) := by decide +kernel
theorem dX0_sortByHole_43 : decode cX0_sortByHole 43 = .ok (.lconst 1, 1) := by decide +kernel
theorem dX0_sortByHole_44 : decode cX0_sortByHole 44 = .ok (.iload_n 3, 1) := by decide +kernel
theorem dX0_sortByHole_45 : decode cX0_sortByHole 45 = .ok (.lshl, 1) := by decide +kernel
theorem dX0_sortByHole_46 : decode cX0_sortByHole 46 = .ok (.lor, 1) := by decide +kernel
theorem dX0_sortByHole_47 : decode cX0_sortByHole 47 = .ok (.lastore, 1) := by decide +kernel
theorem dX0_sortByHole_48 : decode cX0_sortByHole 48 = .ok (.iinc 3 1, 3) := by decide +kernel
theorem dX0_sortByHole_51 : decode cX0_sortByHole 51 = .ok (.goto (-36), 3) := by decide +kernel
theorem dX0_sortByHole_54 : decode cX0_sortByHole 54 = .ok (.iconst 0, 1) := by decide +kernel
theorem dX0_sortByHole_55 : decode cX0_sortByHole 55 = .ok (.istore_n 3, 1) := by decide +kernel
theorem dX0_sortByHole_56 : decode cX0_sortByHole 56 = .ok (.iload_n 3, 1) := by decide +kernel
theorem dX0_sortByHole_57 : decode cX0_sortByHole 57 = .ok (.sipush 200, 3) := by decide +kernel
theorem dX0_sortByHole_60 : decode cX0_sortByHole 60 = .ok (.if_icmp .gt 30, 3) := by decide +kernel
theorem dX0_sortByHole_63 : decode cX0_sortByHole 63 = .ok (.aload_n 0, 1) := by decide +kernel
theorem dX0_sortByHole_64 : decode cX0_sortByHole 64 = .ok (.getfield 25, 3) := by decide +kernel
theorem dX0_sortByHole_67 : decode cX0_sortByHole 67 = .ok (.iload_n 3, 1) := by decide +kernel
theorem dX0_sortByHole_68 : decode cX0_sortByHole 68 = .ok (.iconst 1, 1) := by decide +kernel
theorem dX0_sortByHole_69 : decode cX0_sortByHole 69 = .ok (.iadd, 1) := by decide +kernel
theorem dX0_sortByHole_70 : decode cX0_sortByHole 70 = .ok (.aload_n 0, 1) := by decide +kernel
theorem dX0_sortByHole_71 : decode cX0_sortByHole 71 = .ok (.getfield 25, 3) := by decide +kernel
theorem dX0_sortByHole_74 : decode cX0_sortByHole 74 = .ok (.iload_n 3, 1) := by decide +kernel
theorem dX0_sortByHole_75 : decode cX0_sortByHole 75 = .ok (.laload, 1) := by decide +kernel
theorem dX0_sortByHole_76 : decode cX0_sortByHole 76 = .ok (.aload_n 0, 1) := by decide +kernel
theorem dX0_sortByHole_77 : decode cX0_sortByHole 77 = .ok (.getfield 22, 3) := by decide +kernel
theorem dX0_sortByHole_80 : decode cX0_sortByHole 80 = .ok (.iload_n 3, 1) := by decide +kernel
theorem dX0_sortByHole_81 : decode cX0_sortByHole 81 = .ok (.laload, 1) := by decide +kernel
theorem dX0_sortByHole_82 : decode cX0_sortByHole 82 = .ok (.lor, 1) := by decide +kernel
theorem dX0_sortByHole_83 : decode cX0_sortByHole 83 = .ok (.lastore, 1) := by decide +kernel
theorem dX0_sortByHole_84 : decode cX0_sortByHole 84 = .ok (.iinc 3 1, 3) := by decide +kernel
theorem dX0_sortByHole_87 : decode cX0_sortByHole 87 = .ok (.goto (-31), 3) := by decide +kernel
theorem dX0_sortByHole_90 : decode cX0_sortByHole 90 = .ok (.return_, 1) := by decide +kernel
theorem dX0_mostLeft_0 : decode cX0_mostLeft 0 = .ok (.aload_n 0, 1) := by decide +kernel
theorem dX0_mostLeft_1 : decode cX0_mostLeft 1 = .ok (.invokevirtual 74, 3) := by decide +kernel
theorem dX0_mostLeft_4 : decode cX0_mostLeft 4 = .ok (.aload_n 0, 1) := by decide +kernel
theorem dX0_mostLeft_5 : decode cX0_mostLeft 5 = .ok (.aload_n 1, 1) := by decide +kernel
theorem dX0_mostLeft_6 : decode cX0_mostLeft 6 = .ok (.iload_n 2, 1) := by decide +kernel
theorem dX0_mostLeft_7 : decode cX0_mostLeft 7 = .ok (.iload_n 3, 1) := by decide +kernel
theorem dX0_mostLeft_8 : decode cX0_mostLeft 8 = .ok (.invokevirtual 77, 3) := by decide +kernel
theorem dX0_mostLeft_11 : decode cX0_mostLeft 11 = .ok (.iconst 0, 1) := by decide +kernel
theorem dX0_mostLeft_12 : decode cX0_mostLeft 12 = .ok (.istore 4, 2) := by decide +kernel
theorem dX0_mostLeft_14 : decode cX0_mostLeft 14 = .ok (.iconst 0, 1) := by decide +kernel
theorem dX0_mostLeft_15 : decode cX0_mostLeft 15 = .ok (.istore 5, 2) := by decide +kernel
theorem dX0_mostLeft_17 : decode cX0_mostLeft 17 = .ok (.iload 5, 2) := by decide +kernel
theorem dX0_mostLeft_19 : decode cX0_mostLeft 19 = .ok (.aload_n 0, 1) := by decide +kernel
theorem dX0_mostLeft_20 : decode cX0_mostLeft 20 = .ok (.getfield 18, 3) := by decide +kernel
theorem dX0_mostLeft_23 : decode cX0_mostLeft 23 = .ok (.iconst 0, 1) := by decide +kernel
theorem dX0_mostLeft_24 : decode cX0_mostLeft 24 = .ok (.iaload, 1) := by decide +kernel
theorem dX0_mostLeft_25 : decode cX0_mostLeft 25 = .ok (.if_icmp .ge 26, 3) := by decide +kernel
theorem dX0_mostLeft_28 : decode cX0_mostLeft 28 = .ok (.iload 4, 2) := by decide +kernel
theorem dX0_mostLeft_30 : decode cX0_mostLeft 30 = .ok (.aload_n 0, 1) := by decide +kernel
theorem dX0_mostLeft_31 : decode cX0_mostLeft 31 = .ok (.getfield 15, 3) := by decide +kernel
theorem dX0_mostLeft_34 : decode cX0_mostLeft 34 = .ok (.iload 5, 2) := by decide +kernel
theorem dX0_mostLeft_36 : decode cX0_mostLeft 36 = .ok (.laload, 1) := by decide +kernel
theorem dX0_mostLeft_37 : decode cX0_mostLeft 37 = .ok (.invokestatic 81, 3) := by decide +kernel
theorem dX0_mostLeft_40 : decode cX0_mostLeft 40 = .ok (.invokestatic 45, 3) := by decide +kernel
theorem dX0_mostLeft_43 : decode cX0_mostLeft 43 = .ok (.istore 4, 2) := by decide +kernel
theorem dX0_mostLeft_45 : decode cX0_mostLeft 45 = .ok (.iinc 5 1, 3) := by decide +kernel
theorem dX0_mostLeft_48 : decode cX0_mostLeft 48 = .ok (.goto (-31), 3) := by decide +kernel
theorem dX0_mostLeft_51 : decode cX0_mostLeft 51 = .ok (.iload 4, 2) := by decide +kernel
theorem dX0_mostLeft_53 : decode cX0_mostLeft 53 = .ok (.ireturn, 1) := by decide +kernel
theorem dX0_planFrom_0 : decode cX0_planFrom 0 = .ok (.lload_n 1, 1) := by decide +kernel
theorem dX0_planFrom_1 : decode cX0_planFrom 1 = .ok (.invokestatic 81, 3) := by decide +kernel
theorem dX0_planFrom_4 : decode cX0_planFrom 4 = .ok (.istore 4, 2) := by decide +kernel
theorem dX0_planFrom_6 : decode cX0_planFrom 6 = .ok (.aload_n 0, 1) := by decide +kernel
theorem dX0_planFrom_7 : decode cX0_planFrom 7 = .ok (.iconst (-1), 1) := by decide +kernel
theorem dX0_planFrom_8 : decode cX0_planFrom 8 = .ok (.putfield 32, 3) := by decide +kernel
theorem dX0_planFrom_11 : decode cX0_planFrom 11 = .ok (.iconst 0, 1) := by decide +kernel
theorem dX0_planFrom_12 : decode cX0_planFrom 12 = .ok (.istore 5, 2) := by decide +kernel
theorem dX0_planFrom_14 : decode cX0_planFrom 14 = .ok (.iload 5, 2) := by decide +kernel
theorem dX0_planFrom_16 : decode cX0_planFrom 16 = .ok (.aload_n 0, 1) := by decide +kernel
theorem dX0_planFrom_17 : decode cX0_planFrom 17 = .ok (.getfield 28, 3) := by decide +kernel
theorem dX0_planFrom_20 : decode cX0_planFrom 20 = .ok (.if_icmp .ge 45, 3) := by decide +kernel
theorem dX0_planFrom_23 : decode cX0_planFrom 23 = .ok (.iload 4, 2) := by decide +kernel
theorem dX0_planFrom_25 : decode cX0_planFrom 25 = .ok (.iconst 1, 1) := by decide +kernel
theorem dX0_planFrom_26 : decode cX0_planFrom 26 = .ok (.if_icmp .le 39, 3) := by decide +kernel
theorem dX0_planFrom_29 : decode cX0_planFrom 29 = .ok (.aload_n 0, 1) := by decide +kernel
theorem dX0_planFrom_30 : decode cX0_planFrom 30 = .ok (.lload_n 1, 1) := by decide +kernel
theorem dX0_planFrom_31 : decode cX0_planFrom 31 = .ok (.iload 5, 2) := by decide +kernel
theorem dX0_planFrom_33 : decode cX0_planFrom 33 = .ok (.iload_n 3, 1) := by decide +kernel
theorem dX0_planFrom_34 : decode cX0_planFrom 34 = .ok (.iconst 1, 1) := by decide +kernel
theorem dX0_planFrom_35 : decode cX0_planFrom 35 = .ok (.iload 4, 2) := by decide +kernel
theorem dX0_planFrom_37 : decode cX0_planFrom 37 = .ok (.invokevirtual 87, 3) := by decide +kernel
theorem dX0_planFrom_40 : decode cX0_planFrom 40 = .ok (.istore 6, 2) := by decide +kernel
theorem dX0_planFrom_42 : decode cX0_planFrom 42 = .ok (.iload 6, 2) := by decide +kernel
theorem dX0_planFrom_44 : decode cX0_planFrom 44 = .ok (.iload 4, 2) := by decide +kernel
theorem dX0_planFrom_46 : decode cX0_planFrom 46 = .ok (.if_icmp .ge 13, 3) := by decide +kernel
theorem dX0_planFrom_49 : decode cX0_planFrom 49 = .ok (.iload 6, 2) := by decide +kernel
theorem dX0_planFrom_51 : decode cX0_planFrom 51 = .ok (.istore 4, 2) := by decide +kernel
theorem dX0_planFrom_53 : decode cX0_planFrom 53 = .ok (.aload_n 0, 1) := by decide +kernel
theorem dX0_planFrom_54 : decode cX0_planFrom 54 = .ok (.iload 5, 2) := by decide +kernel
theorem dX0_planFrom_56 : decode cX0_planFrom 56 = .ok (.putfield 32, 3) := by decide +kernel
theorem dX0_planFrom_59 : decode cX0_planFrom 59 = .ok (.iinc 5 1, 3) := by decide +kernel
theorem dX0_planFrom_62 : decode cX0_planFrom 62 = .ok (.goto (-48), 3) := by decide +kernel
theorem dX0_planFrom_65 : decode cX0_planFrom 65 = .ok (.iload 4, 2) := by decide +kernel
theorem dX0_planFrom_67 : decode cX0_planFrom 67 = .ok (.ireturn, 1) := by decide +kernel
theorem dX0_leastWorst_0 : decode cX0_leastWorst 0 = .ok (.iload 6, 2) := by decide +kernel
theorem dX0_leastWorst_2 : decode cX0_leastWorst 2 = .ok (.lload_n 1, 1) := by decide +kernel
theorem dX0_leastWorst_3 : decode cX0_leastWorst 3 = .ok (.invokestatic 81, 3) := by decide +kernel
theorem dX0_leastWorst_6 : decode cX0_leastWorst 6 = .ok (.invokestatic 39, 3) := by decide +kernel
theorem dX0_leastWorst_9 : decode cX0_leastWorst 9 = .ok (.istore 7, 2) := by decide +kernel
theorem dX0_leastWorst_11 : decode cX0_leastWorst 11 = .ok (.iload 4, 2) := by decide +kernel
theorem dX0_leastWorst_13 : decode cX0_leastWorst 13 = .ok (.ifCond .gt 6, 3) := by decide +kernel
theorem dX0_leastWorst_16 : decode cX0_leastWorst 16 = .ok (.iload 7, 2) := by decide +kernel
theorem dX0_leastWorst_18 : decode cX0_leastWorst 18 = .ok (.ireturn, 1) := by decide +kernel
theorem dX0_leastWorst_19 : decode cX0_leastWorst 19 = .ok (.iload_n 3, 1) := by decide +kernel
theorem dX0_leastWorst_20 : decode cX0_leastWorst 20 = .ok (.istore 8, 2) := by decide +kernel
theorem dX0_leastWorst_22 : decode cX0_leastWorst 22 = .ok (.iload 8, 2) := by decide +kernel
theorem dX0_leastWorst_24 : decode cX0_leastWorst 24 = .ok (.aload_n 0, 1) := by decide +kernel
theorem dX0_leastWorst_25 : decode cX0_leastWorst 25 = .ok (.getfield 28, 3) := by decide +kernel
theorem dX0_leastWorst_28 : decode cX0_leastWorst 28 = .ok (.if_icmp .ge 36, 3) := by decide +kernel
theorem dX0_leastWorst_31 : decode cX0_leastWorst 31 = .ok (.iload 7, 2) := by decide +kernel
theorem dX0_leastWorst_33 : decode cX0_leastWorst 33 = .ok (.iload 5, 2) := by decide +kernel
theorem dX0_leastWorst_35 : decode cX0_leastWorst 35 = .ok (.if_icmp .le 29, 3) := by decide +kernel
theorem dX0_leastWorst_38 : decode cX0_leastWorst 38 = .ok (.iload 7, 2) := by decide +kernel
theorem dX0_leastWorst_40 : decode cX0_leastWorst 40 = .ok (.aload_n 0, 1) := by decide +kernel
theorem dX0_leastWorst_41 : decode cX0_leastWorst 41 = .ok (.lload_n 1, 1) := by decide +kernel
theorem dX0_leastWorst_42 : decode cX0_leastWorst 42 = .ok (.iload 8, 2) := by decide +kernel
theorem dX0_leastWorst_44 : decode cX0_leastWorst 44 = .ok (.iload 4, 2) := by decide +kernel
theorem dX0_leastWorst_46 : decode cX0_leastWorst 46 = .ok (.iload 5, 2) := by decide +kernel
theorem dX0_leastWorst_48 : decode cX0_leastWorst 48 = .ok (.iload 7, 2) := by decide +kernel
theorem dX0_leastWorst_50 : decode cX0_leastWorst 50 = .ok (.invokevirtual 87, 3) := by decide +kernel
theorem dX0_leastWorst_53 : decode cX0_leastWorst 53 = .ok (.invokestatic 39, 3) := by decide +kernel
theorem dX0_leastWorst_56 : decode cX0_leastWorst 56 = .ok (.istore 7, 2) := by decide +kernel
theorem dX0_leastWorst_58 : decode cX0_leastWorst 58 = .ok (.iinc 8 1, 3) := by decide +kernel
theorem dX0_leastWorst_61 : decode cX0_leastWorst 61 = .ok (.goto (-39), 3) := by decide +kernel
theorem dX0_leastWorst_64 : decode cX0_leastWorst 64 = .ok (.iload 7, 2) := by decide +kernel
theorem dX0_leastWorst_66 : decode cX0_leastWorst 66 = .ok (.ireturn, 1) := by decide +kernel
theorem dX0_worstBehind_0 : decode cX0_worstBehind 0 = .ok (.iload 5, 2) := by decide +kernel
theorem dX0_worstBehind_2 : decode cX0_worstBehind 2 = .ok (.istore 7, 2) := by decide +kernel
theorem dX0_worstBehind_4 : decode cX0_worstBehind 4 = .ok (.lconst 0, 1) := by decide +kernel
theorem dX0_worstBehind_5 : decode cX0_worstBehind 5 = .ok (.lstore 8, 2) := by decide +kernel
theorem dX0_worstBehind_7 : decode cX0_worstBehind 7 = .ok (.iload_n 3, 1) := by decide +kernel
theorem dX0_worstBehind_8 : decode cX0_worstBehind 8 = .ok (.bipush 64, 2) := by decide +kernel
theorem dX0_worstBehind_10 : decode cX0_worstBehind 10 = .ok (.imul, 1) := by decide +kernel
theorem dX0_worstBehind_11 : decode cX0_worstBehind 11 = .ok (.istore 10, 2) := by decide +kernel
theorem dX0_worstBehind_13 : decode cX0_worstBehind 13 = .ok (.iload 10, 2) := by decide +kernel
theorem dX0_worstBehind_15 : decode cX0_worstBehind 15 = .ok (.iload_n 3, 1) := by decide +kernel
theorem dX0_worstBehind_16 : decode cX0_worstBehind 16 = .ok (.bipush 64, 2) := by decide +kernel
theorem dX0_worstBehind_18 : decode cX0_worstBehind 18 = .ok (.imul, 1) := by decide +kernel
theorem dX0_worstBehind_19 : decode cX0_worstBehind 19 = .ok (.aload_n 0, 1) := by decide +kernel
theorem dX0_worstBehind_20 : decode cX0_worstBehind 20 = .ok (.getfield 18, 3) := by decide +kernel
theorem dX0_worstBehind_23 : decode cX0_worstBehind 23 = .ok (.iload_n 3, 1) := by decide +kernel
theorem dX0_worstBehind_24 : decode cX0_worstBehind 24 = .ok (.iaload, 1) := by decide +kernel
theorem dX0_worstBehind_25 : decode cX0_worstBehind 25 = .ok (.iadd, 1) := by decide +kernel
theorem dX0_worstBehind_26 : decode cX0_worstBehind 26 = .ok (.if_icmp .ge 87, 3) := by decide +kernel
theorem dX0_worstBehind_29 : decode cX0_worstBehind 29 = .ok (.iload 7, 2) := by decide +kernel
theorem dX0_worstBehind_31 : decode cX0_worstBehind 31 = .ok (.iload 6, 2) := by decide +kernel
theorem dX0_worstBehind_33 : decode cX0_worstBehind 33 = .ok (.if_icmp .ge 80, 3) := by decide +kernel
theorem dX0_worstBehind_36 : decode cX0_worstBehind 36 = .ok (.lload_n 1, 1) := by decide +kernel
theorem dX0_worstBehind_37 : decode cX0_worstBehind 37 = .ok (.aload_n 0, 1) := by decide +kernel
theorem dX0_worstBehind_38 : decode cX0_worstBehind 38 = .ok (.getfield 9, 3) := by decide +kernel
theorem dX0_worstBehind_41 : decode cX0_worstBehind 41 = .ok (.iload 10, 2) := by decide +kernel
theorem dX0_worstBehind_43 : decode cX0_worstBehind 43 = .ok (.laload, 1) := by decide +kernel
theorem dX0_worstBehind_44 : decode cX0_worstBehind 44 = .ok (.land, 1) := by decide +kernel
theorem dX0_worstBehind_45 : decode cX0_worstBehind 45 = .ok (.lconst 0, 1) := by decide +kernel
theorem dX0_worstBehind_46 : decode cX0_worstBehind 46 = .ok (.lcmp, 1) := by decide +kernel
theorem dX0_worstBehind_47 : decode cX0_worstBehind 47 = .ok (.ifCond .ne 7, 3) := by decide +kernel
theorem dX0_worstBehind_50 : decode cX0_worstBehind 50 = .ok (.lconst 0, 1) := by decide +kernel
theorem dX0_worstBehind_51 : decode cX0_worstBehind 51 = .ok (.goto 12, 3) := by decide +kernel
theorem dX0_worstBehind_54 : decode cX0_worstBehind 54 = .ok (.lload_n 1, 1) := by decide +kernel
theorem dX0_worstBehind_55 : decode cX0_worstBehind 55 = .ok (.aload_n 0, 1) := by decide +kernel
theorem dX0_worstBehind_56 : decode cX0_worstBehind 56 = .ok (.getfield 15, 3) := by decide +kernel
theorem dX0_worstBehind_59 : decode cX0_worstBehind 59 = .ok (.iload 10, 2) := by decide +kernel
theorem dX0_worstBehind_61 : decode cX0_worstBehind 61 = .ok (.laload, 1) := by decide +kernel
theorem dX0_worstBehind_62 : decode cX0_worstBehind 62 = .ok (.land, 1) := by decide +kernel
theorem dX0_worstBehind_63 : decode cX0_worstBehind 63 = .ok (.lstore 11, 2) := by decide +kernel
theorem dX0_worstBehind_65 : decode cX0_worstBehind 65 = .ok (.lload 11, 2) := by decide +kernel
theorem dX0_worstBehind_67 : decode cX0_worstBehind 67 = .ok (.lload 8, 2) := by decide +kernel
theorem dX0_worstBehind_69 : decode cX0_worstBehind 69 = .ok (.ldc2_w 48, 3) := by decide +kernel
theorem dX0_worstBehind_72 : decode cX0_worstBehind 72 = .ok (.lxor, 1) := by decide +kernel
theorem dX0_worstBehind_73 : decode cX0_worstBehind 73 = .ok (.land, 1) := by decide +kernel
theorem dX0_worstBehind_74 : decode cX0_worstBehind 74 = .ok (.lconst 0, 1) := by decide +kernel
theorem dX0_worstBehind_75 : decode cX0_worstBehind 75 = .ok (.lcmp, 1) := by decide +kernel
theorem dX0_worstBehind_76 : decode cX0_worstBehind 76 = .ok (.ifCond .eq 31, 3) := by decide +kernel
theorem dX0_worstBehind_79 : decode cX0_worstBehind 79 = .ok (.iload 7, 2) := by decide +kernel
theorem dX0_worstBehind_81 : decode cX0_worstBehind 81 = .ok (.aload_n 0, 1) := by decide +kernel
theorem dX0_worstBehind_82 : decode cX0_worstBehind 82 = .ok (.lload 11, 2) := by decide +kernel
theorem dX0_worstBehind_84 : decode cX0_worstBehind 84 = .ok (.iload_n 3, 1) := by decide +kernel
theorem dX0_worstBehind_85 : decode cX0_worstBehind 85 = .ok (.iconst 1, 1) := by decide +kernel
theorem dX0_worstBehind_86 : decode cX0_worstBehind 86 = .ok (.iadd, 1) := by decide +kernel
theorem dX0_worstBehind_87 : decode cX0_worstBehind 87 = .ok (.iload 4, 2) := by decide +kernel
theorem dX0_worstBehind_89 : decode cX0_worstBehind 89 = .ok (.iconst 1, 1) := by decide +kernel
theorem dX0_worstBehind_90 : decode cX0_worstBehind 90 = .ok (.isub, 1) := by decide +kernel
theorem dX0_worstBehind_91 : decode cX0_worstBehind 91 = .ok (.iload 7, 2) := by decide +kernel
theorem dX0_worstBehind_93 : decode cX0_worstBehind 93 = .ok (.iload 6, 2) := by decide +kernel
theorem dX0_worstBehind_95 : decode cX0_worstBehind 95 = .ok (.invokevirtual 91, 3) := by decide +kernel
theorem dX0_worstBehind_98 : decode cX0_worstBehind 98 = .ok (.invokestatic 45, 3) := by decide +kernel
theorem dX0_worstBehind_101 : decode cX0_worstBehind 101 = .ok (.istore 7, 2) := by decide +kernel
theorem dX0_worstBehind_103 : decode cX0_worstBehind 103 = .ok (.lload 11, 2) := by decide +kernel
theorem dX0_worstBehind_105 : decode cX0_worstBehind 105 = .ok (.lstore 8, 2) := by decide +kernel
theorem dX0_worstBehind_107 : decode cX0_worstBehind 107 = .ok (.iinc 10 1, 3) := by decide +kernel
theorem dX0_worstBehind_110 : decode cX0_worstBehind 110 = .ok (.goto (-97), 3) := by decide +kernel
theorem dX0_worstBehind_113 : decode cX0_worstBehind 113 = .ok (.iload 7, 2) := by decide +kernel
theorem dX0_worstBehind_115 : decode cX0_worstBehind 115 = .ok (.ireturn, 1) := by decide +kernel
theorem dX0_fewestToSettle_0 : decode cX0_fewestToSettle 0 = .ok (.iconst 0, 1) := by decide +kernel
theorem dX0_fewestToSettle_1 : decode cX0_fewestToSettle 1 = .ok (.istore 5, 2) := by decide +kernel
theorem dX0_fewestToSettle_3 : decode cX0_fewestToSettle 3 = .ok (.iload 5, 2) := by decide +kernel
theorem dX0_fewestToSettle_5 : decode cX0_fewestToSettle 5 = .ok (.iconst 3, 1) := by decide +kernel
theorem dX0_fewestToSettle_6 : decode cX0_fewestToSettle 6 = .ok (.if_icmp .gt 24, 3) := by decide +kernel
theorem dX0_fewestToSettle_9 : decode cX0_fewestToSettle 9 = .ok (.aload_n 0, 1) := by decide +kernel
theorem dX0_fewestToSettle_10 : decode cX0_fewestToSettle 10 = .ok (.lload_n 1, 1) := by decide +kernel
theorem dX0_fewestToSettle_11 : decode cX0_fewestToSettle 11 = .ok (.lload_n 3, 1) := by decide +kernel
theorem dX0_fewestToSettle_12 : decode cX0_fewestToSettle 12 = .ok (.iconst 0, 1) := by decide +kernel
theorem dX0_fewestToSettle_13 : decode cX0_fewestToSettle 13 = .ok (.iload 5, 2) := by decide +kernel
theorem dX0_fewestToSettle_15 : decode cX0_fewestToSettle 15 = .ok (.invokevirtual 94, 3) := by decide +kernel
theorem dX0_fewestToSettle_18 : decode cX0_fewestToSettle 18 = .ok (.ifCond .eq 6, 3) := by decide +kernel
theorem dX0_fewestToSettle_21 : decode cX0_fewestToSettle 21 = .ok (.iload 5, 2) := by decide +kernel
theorem dX0_fewestToSettle_23 : decode cX0_fewestToSettle 23 = .ok (.ireturn, 1) := by decide +kernel
theorem dX0_fewestToSettle_24 : decode cX0_fewestToSettle 24 = .ok (.iinc 5 1, 3) := by decide +kernel
theorem dX0_fewestToSettle_27 : decode cX0_fewestToSettle 27 = .ok (.goto (-24), 3) := by decide +kernel
theorem dX0_fewestToSettle_30 : decode cX0_fewestToSettle 30 = .ok (.bipush (-2), 2) := by decide +kernel
theorem dX0_fewestToSettle_32 : decode cX0_fewestToSettle 32 = .ok (.ireturn, 1) := by decide +kernel
theorem dX0_canSettle_0 : decode cX0_canSettle 0 = .ok (.lload_n 1, 1) := by decide +kernel
theorem dX0_canSettle_1 : decode cX0_canSettle 1 = .ok (.lload_n 3, 1) := by decide +kernel
theorem dX0_canSettle_2 : decode cX0_canSettle 2 = .ok (.land, 1) := by decide +kernel
theorem dX0_canSettle_3 : decode cX0_canSettle 3 = .ok (.lconst 0, 1) := by decide +kernel
theorem dX0_canSettle_4 : decode cX0_canSettle 4 = .ok (.lcmp, 1) := by decide +kernel
theorem dX0_canSettle_5 : decode cX0_canSettle 5 = .ok (.ifCond .eq 15, 3) := by decide +kernel
theorem dX0_canSettle_8 : decode cX0_canSettle 8 = .ok (.lload_n 1, 1) := by decide +kernel
theorem dX0_canSettle_9 : decode cX0_canSettle 9 = .ok (.lload_n 3, 1) := by decide +kernel
theorem dX0_canSettle_10 : decode cX0_canSettle 10 = .ok (.ldc2_w 48, 3) := by decide +kernel
theorem dX0_canSettle_13 : decode cX0_canSettle 13 = .ok (.lxor, 1) := by decide +kernel
theorem dX0_canSettle_14 : decode cX0_canSettle 14 = .ok (.land, 1) := by decide +kernel
theorem dX0_canSettle_15 : decode cX0_canSettle 15 = .ok (.lconst 0, 1) := by decide +kernel
theorem dX0_canSettle_16 : decode cX0_canSettle 16 = .ok (.lcmp, 1) := by decide +kernel
theorem dX0_canSettle_17 : decode cX0_canSettle 17 = .ok (.ifCond .ne 5, 3) := by decide +kernel
theorem dX0_canSettle_20 : decode cX0_canSettle 20 = .ok (.iconst 1, 1) := by decide +kernel
theorem dX0_canSettle_21 : decode cX0_canSettle 21 = .ok (.ireturn, 1) := by decide +kernel
theorem dX0_canSettle_22 : decode cX0_canSettle 22 = .ok (.iload 6, 2) := by decide +kernel
theorem dX0_canSettle_24 : decode cX0_canSettle 24 = .ok (.ifCond .gt 5, 3) := by decide +kernel
theorem dX0_canSettle_27 : decode cX0_canSettle 27 = .ok (.iconst 0, 1) := by decide +kernel
theorem dX0_canSettle_28 : decode cX0_canSettle 28 = .ok (.ireturn, 1) := by decide +kernel
theorem dX0_canSettle_29 : decode cX0_canSettle 29 = .ok (.iload 5, 2) := by decide +kernel
theorem dX0_canSettle_31 : decode cX0_canSettle 31 = .ok (.istore 7, 2) := by decide +kernel
theorem dX0_canSettle_33 : decode cX0_canSettle 33 = .ok (.iload 7, 2) := by decide +kernel
theorem dX0_canSettle_35 : decode cX0_canSettle 35 = .ok (.aload_n 0, 1) := by decide +kernel
theorem dX0_canSettle_36 : decode cX0_canSettle 36 = .ok (.getfield 28, 3) := by decide +kernel
theorem dX0_canSettle_39 : decode cX0_canSettle 39 = .ok (.if_icmp .ge 24, 3) := by decide +kernel
theorem dX0_canSettle_42 : decode cX0_canSettle 42 = .ok (.aload_n 0, 1) := by decide +kernel
theorem dX0_canSettle_43 : decode cX0_canSettle 43 = .ok (.lload_n 1, 1) := by decide +kernel
theorem dX0_canSettle_44 : decode cX0_canSettle 44 = .ok (.lload_n 3, 1) := by decide +kernel
theorem dX0_canSettle_45 : decode cX0_canSettle 45 = .ok (.iload 7, 2) := by decide +kernel
theorem dX0_canSettle_47 : decode cX0_canSettle 47 = .ok (.iload 6, 2) := by decide +kernel
theorem dX0_canSettle_49 : decode cX0_canSettle 49 = .ok (.invokevirtual 98, 3) := by decide +kernel
theorem dX0_canSettle_52 : decode cX0_canSettle 52 = .ok (.ifCond .eq 5, 3) := by decide +kernel
theorem dX0_canSettle_55 : decode cX0_canSettle 55 = .ok (.iconst 1, 1) := by decide +kernel
theorem dX0_canSettle_56 : decode cX0_canSettle 56 = .ok (.ireturn, 1) := by decide +kernel
theorem dX0_canSettle_57 : decode cX0_canSettle 57 = .ok (.iinc 7 1, 3) := by decide +kernel
theorem dX0_canSettle_60 : decode cX0_canSettle 60 = .ok (.goto (-27), 3) := by decide +kernel
theorem dX0_canSettle_63 : decode cX0_canSettle 63 = .ok (.iconst 0, 1) := by decide +kernel
theorem dX0_canSettle_64 : decode cX0_canSettle 64 = .ok (.ireturn, 1) := by decide +kernel
theorem dX0_settlesBehind_0 : decode cX0_settlesBehind 0 = .ok (.lconst 0, 1) := by decide +kernel
theorem dX0_settlesBehind_1 : decode cX0_settlesBehind 1 = .ok (.lstore 7, 2) := by decide +kernel
theorem dX0_settlesBehind_3 : decode cX0_settlesBehind 3 = .ok (.iload 5, 2) := by decide +kernel
theorem dX0_settlesBehind_5 : decode cX0_settlesBehind 5 = .ok (.bipush 64, 2) := by decide +kernel
theorem dX0_settlesBehind_7 : decode cX0_settlesBehind 7 = .ok (.imul, 1) := by decide +kernel
theorem dX0_settlesBehind_8 : decode cX0_settlesBehind 8 = .ok (.istore 9, 2) := by decide +kernel
theorem dX0_settlesBehind_10 : decode cX0_settlesBehind 10 = .ok (.iload 9, 2) := by decide +kernel
theorem dX0_settlesBehind_12 : decode cX0_settlesBehind 12 = .ok (.iload 5, 2) := by decide +kernel
theorem dX0_settlesBehind_14 : decode cX0_settlesBehind 14 = .ok (.bipush 64, 2) := by decide +kernel
theorem dX0_settlesBehind_16 : decode cX0_settlesBehind 16 = .ok (.imul, 1) := by decide +kernel
theorem dX0_settlesBehind_17 : decode cX0_settlesBehind 17 = .ok (.aload_n 0, 1) := by decide +kernel
theorem dX0_settlesBehind_18 : decode cX0_settlesBehind 18 = .ok (.getfield 18, 3) := by decide +kernel
theorem dX0_settlesBehind_21 : decode cX0_settlesBehind 21 = .ok (.iload 5, 2) := by decide +kernel
theorem dX0_settlesBehind_23 : decode cX0_settlesBehind 23 = .ok (.iaload, 1) := by decide +kernel
theorem dX0_settlesBehind_24 : decode cX0_settlesBehind 24 = .ok (.iadd, 1) := by decide +kernel
theorem dX0_settlesBehind_25 : decode cX0_settlesBehind 25 = .ok (.if_icmp .ge 76, 3) := by decide +kernel
theorem dX0_settlesBehind_28 : decode cX0_settlesBehind 28 = .ok (.lload_n 1, 1) := by decide +kernel
theorem dX0_settlesBehind_29 : decode cX0_settlesBehind 29 = .ok (.aload_n 0, 1) := by decide +kernel
theorem dX0_settlesBehind_30 : decode cX0_settlesBehind 30 = .ok (.getfield 9, 3) := by decide +kernel
theorem dX0_settlesBehind_33 : decode cX0_settlesBehind 33 = .ok (.iload 9, 2) := by decide +kernel
theorem dX0_settlesBehind_35 : decode cX0_settlesBehind 35 = .ok (.laload, 1) := by decide +kernel
theorem dX0_settlesBehind_36 : decode cX0_settlesBehind 36 = .ok (.land, 1) := by decide +kernel
theorem dX0_settlesBehind_37 : decode cX0_settlesBehind 37 = .ok (.lconst 0, 1) := by decide +kernel
theorem dX0_settlesBehind_38 : decode cX0_settlesBehind 38 = .ok (.lcmp, 1) := by decide +kernel
theorem dX0_settlesBehind_39 : decode cX0_settlesBehind 39 = .ok (.ifCond .ne 7, 3) := by decide +kernel
theorem dX0_settlesBehind_42 : decode cX0_settlesBehind 42 = .ok (.lconst 0, 1) := by decide +kernel
theorem dX0_settlesBehind_43 : decode cX0_settlesBehind 43 = .ok (.goto 12, 3) := by decide +kernel
theorem dX0_settlesBehind_46 : decode cX0_settlesBehind 46 = .ok (.lload_n 1, 1) := by decide +kernel
theorem dX0_settlesBehind_47 : decode cX0_settlesBehind 47 = .ok (.aload_n 0, 1) := by decide +kernel
theorem dX0_settlesBehind_48 : decode cX0_settlesBehind 48 = .ok (.getfield 15, 3) := by decide +kernel
theorem dX0_settlesBehind_51 : decode cX0_settlesBehind 51 = .ok (.iload 9, 2) := by decide +kernel
theorem dX0_settlesBehind_53 : decode cX0_settlesBehind 53 = .ok (.laload, 1) := by decide +kernel
theorem dX0_settlesBehind_54 : decode cX0_settlesBehind 54 = .ok (.land, 1) := by decide +kernel
theorem dX0_settlesBehind_55 : decode cX0_settlesBehind 55 = .ok (.lstore 10, 2) := by decide +kernel
theorem dX0_settlesBehind_57 : decode cX0_settlesBehind 57 = .ok (.lload 10, 2) := by decide +kernel
theorem dX0_settlesBehind_59 : decode cX0_settlesBehind 59 = .ok (.lload 7, 2) := by decide +kernel
theorem dX0_settlesBehind_61 : decode cX0_settlesBehind 61 = .ok (.ldc2_w 48, 3) := by decide +kernel
theorem dX0_settlesBehind_64 : decode cX0_settlesBehind 64 = .ok (.lxor, 1) := by decide +kernel
theorem dX0_settlesBehind_65 : decode cX0_settlesBehind 65 = .ok (.land, 1) := by decide +kernel
theorem dX0_settlesBehind_66 : decode cX0_settlesBehind 66 = .ok (.lconst 0, 1) := by decide +kernel
theorem dX0_settlesBehind_67 : decode cX0_settlesBehind 67 = .ok (.lcmp, 1) := by decide +kernel
theorem dX0_settlesBehind_68 : decode cX0_settlesBehind 68 = .ok (.ifCond .eq 27, 3) := by decide +kernel
theorem dX0_settlesBehind_71 : decode cX0_settlesBehind 71 = .ok (.aload_n 0, 1) := by decide +kernel
theorem dX0_settlesBehind_72 : decode cX0_settlesBehind 72 = .ok (.lload 10, 2) := by decide +kernel
theorem dX0_settlesBehind_74 : decode cX0_settlesBehind 74 = .ok (.lload_n 3, 1) := by decide +kernel
theorem dX0_settlesBehind_75 : decode cX0_settlesBehind 75 = .ok (.iload 5, 2) := by decide +kernel
theorem dX0_settlesBehind_77 : decode cX0_settlesBehind 77 = .ok (.iconst 1, 1) := by decide +kernel
theorem dX0_settlesBehind_78 : decode cX0_settlesBehind 78 = .ok (.iadd, 1) := by decide +kernel
theorem dX0_settlesBehind_79 : decode cX0_settlesBehind 79 = .ok (.iload 6, 2) := by decide +kernel
theorem dX0_settlesBehind_81 : decode cX0_settlesBehind 81 = .ok (.iconst 1, 1) := by decide +kernel
theorem dX0_settlesBehind_82 : decode cX0_settlesBehind 82 = .ok (.isub, 1) := by decide +kernel
theorem dX0_settlesBehind_83 : decode cX0_settlesBehind 83 = .ok (.invokevirtual 94, 3) := by decide +kernel
theorem dX0_settlesBehind_86 : decode cX0_settlesBehind 86 = .ok (.ifCond .ne 5, 3) := by decide +kernel
theorem dX0_settlesBehind_89 : decode cX0_settlesBehind 89 = .ok (.iconst 0, 1) := by decide +kernel
theorem dX0_settlesBehind_90 : decode cX0_settlesBehind 90 = .ok (.ireturn, 1) := by decide +kernel
theorem dX0_settlesBehind_91 : decode cX0_settlesBehind 91 = .ok (.lload 10, 2) := by decide +kernel
theorem dX0_settlesBehind_93 : decode cX0_settlesBehind 93 = .ok (.lstore 7, 2) := by decide +kernel
theorem dX0_settlesBehind_95 : decode cX0_settlesBehind 95 = .ok (.iinc 9 1, 3) := by decide +kernel
theorem dX0_settlesBehind_98 : decode cX0_settlesBehind 98 = .ok (.goto (-88), 3) := by decide +kernel
theorem dX0_settlesBehind_101 : decode cX0_settlesBehind 101 = .ok (.iconst 1, 1) := by decide +kernel
theorem dX0_settlesBehind_102 : decode cX0_settlesBehind 102 = .ok (.ireturn, 1) := by decide +kernel
theorem dX1_init_0 : decode cX1_init 0 = .ok (.aload_n 0, 1) := by decide +kernel
theorem dX1_init_1 : decode cX1_init 1 = .ok (.invokespecial 1, 3) := by decide +kernel
theorem dX1_init_4 : decode cX1_init 4 = .ok (.aload_n 0, 1) := by decide +kernel
theorem dX1_init_5 : decode cX1_init 5 = .ok (.iload_n 1, 1) := by decide +kernel
theorem dX1_init_6 : decode cX1_init 6 = .ok (.putfield 7, 3) := by decide +kernel
theorem dX1_init_9 : decode cX1_init 9 = .ok (.aload_n 0, 1) := by decide +kernel
theorem dX1_init_10 : decode cX1_init 10 = .ok (.iload_n 2, 1) := by decide +kernel
theorem dX1_init_11 : decode cX1_init 11 = .ok (.putfield 13, 3) := by decide +kernel
theorem dX1_init_14 : decode cX1_init 14 = .ok (.return_, 1) := by decide +kernel
theorem dX1_has_0 : decode cX1_has 0 = .ok (.aload_n 0, 1) := by decide +kernel
theorem dX1_has_1 : decode cX1_has 1 = .ok (.getfield 7, 3) := by decide +kernel
theorem dX1_has_4 : decode cX1_has 4 = .ok (.iload_n 1, 1) := by decide +kernel
theorem dX1_has_5 : decode cX1_has 5 = .ok (.ishr, 1) := by decide +kernel
theorem dX1_has_6 : decode cX1_has 6 = .ok (.iconst 1, 1) := by decide +kernel
theorem dX1_has_7 : decode cX1_has 7 = .ok (.iand, 1) := by decide +kernel
theorem dX1_has_8 : decode cX1_has 8 = .ok (.ifCond .eq 7, 3) := by decide +kernel
theorem dX1_has_11 : decode cX1_has 11 = .ok (.iconst 1, 1) := by decide +kernel
theorem dX1_has_12 : decode cX1_has 12 = .ok (.goto 4, 3) := by decide +kernel
theorem dX1_has_15 : decode cX1_has 15 = .ok (.iconst 0, 1) := by decide +kernel
theorem dX1_has_16 : decode cX1_has 16 = .ok (.ireturn, 1) := by decide +kernel
theorem dX2_init_0 : decode cX2_init 0 = .ok (.aload_n 0, 1) := by decide +kernel
theorem dX2_init_1 : decode cX2_init 1 = .ok (.invokespecial 3, 3) := by decide +kernel
theorem dX2_init_4 : decode cX2_init 4 = .ok (.aload_n 0, 1) := by decide +kernel
theorem dX2_init_5 : decode cX2_init 5 = .ok (.sipush 400, 3) := by decide +kernel
theorem dX2_init_8 : decode cX2_init 8 = .ok (.putfield 9, 3) := by decide +kernel
theorem dX2_init_11 : decode cX2_init 11 = .ok (.aload_n 0, 1) := by decide +kernel
theorem dX2_init_12 : decode cX2_init 12 = .ok (.iconst 0, 1) := by decide +kernel
theorem dX2_init_13 : decode cX2_init 13 = .ok (.putfield 15, 3) := by decide +kernel
theorem dX2_init_16 : decode cX2_init 16 = .ok (.aload_n 0, 1) := by decide +kernel
theorem dX2_init_17 : decode cX2_init 17 = .ok (.lconst 0, 1) := by decide +kernel
theorem dX2_init_18 : decode cX2_init 18 = .ok (.putfield 19, 3) := by decide +kernel
theorem dX2_init_21 : decode cX2_init 21 = .ok (.aload_n 0, 1) := by decide +kernel
theorem dX2_init_22 : decode cX2_init 22 = .ok (.aload_n 1, 1) := by decide +kernel
theorem dX2_init_23 : decode cX2_init 23 = .ok (.putfield 23, 3) := by decide +kernel
theorem dX2_init_26 : decode cX2_init 26 = .ok (.aload_n 0, 1) := by decide +kernel
theorem dX2_init_27 : decode cX2_init 27 = .ok (.iload_n 2, 1) := by decide +kernel
theorem dX2_init_28 : decode cX2_init 28 = .ok (.putfield 27, 3) := by decide +kernel
theorem dX2_init_31 : decode cX2_init 31 = .ok (.aload_n 0, 1) := by decide +kernel
theorem dX2_init_32 : decode cX2_init 32 = .ok (.iload_n 3, 1) := by decide +kernel
theorem dX2_init_33 : decode cX2_init 33 = .ok (.putfield 30, 3) := by decide +kernel
theorem dX2_init_36 : decode cX2_init 36 = .ok (.aload_n 0, 1) := by decide +kernel
theorem dX2_init_37 : decode cX2_init 37 = .ok (.iload 4, 2) := by decide +kernel
theorem dX2_init_39 : decode cX2_init 39 = .ok (.putfield 33, 3) := by decide +kernel
theorem dX2_init_42 : decode cX2_init 42 = .ok (.aload_n 0, 1) := by decide +kernel
theorem dX2_init_43 : decode cX2_init 43 = .ok (.iload 5, 2) := by decide +kernel
theorem dX2_init_45 : decode cX2_init 45 = .ok (.putfield 36, 3) := by decide +kernel
theorem dX2_init_48 : decode cX2_init 48 = .ok (.return_, 1) := by decide +kernel
theorem dX2_isKnown_0 : decode cX2_isKnown 0 = .ok (.aload_n 0, 1) := by decide +kernel
theorem dX2_isKnown_1 : decode cX2_isKnown 1 = .ok (.getfield 36, 3) := by decide +kernel
theorem dX2_isKnown_4 : decode cX2_isKnown 4 = .ok (.iload_n 1, 1) := by decide +kernel
theorem dX2_isKnown_5 : decode cX2_isKnown 5 = .ok (.if_icmp .gt 15, 3) := by decide +kernel
theorem dX2_isKnown_8 : decode cX2_isKnown 8 = .ok (.iload_n 1, 1) := by decide +kernel
theorem dX2_isKnown_9 : decode cX2_isKnown 9 = .ok (.aload_n 0, 1) := by decide +kernel
theorem dX2_isKnown_10 : decode cX2_isKnown 10 = .ok (.getfield 9, 3) := by decide +kernel
theorem dX2_isKnown_13 : decode cX2_isKnown 13 = .ok (.if_icmp .ge 7, 3) := by decide +kernel
theorem dX2_isKnown_16 : decode cX2_isKnown 16 = .ok (.iconst 1, 1) := by decide +kernel
theorem dX2_isKnown_17 : decode cX2_isKnown 17 = .ok (.goto 4, 3) := by decide +kernel
theorem dX2_isKnown_20 : decode cX2_isKnown 20 = .ok (.iconst 0, 1) := by decide +kernel
theorem dX2_isKnown_21 : decode cX2_isKnown 21 = .ok (.ireturn, 1) := by decide +kernel
theorem dX2_barsKnown_0 : decode cX2_barsKnown 0 = .ok (.aload_n 0, 1) := by decide +kernel
theorem dX2_barsKnown_1 : decode cX2_barsKnown 1 = .ok (.getfield 23, 3) := by decide +kernel
theorem dX2_barsKnown_4 : decode cX2_barsKnown 4 = .ok (.aload_n 1, 1) := by decide +kernel
theorem dX2_barsKnown_5 : decode cX2_barsKnown 5 = .ok (.if_acmp .ne 26, 3) := by decide +kernel
theorem dX2_barsKnown_8 : decode cX2_barsKnown 8 = .ok (.aload_n 0, 1) := by decide +kernel
theorem dX2_barsKnown_9 : decode cX2_barsKnown 9 = .ok (.iload_n 3, 1) := by decide +kernel
theorem dX2_barsKnown_10 : decode cX2_barsKnown 10 = .ok (.invokevirtual 39, 3) := by decide +kernel
theorem dX2_barsKnown_13 : decode cX2_barsKnown 13 = .ok (.ifCond .eq 18, 3) := by decide +kernel
theorem dX2_barsKnown_16 : decode cX2_barsKnown 16 = .ok (.aload_n 0, 1) := by decide +kernel
theorem dX2_barsKnown_17 : decode cX2_barsKnown 17 = .ok (.getfield 19, 3) := by decide +kernel
theorem dX2_barsKnown_20 : decode cX2_barsKnown 20 = .ok (.iload_n 2, 1) := by decide +kernel
theorem dX2_barsKnown_21 : decode cX2_barsKnown 21 = .ok (.invokestatic 43, 3) := by decide +kernel
theorem dX2_barsKnown_24 : decode cX2_barsKnown 24 = .ok (.ifCond .eq 7, 3) := by decide +kernel
theorem dX2_barsKnown_27 : decode cX2_barsKnown 27 = .ok (.iconst 1, 1) := by decide +kernel
theorem dX2_barsKnown_28 : decode cX2_barsKnown 28 = .ok (.goto 4, 3) := by decide +kernel
theorem dX2_barsKnown_31 : decode cX2_barsKnown 31 = .ok (.iconst 0, 1) := by decide +kernel
theorem dX2_barsKnown_32 : decode cX2_barsKnown 32 = .ok (.ireturn, 1) := by decide +kernel
theorem dX2_forgetFrom_0 : decode cX2_forgetFrom 0 = .ok (.aload_n 0, 1) := by decide +kernel
theorem dX2_forgetFrom_1 : decode cX2_forgetFrom 1 = .ok (.getfield 27, 3) := by decide +kernel
theorem dX2_forgetFrom_4 : decode cX2_forgetFrom 4 = .ok (.iload_n 1, 1) := by decide +kernel
theorem dX2_forgetFrom_5 : decode cX2_forgetFrom 5 = .ok (.if_icmp .lt 8, 3) := by decide +kernel
theorem dX2_forgetFrom_8 : decode cX2_forgetFrom 8 = .ok (.aload_n 0, 1) := by decide +kernel
theorem dX2_forgetFrom_9 : decode cX2_forgetFrom 9 = .ok (.iconst 0, 1) := by decide +kernel
theorem dX2_forgetFrom_10 : decode cX2_forgetFrom 10 = .ok (.putfield 15, 3) := by decide +kernel
theorem dX2_forgetFrom_13 : decode cX2_forgetFrom 13 = .ok (.return_, 1) := by decide +kernel
theorem dX2_freshen_0 : decode cX2_freshen 0 = .ok (.aload_n 0, 1) := by decide +kernel
theorem dX2_freshen_1 : decode cX2_freshen 1 = .ok (.getfield 15, 3) := by decide +kernel
theorem dX2_freshen_4 : decode cX2_freshen 4 = .ok (.ifCond .eq 4, 3) := by decide +kernel
theorem dX2_freshen_7 : decode cX2_freshen 7 = .ok (.return_, 1) := by decide +kernel
theorem dX2_freshen_8 : decode cX2_freshen 8 = .ok (.aload_n 0, 1) := by decide +kernel
theorem dX2_freshen_9 : decode cX2_freshen 9 = .ok (.getfield 23, 3) := by decide +kernel
theorem dX2_freshen_12 : decode cX2_freshen 12 = .ok (.aload_n 0, 1) := by decide +kernel
theorem dX2_freshen_13 : decode cX2_freshen 13 = .ok (.getfield 27, 3) := by decide +kernel
theorem dX2_freshen_16 : decode cX2_freshen 16 = .ok (.invokevirtual 47, 3) := by decide +kernel
theorem dX2_freshen_19 : decode cX2_freshen 19 = .ok (.aload_n 0, 1) := by decide +kernel
theorem dX2_freshen_20 : decode cX2_freshen 20 = .ok (.lconst 0, 1) := by decide +kernel
theorem dX2_freshen_21 : decode cX2_freshen 21 = .ok (.putfield 19, 3) := by decide +kernel
theorem dX2_freshen_24 : decode cX2_freshen 24 = .ok (.iconst 0, 1) := by decide +kernel
theorem dX2_freshen_25 : decode cX2_freshen 25 = .ok (.istore_n 1, 1) := by decide +kernel
theorem dX2_freshen_26 : decode cX2_freshen 26 = .ok (.iload_n 1, 1) := by decide +kernel
theorem dX2_freshen_27 : decode cX2_freshen 27 = .ok (.bipush 64, 2) := by decide +kernel
theorem dX2_freshen_29 : decode cX2_freshen 29 = .ok (.if_icmp .ge 44, 3) := by decide +kernel
theorem dX2_freshen_32 : decode cX2_freshen 32 = .ok (.aload_n 0, 1) := by decide +kernel
theorem dX2_freshen_33 : decode cX2_freshen 33 = .ok (.getfield 23, 3) := by decide +kernel
theorem dX2_freshen_36 : decode cX2_freshen 36 = .ok (.iload_n 1, 1) := by decide +kernel
theorem dX2_freshen_37 : decode cX2_freshen 37 = .ok (.invokevirtual 53, 3) := by decide +kernel
theorem dX2_freshen_40 : decode cX2_freshen 40 = .ok (.aload_n 0, 1) := by decide +kernel
theorem dX2_freshen_41 : decode cX2_freshen 41 = .ok (.getfield 30, 3) := by decide +kernel
theorem dX2_freshen_44 : decode cX2_freshen 44 = .ok (.isub, 1) := by decide +kernel
theorem dX2_freshen_45 : decode cX2_freshen 45 = .ok (.invokestatic 57, 3) := by decide +kernel
theorem dX2_freshen_48 : decode cX2_freshen 48 = .ok (.aload_n 0, 1) := by decide +kernel
theorem dX2_freshen_49 : decode cX2_freshen 49 = .ok (.getfield 33, 3) := by decide +kernel
theorem dX2_freshen_52 : decode cX2_freshen 52 = .ok (.if_icmp .le 15, 3) := by decide +kernel
theorem dX2_freshen_55 : decode cX2_freshen 55 = .ok (.aload_n 0, 1) := by decide +kernel
theorem dX2_freshen_56 : decode cX2_freshen 56 = .ok (.dup, 1) := by decide +kernel
theorem dX2_freshen_57 : decode cX2_freshen 57 = .ok (.getfield 19, 3) := by decide +kernel
theorem dX2_freshen_60 : decode cX2_freshen 60 = .ok (.lconst 1, 1) := by decide +kernel
theorem dX2_freshen_61 : decode cX2_freshen 61 = .ok (.iload_n 1, 1) := by decide +kernel
theorem dX2_freshen_62 : decode cX2_freshen 62 = .ok (.lshl, 1) := by decide +kernel
theorem dX2_freshen_63 : decode cX2_freshen 63 = .ok (.lor, 1) := by decide +kernel
theorem dX2_freshen_64 : decode cX2_freshen 64 = .ok (.putfield 19, 3) := by decide +kernel
theorem dX2_freshen_67 : decode cX2_freshen 67 = .ok (.iinc 1 1, 3) := by decide +kernel
theorem dX2_freshen_70 : decode cX2_freshen 70 = .ok (.goto (-44), 3) := by decide +kernel
theorem dX2_freshen_73 : decode cX2_freshen 73 = .ok (.aload_n 0, 1) := by decide +kernel
theorem dX2_freshen_74 : decode cX2_freshen 74 = .ok (.iconst 1, 1) := by decide +kernel
theorem dX2_freshen_75 : decode cX2_freshen 75 = .ok (.putfield 15, 3) := by decide +kernel
theorem dX2_freshen_78 : decode cX2_freshen 78 = .ok (.return_, 1) := by decide +kernel
theorem dX3_init_0 : decode cX3_init 0 = .ok (.aload_n 0, 1) := by decide +kernel
theorem dX3_init_1 : decode cX3_init 1 = .ok (.invokespecial 3, 3) := by decide +kernel
theorem dX3_init_4 : decode cX3_init 4 = .ok (.aload_n 0, 1) := by decide +kernel
theorem dX3_init_5 : decode cX3_init 5 = .ok (.bipush 64, 2) := by decide +kernel
theorem dX3_init_7 : decode cX3_init 7 = .ok (.newarray .int, 2) := by decide +kernel
theorem dX3_init_9 : decode cX3_init 9 = .ok (.putfield 9, 3) := by decide +kernel
theorem dX3_init_12 : decode cX3_init 12 = .ok (.aload_n 0, 1) := by decide +kernel
theorem dX3_init_13 : decode cX3_init 13 = .ok (.iconst 0, 1) := by decide +kernel
theorem dX3_init_14 : decode cX3_init 14 = .ok (.putfield 15, 3) := by decide +kernel
theorem dX3_init_17 : decode cX3_init 17 = .ok (.return_, 1) := by decide +kernel
theorem dX3_clear_0 : decode cX3_clear 0 = .ok (.aload_n 0, 1) := by decide +kernel
theorem dX3_clear_1 : decode cX3_clear 1 = .ok (.iconst 0, 1) := by decide +kernel
theorem dX3_clear_2 : decode cX3_clear 2 = .ok (.putfield 15, 3) := by decide +kernel
theorem dX3_clear_5 : decode cX3_clear 5 = .ok (.return_, 1) := by decide +kernel
theorem dX3_put_0 : decode cX3_put 0 = .ok (.aload_n 0, 1) := by decide +kernel
theorem dX3_put_1 : decode cX3_put 1 = .ok (.getfield 15, 3) := by decide +kernel
theorem dX3_put_4 : decode cX3_put 4 = .ok (.bipush 64, 2) := by decide +kernel
theorem dX3_put_6 : decode cX3_put 6 = .ok (.if_icmp .ge 23, 3) := by decide +kernel
theorem dX3_put_9 : decode cX3_put 9 = .ok (.aload_n 0, 1) := by decide +kernel
theorem dX3_put_10 : decode cX3_put 10 = .ok (.getfield 9, 3) := by decide +kernel
theorem dX3_put_13 : decode cX3_put 13 = .ok (.aload_n 0, 1) := by decide +kernel
theorem dX3_put_14 : decode cX3_put 14 = .ok (.getfield 15, 3) := by decide +kernel
theorem dX3_put_17 : decode cX3_put 17 = .ok (.iload_n 1, 1) := by decide +kernel
theorem dX3_put_18 : decode cX3_put 18 = .ok (.iastore, 1) := by decide +kernel
theorem dX3_put_19 : decode cX3_put 19 = .ok (.aload_n 0, 1) := by decide +kernel
theorem dX3_put_20 : decode cX3_put 20 = .ok (.dup, 1) := by decide +kernel
theorem dX3_put_21 : decode cX3_put 21 = .ok (.getfield 15, 3) := by decide +kernel
theorem dX3_put_24 : decode cX3_put 24 = .ok (.iconst 1, 1) := by decide +kernel
theorem dX3_put_25 : decode cX3_put 25 = .ok (.iadd, 1) := by decide +kernel
theorem dX3_put_26 : decode cX3_put 26 = .ok (.putfield 15, 3) := by decide +kernel
theorem dX3_put_29 : decode cX3_put 29 = .ok (.return_, 1) := by decide +kernel
theorem dX4_init_0 : decode cX4_init 0 = .ok (.aload_n 0, 1) := by decide +kernel
theorem dX4_init_1 : decode cX4_init 1 = .ok (.invokespecial 1, 3) := by decide +kernel
theorem dX4_init_4 : decode cX4_init 4 = .ok (.aload_n 0, 1) := by decide +kernel
theorem dX4_init_5 : decode cX4_init 5 = .ok (.iload_n 1, 1) := by decide +kernel
theorem dX4_init_6 : decode cX4_init 6 = .ok (.putfield 7, 3) := by decide +kernel
theorem dX4_init_9 : decode cX4_init 9 = .ok (.aload_n 0, 1) := by decide +kernel
theorem dX4_init_10 : decode cX4_init 10 = .ok (.iload_n 2, 1) := by decide +kernel
theorem dX4_init_11 : decode cX4_init 11 = .ok (.putfield 13, 3) := by decide +kernel
theorem dX4_init_14 : decode cX4_init 14 = .ok (.aload_n 0, 1) := by decide +kernel
theorem dX4_init_15 : decode cX4_init 15 = .ok (.iload_n 3, 1) := by decide +kernel
theorem dX4_init_16 : decode cX4_init 16 = .ok (.putfield 16, 3) := by decide +kernel
theorem dX4_init_19 : decode cX4_init 19 = .ok (.return_, 1) := by decide +kernel
theorem dX5_init_0 : decode cX5_init 0 = .ok (.aload_n 0, 1) := by decide +kernel
theorem dX5_init_1 : decode cX5_init 1 = .ok (.invokespecial 3, 3) := by decide +kernel
theorem dX5_init_4 : decode cX5_init 4 = .ok (.aload_n 0, 1) := by decide +kernel
theorem dX5_init_5 : decode cX5_init 5 = .ok (.iconst 0, 1) := by decide +kernel
theorem dX5_init_6 : decode cX5_init 6 = .ok (.putfield 9, 3) := by decide +kernel
theorem dX5_init_9 : decode cX5_init 9 = .ok (.aload_n 0, 1) := by decide +kernel
theorem dX5_init_10 : decode cX5_init 10 = .ok (.iconst 0, 1) := by decide +kernel
theorem dX5_init_11 : decode cX5_init 11 = .ok (.putfield 15, 3) := by decide +kernel
theorem dX5_init_14 : decode cX5_init 14 = .ok (.aload_n 0, 1) := by decide +kernel
theorem dX5_init_15 : decode cX5_init 15 = .ok (.aconst_null, 1) := by decide +kernel
theorem dX5_init_16 : decode cX5_init 16 = .ok (.putfield 18, 3) := by decide +kernel
theorem dX5_init_19 : decode cX5_init 19 = .ok (.aload_n 0, 1) := by decide +kernel
theorem dX5_init_20 : decode cX5_init 20 = .ok (.iconst 0, 1) := by decide +kernel
theorem dX5_init_21 : decode cX5_init 21 = .ok (.putfield 22, 3) := by decide +kernel
theorem dX5_init_24 : decode cX5_init 24 = .ok (.aload_n 0, 1) := by decide +kernel
theorem dX5_init_25 : decode cX5_init 25 = .ok (.lconst 0, 1) := by decide +kernel
theorem dX5_init_26 : decode cX5_init 26 = .ok (.putfield 25, 3) := by decide +kernel
theorem dX5_init_29 : decode cX5_init 29 = .ok (.aload_n 0, 1) := by decide +kernel
theorem dX5_init_30 : decode cX5_init 30 = .ok (.lconst 0, 1) := by decide +kernel
theorem dX5_init_31 : decode cX5_init 31 = .ok (.putfield 29, 3) := by decide +kernel
theorem dX5_init_34 : decode cX5_init 34 = .ok (.aload_n 0, 1) := by decide +kernel
theorem dX5_init_35 : decode cX5_init 35 = .ok (.iload_n 1, 1) := by decide +kernel
theorem dX5_init_36 : decode cX5_init 36 = .ok (.putfield 32, 3) := by decide +kernel
theorem dX5_init_39 : decode cX5_init 39 = .ok (.aload_n 0, 1) := by decide +kernel
theorem dX5_init_40 : decode cX5_init 40 = .ok (.iload_n 2, 1) := by decide +kernel
theorem dX5_init_41 : decode cX5_init 41 = .ok (.putfield 35, 3) := by decide +kernel
theorem dX5_init_44 : decode cX5_init 44 = .ok (.aload_n 0, 1) := by decide +kernel
theorem dX5_init_45 : decode cX5_init 45 = .ok (.iload_n 3, 1) := by decide +kernel
theorem dX5_init_46 : decode cX5_init 46 = .ok (.putfield 38, 3) := by decide +kernel
theorem dX5_init_49 : decode cX5_init 49 = .ok (.aload_n 0, 1) := by decide +kernel
theorem dX5_init_50 : decode cX5_init 50 = .ok (.iload 4, 2) := by decide +kernel
theorem dX5_init_52 : decode cX5_init 52 = .ok (.putfield 41, 3) := by decide +kernel
theorem dX5_init_55 : decode cX5_init 55 = .ok (.aload_n 0, 1) := by decide +kernel
theorem dX5_init_56 : decode cX5_init 56 = .ok (.iload 5, 2) := by decide +kernel
theorem dX5_init_58 : decode cX5_init 58 = .ok (.putfield 44, 3) := by decide +kernel
theorem dX5_init_61 : decode cX5_init 61 = .ok (.aload_n 0, 1) := by decide +kernel
theorem dX5_init_62 : decode cX5_init 62 = .ok (.aload 6, 2) := by decide +kernel
theorem dX5_init_64 : decode cX5_init 64 = .ok (.putfield 47, 3) := by decide +kernel
theorem dX5_init_67 : decode cX5_init 67 = .ok (.aload_n 0, 1) := by decide +kernel
theorem dX5_init_68 : decode cX5_init 68 = .ok (.aload 7, 2) := by decide +kernel
theorem dX5_init_70 : decode cX5_init 70 = .ok (.putfield 51, 3) := by decide +kernel
theorem dX5_init_73 : decode cX5_init 73 = .ok (.return_, 1) := by decide +kernel
theorem dX5_forgetFrom_0 : decode cX5_forgetFrom 0 = .ok (.aload_n 0, 1) := by decide +kernel
theorem dX5_forgetFrom_1 : decode cX5_forgetFrom 1 = .ok (.aload_n 0, 1) := by decide +kernel
theorem dX5_forgetFrom_2 : decode cX5_forgetFrom 2 = .ok (.getfield 15, 3) := by decide +kernel
theorem dX5_forgetFrom_5 : decode cX5_forgetFrom 5 = .ok (.iload_n 1, 1) := by decide +kernel
theorem dX5_forgetFrom_6 : decode cX5_forgetFrom 6 = .ok (.bipush 40, 2) := by decide +kernel
theorem dX5_forgetFrom_8 : decode cX5_forgetFrom 8 = .ok (.idiv, 1) := by decide +kernel
theorem dX5_forgetFrom_9 : decode cX5_forgetFrom 9 = .ok (.invokestatic 54, 3) := by decide +kernel
theorem dX5_forgetFrom_12 : decode cX5_forgetFrom 12 = .ok (.putfield 15, 3) := by decide +kernel
theorem dX5_forgetFrom_15 : decode cX5_forgetFrom 15 = .ok (.aload_n 0, 1) := by decide +kernel
theorem dX5_forgetFrom_16 : decode cX5_forgetFrom 16 = .ok (.getfield 9, 3) := by decide +kernel
theorem dX5_forgetFrom_19 : decode cX5_forgetFrom 19 = .ok (.iload_n 1, 1) := by decide +kernel
theorem dX5_forgetFrom_20 : decode cX5_forgetFrom 20 = .ok (.if_icmp .le 11, 3) := by decide +kernel
theorem dX5_forgetFrom_23 : decode cX5_forgetFrom 23 = .ok (.aload_n 0, 1) := by decide +kernel
theorem dX5_forgetFrom_24 : decode cX5_forgetFrom 24 = .ok (.aload_n 0, 1) := by decide +kernel
theorem dX5_forgetFrom_25 : decode cX5_forgetFrom 25 = .ok (.getfield 15, 3) := by decide +kernel
theorem dX5_forgetFrom_28 : decode cX5_forgetFrom 28 = .ok (.invokevirtual 60, 3) := by decide +kernel
theorem dX5_forgetFrom_31 : decode cX5_forgetFrom 31 = .ok (.return_, 1) := by decide +kernel
theorem dX5_goTo_0 : decode cX5_goTo 0 = .ok (.aload_n 0, 1) := by decide +kernel
theorem dX5_goTo_1 : decode cX5_goTo 1 = .ok (.getfield 15, 3) := by decide +kernel
theorem dX5_goTo_4 : decode cX5_goTo 4 = .ok (.iload_n 1, 1) := by decide +kernel
theorem dX5_goTo_5 : decode cX5_goTo 5 = .ok (.iconst 1, 1) := by decide +kernel
theorem dX5_goTo_6 : decode cX5_goTo 6 = .ok (.iadd, 1) := by decide +kernel
theorem dX5_goTo_7 : decode cX5_goTo 7 = .ok (.bipush 40, 2) := by decide +kernel
theorem dX5_goTo_9 : decode cX5_goTo 9 = .ok (.idiv, 1) := by decide +kernel
theorem dX5_goTo_10 : decode cX5_goTo 10 = .ok (.invokestatic 54, 3) := by decide +kernel
theorem dX5_goTo_13 : decode cX5_goTo 13 = .ok (.istore_n 2, 1) := by decide +kernel
theorem dX5_goTo_14 : decode cX5_goTo 14 = .ok (.aload_n 0, 1) := by decide +kernel
theorem dX5_goTo_15 : decode cX5_goTo 15 = .ok (.getfield 9, 3) := by decide +kernel
theorem dX5_goTo_18 : decode cX5_goTo 18 = .ok (.iload_n 1, 1) := by decide +kernel
theorem dX5_goTo_19 : decode cX5_goTo 19 = .ok (.iconst 1, 1) := by decide +kernel
theorem dX5_goTo_20 : decode cX5_goTo 20 = .ok (.iadd, 1) := by decide +kernel
theorem dX5_goTo_21 : decode cX5_goTo 21 = .ok (.if_icmp .gt 14, 3) := by decide +kernel
theorem dX5_goTo_24 : decode cX5_goTo 24 = .ok (.aload_n 0, 1) := by decide +kernel
theorem dX5_goTo_25 : decode cX5_goTo 25 = .ok (.getfield 9, 3) := by decide +kernel
theorem dX5_goTo_28 : decode cX5_goTo 28 = .ok (.iload_n 2, 1) := by decide +kernel
theorem dX5_goTo_29 : decode cX5_goTo 29 = .ok (.bipush 40, 2) := by decide +kernel
theorem dX5_goTo_31 : decode cX5_goTo 31 = .ok (.imul, 1) := by decide +kernel
theorem dX5_goTo_32 : decode cX5_goTo 32 = .ok (.if_icmp .ge 8, 3) := by decide +kernel
theorem dX5_goTo_35 : decode cX5_goTo 35 = .ok (.aload_n 0, 1) := by decide +kernel
theorem dX5_goTo_36 : decode cX5_goTo 36 = .ok (.iload_n 2, 1) := by decide +kernel
theorem dX5_goTo_37 : decode cX5_goTo 37 = .ok (.invokevirtual 60, 3) := by decide +kernel
theorem dX5_goTo_40 : decode cX5_goTo 40 = .ok (.aload_n 0, 1) := by decide +kernel
theorem dX5_goTo_41 : decode cX5_goTo 41 = .ok (.getfield 9, 3) := by decide +kernel
theorem dX5_goTo_44 : decode cX5_goTo 44 = .ok (.istore_n 3, 1) := by decide +kernel
theorem dX5_goTo_45 : decode cX5_goTo 45 = .ok (.iload_n 3, 1) := by decide +kernel
theorem dX5_goTo_46 : decode cX5_goTo 46 = .ok (.iload_n 1, 1) := by decide +kernel
theorem dX5_goTo_47 : decode cX5_goTo 47 = .ok (.if_icmp .gt 14, 3) := by decide +kernel
theorem dX5_goTo_50 : decode cX5_goTo 50 = .ok (.aload_n 0, 1) := by decide +kernel
theorem dX5_goTo_51 : decode cX5_goTo 51 = .ok (.iload_n 3, 1) := by decide +kernel
theorem dX5_goTo_52 : decode cX5_goTo 52 = .ok (.invokevirtual 64, 3) := by decide +kernel
theorem dX5_goTo_55 : decode cX5_goTo 55 = .ok (.iinc 3 1, 3) := by decide +kernel
theorem dX5_goTo_58 : decode cX5_goTo 58 = .ok (.goto (-13), 3) := by decide +kernel
theorem dX5_goTo_61 : decode cX5_goTo 61 = .ok (.return_, 1) := by decide +kernel
theorem dX5_backTo_0 : decode cX5_backTo 0 = .ok (.iconst 0, 1) := by decide +kernel
theorem dX5_backTo_1 : decode cX5_backTo 1 = .ok (.istore_n 2, 1) := by decide +kernel
theorem dX5_backTo_2 : decode cX5_backTo 2 = .ok (.iload_n 2, 1) := by decide +kernel
theorem dX5_backTo_3 : decode cX5_backTo 3 = .ok (.bipush 64, 2) := by decide +kernel
theorem dX5_backTo_5 : decode cX5_backTo 5 = .ok (.if_icmp .ge 34, 3) := by decide +kernel
theorem dX5_backTo_8 : decode cX5_backTo 8 = .ok (.aload_n 0, 1) := by decide +kernel
theorem dX5_backTo_9 : decode cX5_backTo 9 = .ok (.getfield 51, 3) := by decide +kernel
theorem dX5_backTo_12 : decode cX5_backTo 12 = .ok (.iload_n 2, 1) := by decide +kernel
theorem dX5_backTo_13 : decode cX5_backTo 13 = .ok (.iload_n 1, 1) := by decide +kernel
theorem dX5_backTo_14 : decode cX5_backTo 14 = .ok (.ifCond .le 17, 3) := by decide +kernel
theorem dX5_backTo_17 : decode cX5_backTo 17 = .ok (.aload_n 0, 1) := by decide +kernel
theorem dX5_backTo_18 : decode cX5_backTo 18 = .ok (.getfield 51, 3) := by decide +kernel
theorem dX5_backTo_21 : decode cX5_backTo 21 = .ok (.iload_n 1, 1) := by decide +kernel
theorem dX5_backTo_22 : decode cX5_backTo 22 = .ok (.bipush 64, 2) := by decide +kernel
theorem dX5_backTo_24 : decode cX5_backTo 24 = .ok (.imul, 1) := by decide +kernel
theorem dX5_backTo_25 : decode cX5_backTo 25 = .ok (.iload_n 2, 1) := by decide +kernel
theorem dX5_backTo_26 : decode cX5_backTo 26 = .ok (.iadd, 1) := by decide +kernel
theorem dX5_backTo_27 : decode cX5_backTo 27 = .ok (.iaload, 1) := by decide +kernel
theorem dX5_backTo_28 : decode cX5_backTo 28 = .ok (.goto 4, 3) := by decide +kernel
theorem dX5_backTo_31 : decode cX5_backTo 31 = .ok (.iconst 0, 1) := by decide +kernel
theorem dX5_backTo_32 : decode cX5_backTo 32 = .ok (.iastore, 1) := by decide +kernel
theorem dX5_backTo_33 : decode cX5_backTo 33 = .ok (.iinc 2 1, 3) := by decide +kernel
theorem dX5_backTo_36 : decode cX5_backTo 36 = .ok (.goto (-34), 3) := by decide +kernel
theorem dX5_backTo_39 : decode cX5_backTo 39 = .ok (.aload_n 0, 1) := by decide +kernel
theorem dX5_backTo_40 : decode cX5_backTo 40 = .ok (.iload_n 1, 1) := by decide +kernel
theorem dX5_backTo_41 : decode cX5_backTo 41 = .ok (.bipush 40, 2) := by decide +kernel
theorem dX5_backTo_43 : decode cX5_backTo 43 = .ok (.imul, 1) := by decide +kernel
theorem dX5_backTo_44 : decode cX5_backTo 44 = .ok (.putfield 9, 3) := by decide +kernel
theorem dX5_backTo_47 : decode cX5_backTo 47 = .ok (.return_, 1) := by decide +kernel
theorem dX5_walk_0 : decode cX5_walk 0 = .ok (.aload_n 0, 1) := by decide +kernel
theorem dX5_walk_1 : decode cX5_walk 1 = .ok (.iload_n 1, 1) := by decide +kernel
theorem dX5_walk_2 : decode cX5_walk 2 = .ok (.invokevirtual 67, 3) := by decide +kernel
theorem dX5_walk_5 : decode cX5_walk 5 = .ok (.istore_n 2, 1) := by decide +kernel
theorem dX5_walk_6 : decode cX5_walk 6 = .ok (.iconst 0, 1) := by decide +kernel
theorem dX5_walk_7 : decode cX5_walk 7 = .ok (.istore_n 3, 1) := by decide +kernel
theorem dX5_walk_8 : decode cX5_walk 8 = .ok (.iload_n 3, 1) := by decide +kernel
theorem dX5_walk_9 : decode cX5_walk 9 = .ok (.bipush 64, 2) := by decide +kernel
theorem dX5_walk_11 : decode cX5_walk 11 = .ok (.if_icmp .ge 59, 3) := by decide +kernel
theorem dX5_walk_14 : decode cX5_walk 14 = .ok (.aload_n 0, 1) := by decide +kernel
theorem dX5_walk_15 : decode cX5_walk 15 = .ok (.iload_n 2, 1) := by decide +kernel
theorem dX5_walk_16 : decode cX5_walk 16 = .ok (.iload_n 3, 1) := by decide +kernel
theorem dX5_walk_17 : decode cX5_walk 17 = .ok (.iload_n 1, 1) := by decide +kernel
theorem dX5_walk_18 : decode cX5_walk 18 = .ok (.invokevirtual 71, 3) := by decide +kernel
theorem dX5_walk_21 : decode cX5_walk 21 = .ok (.istore 4, 2) := by decide +kernel
theorem dX5_walk_23 : decode cX5_walk 23 = .ok (.iconst 0, 1) := by decide +kernel
theorem dX5_walk_24 : decode cX5_walk 24 = .ok (.istore 5, 2) := by decide +kernel
theorem dX5_walk_26 : decode cX5_walk 26 = .ok (.iload 5, 2) := by decide +kernel
theorem dX5_walk_28 : decode cX5_walk 28 = .ok (.bipush 8, 2) := by decide +kernel
theorem dX5_walk_30 : decode cX5_walk 30 = .ok (.if_icmp .ge 34, 3) := by decide +kernel
theorem dX5_walk_33 : decode cX5_walk 33 = .ok (.aload_n 0, 1) := by decide +kernel
theorem dX5_walk_34 : decode cX5_walk 34 = .ok (.getfield 51, 3) := by decide +kernel
theorem dX5_walk_37 : decode cX5_walk 37 = .ok (.iload_n 3, 1) := by decide +kernel
theorem dX5_walk_38 : decode cX5_walk 38 = .ok (.iload 5, 2) := by decide +kernel
theorem dX5_walk_40 : decode cX5_walk 40 = .ok (.iadd, 1) := by decide +kernel
theorem dX5_walk_41 : decode cX5_walk 41 = .ok (.aload_n 0, 1) := by decide +kernel
theorem dX5_walk_42 : decode cX5_walk 42 = .ok (.getfield 51, 3) := by decide +kernel
theorem dX5_walk_45 : decode cX5_walk 45 = .ok (.iload_n 3, 1) := by decide +kernel
theorem dX5_walk_46 : decode cX5_walk 46 = .ok (.iload 5, 2) := by decide +kernel
theorem dX5_walk_48 : decode cX5_walk 48 = .ok (.iadd, 1) := by decide +kernel
theorem dX5_walk_49 : decode cX5_walk 49 = .ok (.iaload, 1) := by decide +kernel
theorem dX5_walk_50 : decode cX5_walk 50 = .ok (.iload 4, 2) := by decide +kernel
theorem dX5_walk_52 : decode cX5_walk 52 = .ok (.iload 5, 2) := by decide +kernel
theorem dX5_walk_54 : decode cX5_walk 54 = .ok (.invokestatic 75, 3) := by decide +kernel
theorem dX5_walk_57 : decode cX5_walk 57 = .ok (.iastore, 1) := by decide +kernel
theorem dX5_walk_58 : decode cX5_walk 58 = .ok (.iinc 5 1, 3) := by decide +kernel
theorem dX5_walk_61 : decode cX5_walk 61 = .ok (.goto (-35), 3) := by decide +kernel
theorem dX5_walk_64 : decode cX5_walk 64 = .ok (.iinc 3 8, 3) := by decide +kernel
theorem dX5_walk_67 : decode cX5_walk 67 = .ok (.goto (-59), 3) := by decide +kernel
theorem dX5_walk_70 : decode cX5_walk 70 = .ok (.aload_n 0, 1) := by decide +kernel
theorem dX5_walk_71 : decode cX5_walk 71 = .ok (.iload_n 1, 1) := by decide +kernel
theorem dX5_walk_72 : decode cX5_walk 72 = .ok (.iconst 1, 1) := by decide +kernel
theorem dX5_walk_73 : decode cX5_walk 73 = .ok (.iadd, 1) := by decide +kernel
theorem dX5_walk_74 : decode cX5_walk 74 = .ok (.putfield 9, 3) := by decide +kernel
theorem dX5_walk_77 : decode cX5_walk 77 = .ok (.aload_n 0, 1) := by decide +kernel
theorem dX5_walk_78 : decode cX5_walk 78 = .ok (.getfield 15, 3) := by decide +kernel
theorem dX5_walk_81 : decode cX5_walk 81 = .ok (.bipush 10, 2) := by decide +kernel
theorem dX5_walk_83 : decode cX5_walk 83 = .ok (.if_icmp .ge 23, 3) := by decide +kernel
theorem dX5_walk_86 : decode cX5_walk 86 = .ok (.aload_n 0, 1) := by decide +kernel
theorem dX5_walk_87 : decode cX5_walk 87 = .ok (.getfield 9, 3) := by decide +kernel
theorem dX5_walk_90 : decode cX5_walk 90 = .ok (.aload_n 0, 1) := by decide +kernel
theorem dX5_walk_91 : decode cX5_walk 91 = .ok (.getfield 15, 3) := by decide +kernel
theorem dX5_walk_94 : decode cX5_walk 94 = .ok (.iconst 1, 1) := by decide +kernel
theorem dX5_walk_95 : decode cX5_walk 95 = .ok (.iadd, 1) := by decide +kernel
theorem dX5_walk_96 : decode cX5_walk 96 = .ok (.bipush 40, 2) := by decide +kernel
theorem dX5_walk_98 : decode cX5_walk 98 = .ok (.imul, 1) := by decide +kernel
theorem dX5_walk_99 : decode cX5_walk 99 = .ok (.if_icmp .ne 7, 3) := by decide +kernel
theorem dX5_walk_102 : decode cX5_walk 102 = .ok (.aload_n 0, 1) := by decide +kernel
theorem dX5_walk_103 : decode cX5_walk 103 = .ok (.invokevirtual 78, 3) := by decide +kernel
theorem dX5_walk_106 : decode cX5_walk 106 = .ok (.return_, 1) := by decide +kernel
theorem dX5_putMark_0 : decode cX5_putMark 0 = .ok (.aload_n 0, 1) := by decide +kernel
theorem dX5_putMark_1 : decode cX5_putMark 1 = .ok (.dup, 1) := by decide +kernel
theorem dX5_putMark_2 : decode cX5_putMark 2 = .ok (.getfield 15, 3) := by decide +kernel
theorem dX5_putMark_5 : decode cX5_putMark 5 = .ok (.iconst 1, 1) := by decide +kernel
theorem dX5_putMark_6 : decode cX5_putMark 6 = .ok (.iadd, 1) := by decide +kernel
theorem dX5_putMark_7 : decode cX5_putMark 7 = .ok (.putfield 15, 3) := by decide +kernel
theorem dX5_putMark_10 : decode cX5_putMark 10 = .ok (.iconst 0, 1) := by decide +kernel
theorem dX5_putMark_11 : decode cX5_putMark 11 = .ok (.istore_n 1, 1) := by decide +kernel
theorem dX5_putMark_12 : decode cX5_putMark 12 = .ok (.iload_n 1, 1) := by decide +kernel
theorem dX5_putMark_13 : decode cX5_putMark 13 = .ok (.bipush 64, 2) := by decide +kernel
theorem dX5_putMark_15 : decode cX5_putMark 15 = .ok (.if_icmp .ge 29, 3) := by decide +kernel
theorem dX5_putMark_18 : decode cX5_putMark 18 = .ok (.aload_n 0, 1) := by decide +kernel
theorem dX5_putMark_19 : decode cX5_putMark 19 = .ok (.getfield 51, 3) := by decide +kernel
theorem dX5_putMark_22 : decode cX5_putMark 22 = .ok (.aload_n 0, 1) := by decide +kernel
theorem dX5_putMark_23 : decode cX5_putMark 23 = .ok (.getfield 15, 3) := by decide +kernel
theorem dX5_putMark_26 : decode cX5_putMark 26 = .ok (.bipush 64, 2) := by decide +kernel
theorem dX5_putMark_28 : decode cX5_putMark 28 = .ok (.imul, 1) := by decide +kernel
theorem dX5_putMark_29 : decode cX5_putMark 29 = .ok (.iload_n 1, 1) := by decide +kernel
theorem dX5_putMark_30 : decode cX5_putMark 30 = .ok (.iadd, 1) := by decide +kernel
theorem dX5_putMark_31 : decode cX5_putMark 31 = .ok (.aload_n 0, 1) := by decide +kernel
theorem dX5_putMark_32 : decode cX5_putMark 32 = .ok (.getfield 51, 3) := by decide +kernel
theorem dX5_putMark_35 : decode cX5_putMark 35 = .ok (.iload_n 1, 1) := by decide +kernel
theorem dX5_putMark_36 : decode cX5_putMark 36 = .ok (.iaload, 1) := by decide +kernel
theorem dX5_putMark_37 : decode cX5_putMark 37 = .ok (.iastore, 1) := by decide +kernel
theorem dX5_putMark_38 : decode cX5_putMark 38 = .ok (.iinc 1 1, 3) := by decide +kernel
theorem dX5_putMark_41 : decode cX5_putMark 41 = .ok (.goto (-29), 3) := by decide +kernel
theorem dX5_putMark_44 : decode cX5_putMark 44 = .ok (.return_, 1) := by decide +kernel
theorem dX5_behindDay_0 : decode cX5_behindDay 0 = .ok (.iload_n 0, 1) := by decide +kernel
theorem dX5_behindDay_1 : decode cX5_behindDay 1 = .ok (.sipush 255, 3) := by decide +kernel
theorem dX5_behindDay_4 : decode cX5_behindDay 4 = .ok (.iand, 1) := by decide +kernel
theorem dX5_behindDay_5 : decode cX5_behindDay 5 = .ok (.istore_n 3, 1) := by decide +kernel
theorem dX5_behindDay_6 : decode cX5_behindDay 6 = .ok (.iload_n 0, 1) := by decide +kernel
theorem dX5_behindDay_7 : decode cX5_behindDay 7 = .ok (.bipush 8, 2) := by decide +kernel
theorem dX5_behindDay_9 : decode cX5_behindDay 9 = .ok (.ishr, 1) := by decide +kernel
theorem dX5_behindDay_10 : decode cX5_behindDay 10 = .ok (.istore 4, 2) := by decide +kernel
theorem dX5_behindDay_12 : decode cX5_behindDay 12 = .ok (.iload_n 1, 1) := by decide +kernel
theorem dX5_behindDay_13 : decode cX5_behindDay 13 = .ok (.iload_n 3, 1) := by decide +kernel
theorem dX5_behindDay_14 : decode cX5_behindDay 14 = .ok (.if_icmp .le 16, 3) := by decide +kernel
theorem dX5_behindDay_17 : decode cX5_behindDay 17 = .ok (.iload_n 3, 1) := by decide +kernel
theorem dX5_behindDay_18 : decode cX5_behindDay 18 = .ok (.iload_n 1, 1) := by decide +kernel
theorem dX5_behindDay_19 : decode cX5_behindDay 19 = .ok (.iload_n 3, 1) := by decide +kernel
theorem dX5_behindDay_20 : decode cX5_behindDay 20 = .ok (.isub, 1) := by decide +kernel
theorem dX5_behindDay_21 : decode cX5_behindDay 21 = .ok (.iconst 1, 1) := by decide +kernel
theorem dX5_behindDay_22 : decode cX5_behindDay 22 = .ok (.iadd, 1) := by decide +kernel
theorem dX5_behindDay_23 : decode cX5_behindDay 23 = .ok (.iconst 2, 1) := by decide +kernel
theorem dX5_behindDay_24 : decode cX5_behindDay 24 = .ok (.idiv, 1) := by decide +kernel
theorem dX5_behindDay_25 : decode cX5_behindDay 25 = .ok (.iadd, 1) := by decide +kernel
theorem dX5_behindDay_26 : decode cX5_behindDay 26 = .ok (.istore_n 3, 1) := by decide +kernel
theorem dX5_behindDay_27 : decode cX5_behindDay 27 = .ok (.goto 14, 3) := by decide +kernel
theorem dX5_behindDay_30 : decode cX5_behindDay 30 = .ok (.iload_n 3, 1) := by decide +kernel
theorem dX5_behindDay_31 : decode cX5_behindDay 31 = .ok (.iload_n 3, 1) := by decide +kernel
theorem dX5_behindDay_32 : decode cX5_behindDay 32 = .ok (.iload_n 1, 1) := by decide +kernel
theorem dX5_behindDay_33 : decode cX5_behindDay 33 = .ok (.isub, 1) := by decide +kernel
theorem dX5_behindDay_34 : decode cX5_behindDay 34 = .ok (.iload_n 2, 1) := by decide +kernel
theorem dX5_behindDay_35 : decode cX5_behindDay 35 = .ok (.imul, 1) := by decide +kernel
theorem dX5_behindDay_36 : decode cX5_behindDay 36 = .ok (.bipush 8, 2) := by decide +kernel
theorem dX5_behindDay_38 : decode cX5_behindDay 38 = .ok (.idiv, 1) := by decide +kernel
theorem dX5_behindDay_39 : decode cX5_behindDay 39 = .ok (.isub, 1) := by decide +kernel
theorem dX5_behindDay_40 : decode cX5_behindDay 40 = .ok (.istore_n 3, 1) := by decide +kernel
theorem dX5_behindDay_41 : decode cX5_behindDay 41 = .ok (.iload_n 3, 1) := by decide +kernel
theorem dX5_behindDay_42 : decode cX5_behindDay 42 = .ok (.iload 4, 2) := by decide +kernel
theorem dX5_behindDay_44 : decode cX5_behindDay 44 = .ok (.if_icmp .le 7, 3) := by decide +kernel
theorem dX5_behindDay_47 : decode cX5_behindDay 47 = .ok (.iload_n 3, 1) := by decide +kernel
theorem dX5_behindDay_48 : decode cX5_behindDay 48 = .ok (.goto 5, 3) := by decide +kernel
theorem dX5_behindDay_51 : decode cX5_behindDay 51 = .ok (.iload 4, 2) := by decide +kernel
theorem dX5_behindDay_53 : decode cX5_behindDay 53 = .ok (.bipush 8, 2) := by decide +kernel
theorem dX5_behindDay_55 : decode cX5_behindDay 55 = .ok (.ishl, 1) := by decide +kernel
theorem dX5_behindDay_56 : decode cX5_behindDay 56 = .ok (.iload_n 3, 1) := by decide +kernel
theorem dX5_behindDay_57 : decode cX5_behindDay 57 = .ok (.ior, 1) := by decide +kernel
theorem dX5_behindDay_58 : decode cX5_behindDay 58 = .ok (.ireturn, 1) := by decide +kernel
theorem dX5_goalBy_0 : decode cX5_goalBy 0 = .ok (.aload_n 0, 1) := by decide +kernel
theorem dX5_goalBy_1 : decode cX5_goalBy 1 = .ok (.aload_n 0, 1) := by decide +kernel
theorem dX5_goalBy_2 : decode cX5_goalBy 2 = .ok (.iload_n 2, 1) := by decide +kernel
theorem dX5_goalBy_3 : decode cX5_goalBy 3 = .ok (.invokevirtual 67, 3) := by decide +kernel
theorem dX5_goalBy_6 : decode cX5_goalBy 6 = .ok (.iload_n 1, 1) := by decide +kernel
theorem dX5_goalBy_7 : decode cX5_goalBy 7 = .ok (.iload_n 2, 1) := by decide +kernel
theorem dX5_goalBy_8 : decode cX5_goalBy 8 = .ok (.invokevirtual 71, 3) := by decide +kernel
theorem dX5_goalBy_11 : decode cX5_goalBy 11 = .ok (.ireturn, 1) := by decide +kernel
theorem dX5_wideOn_0 : decode cX5_wideOn 0 = .ok (.aload_n 0, 1) := by decide +kernel
theorem dX5_wideOn_1 : decode cX5_wideOn 1 = .ok (.getfield 35, 3) := by decide +kernel
theorem dX5_wideOn_4 : decode cX5_wideOn 4 = .ok (.istore_n 2, 1) := by decide +kernel
theorem dX5_wideOn_5 : decode cX5_wideOn 5 = .ok (.aload_n 0, 1) := by decide +kernel
theorem dX5_wideOn_6 : decode cX5_wideOn 6 = .ok (.getfield 18, 3) := by decide +kernel
theorem dX5_wideOn_9 : decode cX5_wideOn 9 = .ok (.astore_n 3, 1) := by decide +kernel
theorem dX5_wideOn_10 : decode cX5_wideOn 10 = .ok (.aload_n 3, 1) := by decide +kernel
theorem dX5_wideOn_11 : decode cX5_wideOn 11 = .ok (.ifnull 30, 3) := by decide +kernel
theorem dX5_wideOn_14 : decode cX5_wideOn 14 = .ok (.iload_n 2, 1) := by decide +kernel
theorem dX5_wideOn_15 : decode cX5_wideOn 15 = .ok (.aload_n 3, 1) := by decide +kernel
theorem dX5_wideOn_16 : decode cX5_wideOn 16 = .ok (.getfield 81, 3) := by decide +kernel
theorem dX5_wideOn_19 : decode cX5_wideOn 19 = .ok (.iload_n 1, 1) := by decide +kernel
theorem dX5_wideOn_20 : decode cX5_wideOn 20 = .ok (.if_icmp .gt 10, 3) := by decide +kernel
theorem dX5_wideOn_23 : decode cX5_wideOn 23 = .ok (.aload_n 3, 1) := by decide +kernel
theorem dX5_wideOn_24 : decode cX5_wideOn 24 = .ok (.getfield 86, 3) := by decide +kernel
theorem dX5_wideOn_27 : decode cX5_wideOn 27 = .ok (.goto 4, 3) := by decide +kernel
theorem dX5_wideOn_30 : decode cX5_wideOn 30 = .ok (.iconst 0, 1) := by decide +kernel
theorem dX5_wideOn_31 : decode cX5_wideOn 31 = .ok (.iadd, 1) := by decide +kernel
theorem dX5_wideOn_32 : decode cX5_wideOn 32 = .ok (.istore_n 2, 1) := by decide +kernel
theorem dX5_wideOn_33 : decode cX5_wideOn 33 = .ok (.aload_n 3, 1) := by decide +kernel
theorem dX5_wideOn_34 : decode cX5_wideOn 34 = .ok (.getfield 89, 3) := by decide +kernel
theorem dX5_wideOn_37 : decode cX5_wideOn 37 = .ok (.astore_n 3, 1) := by decide +kernel
theorem dX5_wideOn_38 : decode cX5_wideOn 38 = .ok (.goto (-28), 3) := by decide +kernel
theorem dX5_wideOn_41 : decode cX5_wideOn 41 = .ok (.iload_n 2, 1) := by decide +kernel
theorem dX5_wideOn_42 : decode cX5_wideOn 42 = .ok (.ireturn, 1) := by decide +kernel
theorem dX5_goalWith_0 : decode cX5_goalWith 0 = .ok (.iload_n 2, 1) := by decide +kernel
theorem dX5_goalWith_1 : decode cX5_goalWith 1 = .ok (.bipush 8, 2) := by decide +kernel
theorem dX5_goalWith_3 : decode cX5_goalWith 3 = .ok (.idiv, 1) := by decide +kernel
theorem dX5_goalWith_4 : decode cX5_goalWith 4 = .ok (.iconst 1, 1) := by decide +kernel
theorem dX5_goalWith_5 : decode cX5_goalWith 5 = .ok (.iadd, 1) := by decide +kernel
theorem dX5_goalWith_6 : decode cX5_goalWith 6 = .ok (.istore 4, 2) := by decide +kernel
theorem dX5_goalWith_8 : decode cX5_goalWith 8 = .ok (.iload 4, 2) := by decide +kernel
theorem dX5_goalWith_10 : decode cX5_goalWith 10 = .ok (.aload_n 0, 1) := by decide +kernel
theorem dX5_goalWith_11 : decode cX5_goalWith 11 = .ok (.getfield 47, 3) := by decide +kernel
theorem dX5_goalWith_14 : decode cX5_goalWith 14 = .ok (.iload_n 3, 1) := by decide +kernel
theorem dX5_goalWith_15 : decode cX5_goalWith 15 = .ok (.iaload, 1) := by decide +kernel
theorem dX5_goalWith_16 : decode cX5_goalWith 16 = .ok (.imul, 1) := by decide +kernel
theorem dX5_goalWith_17 : decode cX5_goalWith 17 = .ok (.iload_n 1, 1) := by decide +kernel
theorem dX5_goalWith_18 : decode cX5_goalWith 18 = .ok (.imul, 1) := by decide +kernel
theorem dX5_goalWith_19 : decode cX5_goalWith 19 = .ok (.bipush 100, 2) := by decide +kernel
theorem dX5_goalWith_21 : decode cX5_goalWith 21 = .ok (.idiv, 1) := by decide +kernel
theorem dX5_goalWith_22 : decode cX5_goalWith 22 = .ok (.istore 5, 2) := by decide +kernel
theorem dX5_goalWith_24 : decode cX5_goalWith 24 = .ok (.iload 5, 2) := by decide +kernel
theorem dX5_goalWith_26 : decode cX5_goalWith 26 = .ok (.aload_n 0, 1) := by decide +kernel
theorem dX5_goalWith_27 : decode cX5_goalWith 27 = .ok (.getfield 38, 3) := by decide +kernel
theorem dX5_goalWith_30 : decode cX5_goalWith 30 = .ok (.if_icmp .ge 8, 3) := by decide +kernel
theorem dX5_goalWith_33 : decode cX5_goalWith 33 = .ok (.iload 5, 2) := by decide +kernel
theorem dX5_goalWith_35 : decode cX5_goalWith 35 = .ok (.goto 7, 3) := by decide +kernel
theorem dX5_goalWith_38 : decode cX5_goalWith 38 = .ok (.aload_n 0, 1) := by decide +kernel
theorem dX5_goalWith_39 : decode cX5_goalWith 39 = .ok (.getfield 38, 3) := by decide +kernel
theorem dX5_goalWith_42 : decode cX5_goalWith 42 = .ok (.ireturn, 1) := by decide +kernel
theorem dX5_holeBy_0 : decode cX5_holeBy 0 = .ok (.aload_n 0, 1) := by decide +kernel
theorem dX5_holeBy_1 : decode cX5_holeBy 1 = .ok (.getfield 51, 3) := by decide +kernel
theorem dX5_holeBy_4 : decode cX5_holeBy 4 = .ok (.iload_n 1, 1) := by decide +kernel
theorem dX5_holeBy_5 : decode cX5_holeBy 5 = .ok (.iaload, 1) := by decide +kernel
theorem dX5_holeBy_6 : decode cX5_holeBy 6 = .ok (.sipush 255, 3) := by decide +kernel
theorem dX5_holeBy_9 : decode cX5_holeBy 9 = .ok (.iand, 1) := by decide +kernel
theorem dX5_holeBy_10 : decode cX5_holeBy 10 = .ok (.ireturn, 1) := by decide +kernel
theorem dX5_everBy_0 : decode cX5_everBy 0 = .ok (.aload_n 0, 1) := by decide +kernel
theorem dX5_everBy_1 : decode cX5_everBy 1 = .ok (.getfield 51, 3) := by decide +kernel
theorem dX5_everBy_4 : decode cX5_everBy 4 = .ok (.iload_n 1, 1) := by decide +kernel
theorem dX5_everBy_5 : decode cX5_everBy 5 = .ok (.iaload, 1) := by decide +kernel
theorem dX5_everBy_6 : decode cX5_everBy 6 = .ok (.bipush 8, 2) := by decide +kernel
theorem dX5_everBy_8 : decode cX5_everBy 8 = .ok (.ishr, 1) := by decide +kernel
theorem dX5_everBy_9 : decode cX5_everBy 9 = .ok (.ireturn, 1) := by decide +kernel
theorem dX5_stateBy_0 : decode cX5_stateBy 0 = .ok (.aload_n 0, 1) := by decide +kernel
theorem dX5_stateBy_1 : decode cX5_stateBy 1 = .ok (.aload_n 0, 1) := by decide +kernel
theorem dX5_stateBy_2 : decode cX5_stateBy 2 = .ok (.iload_n 1, 1) := by decide +kernel
theorem dX5_stateBy_3 : decode cX5_stateBy 3 = .ok (.invokevirtual 92, 3) := by decide +kernel
theorem dX5_stateBy_6 : decode cX5_stateBy 6 = .ok (.invokevirtual 95, 3) := by decide +kernel
theorem dX5_stateBy_9 : decode cX5_stateBy 9 = .ok (.ireturn, 1) := by decide +kernel
theorem dX5_stateWith_0 : decode cX5_stateWith 0 = .ok (.iload_n 1, 1) := by decide +kernel
theorem dX5_stateWith_1 : decode cX5_stateWith 1 = .ok (.aload_n 0, 1) := by decide +kernel
theorem dX5_stateWith_2 : decode cX5_stateWith 2 = .ok (.getfield 41, 3) := by decide +kernel
theorem dX5_stateWith_5 : decode cX5_stateWith 5 = .ok (.if_icmp .gt 5, 3) := by decide +kernel
theorem dX5_stateWith_8 : decode cX5_stateWith 8 = .ok (.iconst 0, 1) := by decide +kernel
theorem dX5_stateWith_9 : decode cX5_stateWith 9 = .ok (.ireturn, 1) := by decide +kernel
theorem dX5_stateWith_10 : decode cX5_stateWith 10 = .ok (.iload_n 1, 1) := by decide +kernel
theorem dX5_stateWith_11 : decode cX5_stateWith 11 = .ok (.aload_n 0, 1) := by decide +kernel
theorem dX5_stateWith_12 : decode cX5_stateWith 12 = .ok (.getfield 41, 3) := by decide +kernel
theorem dX5_stateWith_15 : decode cX5_stateWith 15 = .ok (.aload_n 0, 1) := by decide +kernel
theorem dX5_stateWith_16 : decode cX5_stateWith 16 = .ok (.getfield 44, 3) := by decide +kernel
theorem dX5_stateWith_19 : decode cX5_stateWith 19 = .ok (.iadd, 1) := by decide +kernel
theorem dX5_stateWith_20 : decode cX5_stateWith 20 = .ok (.if_icmp .gt 7, 3) := by decide +kernel
theorem dX5_stateWith_23 : decode cX5_stateWith 23 = .ok (.iconst 1, 1) := by decide +kernel
theorem dX5_stateWith_24 : decode cX5_stateWith 24 = .ok (.goto 4, 3) := by decide +kernel
theorem dX5_stateWith_27 : decode cX5_stateWith 27 = .ok (.iconst 2, 1) := by decide +kernel
theorem dX5_stateWith_28 : decode cX5_stateWith 28 = .ok (.ireturn, 1) := by decide +kernel
theorem dX5_firstDay_0 : decode cX5_firstDay 0 = .ok (.iconst 0, 1) := by decide +kernel
theorem dX5_firstDay_1 : decode cX5_firstDay 1 = .ok (.istore_n 3, 1) := by decide +kernel
theorem dX5_firstDay_2 : decode cX5_firstDay 2 = .ok (.iconst 0, 1) := by decide +kernel
theorem dX5_firstDay_3 : decode cX5_firstDay 3 = .ok (.istore 4, 2) := by decide +kernel
theorem dX5_firstDay_5 : decode cX5_firstDay 5 = .ok (.iload 4, 2) := by decide +kernel
theorem dX5_firstDay_7 : decode cX5_firstDay 7 = .ok (.sipush 400, 3) := by decide +kernel
theorem dX5_firstDay_10 : decode cX5_firstDay 10 = .ok (.if_icmp .ge 40, 3) := by decide +kernel
theorem dX5_firstDay_13 : decode cX5_firstDay 13 = .ok (.iload_n 3, 1) := by decide +kernel
theorem dX5_firstDay_14 : decode cX5_firstDay 14 = .ok (.aload_n 0, 1) := by decide +kernel
theorem dX5_firstDay_15 : decode cX5_firstDay 15 = .ok (.iload_n 1, 1) := by decide +kernel
theorem dX5_firstDay_16 : decode cX5_firstDay 16 = .ok (.iload 4, 2) := by decide +kernel
theorem dX5_firstDay_18 : decode cX5_firstDay 18 = .ok (.invokevirtual 98, 3) := by decide +kernel
theorem dX5_firstDay_21 : decode cX5_firstDay 21 = .ok (.iload_n 1, 1) := by decide +kernel
theorem dX5_firstDay_22 : decode cX5_firstDay 22 = .ok (.bipush 8, 2) := by decide +kernel
theorem dX5_firstDay_24 : decode cX5_firstDay 24 = .ok (.irem, 1) := by decide +kernel
theorem dX5_firstDay_25 : decode cX5_firstDay 25 = .ok (.invokestatic 75, 3) := by decide +kernel
theorem dX5_firstDay_28 : decode cX5_firstDay 28 = .ok (.istore_n 3, 1) := by decide +kernel
theorem dX5_firstDay_29 : decode cX5_firstDay 29 = .ok (.aload_n 0, 1) := by decide +kernel
theorem dX5_firstDay_30 : decode cX5_firstDay 30 = .ok (.iload_n 3, 1) := by decide +kernel
theorem dX5_firstDay_31 : decode cX5_firstDay 31 = .ok (.bipush 8, 2) := by decide +kernel
theorem dX5_firstDay_33 : decode cX5_firstDay 33 = .ok (.ishr, 1) := by decide +kernel
theorem dX5_firstDay_34 : decode cX5_firstDay 34 = .ok (.invokevirtual 95, 3) := by decide +kernel
theorem dX5_firstDay_37 : decode cX5_firstDay 37 = .ok (.iload_n 2, 1) := by decide +kernel
theorem dX5_firstDay_38 : decode cX5_firstDay 38 = .ok (.if_icmp .lt 6, 3) := by decide +kernel
theorem dX5_firstDay_41 : decode cX5_firstDay 41 = .ok (.iload 4, 2) := by decide +kernel
theorem dX5_firstDay_43 : decode cX5_firstDay 43 = .ok (.ireturn, 1) := by decide +kernel
theorem dX5_firstDay_44 : decode cX5_firstDay 44 = .ok (.iinc 4 1, 3) := by decide +kernel
theorem dX5_firstDay_47 : decode cX5_firstDay 47 = .ok (.goto (-42), 3) := by decide +kernel
theorem dX5_firstDay_50 : decode cX5_firstDay 50 = .ok (.iconst (-1), 1) := by decide +kernel
theorem dX5_firstDay_51 : decode cX5_firstDay 51 = .ok (.ireturn, 1) := by decide +kernel
theorem dX5_greatestEver_0 : decode cX5_greatestEver 0 = .ok (.aload_n 0, 1) := by decide +kernel
theorem dX5_greatestEver_1 : decode cX5_greatestEver 1 = .ok (.iload_n 1, 1) := by decide +kernel
theorem dX5_greatestEver_2 : decode cX5_greatestEver 2 = .ok (.invokevirtual 101, 3) := by decide +kernel
theorem dX5_greatestEver_5 : decode cX5_greatestEver 5 = .ok (.iconst 0, 1) := by decide +kernel
theorem dX5_greatestEver_6 : decode cX5_greatestEver 6 = .ok (.istore_n 2, 1) := by decide +kernel
theorem dX5_greatestEver_7 : decode cX5_greatestEver 7 = .ok (.iconst 0, 1) := by decide +kernel
theorem dX5_greatestEver_8 : decode cX5_greatestEver 8 = .ok (.istore_n 3, 1) := by decide +kernel
theorem dX5_greatestEver_9 : decode cX5_greatestEver 9 = .ok (.iload_n 3, 1) := by decide +kernel
theorem dX5_greatestEver_10 : decode cX5_greatestEver 10 = .ok (.bipush 64, 2) := by decide +kernel
theorem dX5_greatestEver_12 : decode cX5_greatestEver 12 = .ok (.if_icmp .ge 30, 3) := by decide +kernel
theorem dX5_greatestEver_15 : decode cX5_greatestEver 15 = .ok (.aload_n 0, 1) := by decide +kernel
theorem dX5_greatestEver_16 : decode cX5_greatestEver 16 = .ok (.getfield 29, 3) := by decide +kernel
theorem dX5_greatestEver_19 : decode cX5_greatestEver 19 = .ok (.iload_n 3, 1) := by decide +kernel
theorem dX5_greatestEver_20 : decode cX5_greatestEver 20 = .ok (.invokestatic 104, 3) := by decide +kernel
theorem dX5_greatestEver_23 : decode cX5_greatestEver 23 = .ok (.ifCond .eq 13, 3) := by decide +kernel
theorem dX5_greatestEver_26 : decode cX5_greatestEver 26 = .ok (.iload_n 2, 1) := by decide +kernel
theorem dX5_greatestEver_27 : decode cX5_greatestEver 27 = .ok (.aload_n 0, 1) := by decide +kernel
theorem dX5_greatestEver_28 : decode cX5_greatestEver 28 = .ok (.iload_n 3, 1) := by decide +kernel
theorem dX5_greatestEver_29 : decode cX5_greatestEver 29 = .ok (.invokevirtual 92, 3) := by decide +kernel
theorem dX5_greatestEver_32 : decode cX5_greatestEver 32 = .ok (.invokestatic 108, 3) := by decide +kernel
theorem dX5_greatestEver_35 : decode cX5_greatestEver 35 = .ok (.istore_n 2, 1) := by decide +kernel
theorem dX5_greatestEver_36 : decode cX5_greatestEver 36 = .ok (.iinc 3 1, 3) := by decide +kernel
theorem dX5_greatestEver_39 : decode cX5_greatestEver 39 = .ok (.goto (-30), 3) := by decide +kernel
theorem dX5_greatestEver_42 : decode cX5_greatestEver 42 = .ok (.iload_n 2, 1) := by decide +kernel
theorem dX5_greatestEver_43 : decode cX5_greatestEver 43 = .ok (.ireturn, 1) := by decide +kernel
theorem dX5_mindsInState_0 : decode cX5_mindsInState 0 = .ok (.aload_n 0, 1) := by decide +kernel
theorem dX5_mindsInState_1 : decode cX5_mindsInState 1 = .ok (.iload_n 1, 1) := by decide +kernel
theorem dX5_mindsInState_2 : decode cX5_mindsInState 2 = .ok (.invokevirtual 101, 3) := by decide +kernel
theorem dX5_mindsInState_5 : decode cX5_mindsInState 5 = .ok (.lconst 0, 1) := by decide +kernel
theorem dX5_mindsInState_6 : decode cX5_mindsInState 6 = .ok (.lstore_n 3, 1) := by decide +kernel
theorem dX5_mindsInState_7 : decode cX5_mindsInState 7 = .ok (.iconst 0, 1) := by decide +kernel
theorem dX5_mindsInState_8 : decode cX5_mindsInState 8 = .ok (.istore 5, 2) := by decide +kernel
theorem dX5_mindsInState_10 : decode cX5_mindsInState 10 = .ok (.iload 5, 2) := by decide +kernel
theorem dX5_mindsInState_12 : decode cX5_mindsInState 12 = .ok (.bipush 64, 2) := by decide +kernel
theorem dX5_mindsInState_14 : decode cX5_mindsInState 14 = .ok (.if_icmp .ge 38, 3) := by decide +kernel
theorem dX5_mindsInState_17 : decode cX5_mindsInState 17 = .ok (.aload_n 0, 1) := by decide +kernel
theorem dX5_mindsInState_18 : decode cX5_mindsInState 18 = .ok (.getfield 29, 3) := by decide +kernel
theorem dX5_mindsInState_21 : decode cX5_mindsInState 21 = .ok (.iload 5, 2) := by decide +kernel
theorem dX5_mindsInState_23 : decode cX5_mindsInState 23 = .ok (.invokestatic 104, 3) := by decide +kernel
theorem dX5_mindsInState_26 : decode cX5_mindsInState 26 = .ok (.ifCond .eq 20, 3) := by decide +kernel
theorem dX5_mindsInState_29 : decode cX5_mindsInState 29 = .ok (.aload_n 0, 1) := by decide +kernel
theorem dX5_mindsInState_30 : decode cX5_mindsInState 30 = .ok (.iload 5, 2) := by decide +kernel
theorem dX5_mindsInState_32 : decode cX5_mindsInState 32 = .ok (.invokevirtual 111, 3) := by decide +kernel
theorem dX5_mindsInState_35 : decode cX5_mindsInState 35 = .ok (.iload_n 2, 1) := by decide +kernel
theorem dX5_mindsInState_36 : decode cX5_mindsInState 36 = .ok (.if_icmp .ne 10, 3) := by decide +kernel
theorem dX5_mindsInState_39 : decode cX5_mindsInState 39 = .ok (.lload_n 3, 1) := by decide +kernel
theorem dX5_mindsInState_40 : decode cX5_mindsInState 40 = .ok (.lconst 1, 1) := by decide +kernel
theorem dX5_mindsInState_41 : decode cX5_mindsInState 41 = .ok (.iload 5, 2) := by decide +kernel
theorem dX5_mindsInState_43 : decode cX5_mindsInState 43 = .ok (.lshl, 1) := by decide +kernel
theorem dX5_mindsInState_44 : decode cX5_mindsInState 44 = .ok (.lor, 1) := by decide +kernel
theorem dX5_mindsInState_45 : decode cX5_mindsInState 45 = .ok (.lstore_n 3, 1) := by decide +kernel
theorem dX5_mindsInState_46 : decode cX5_mindsInState 46 = .ok (.iinc 5 1, 3) := by decide +kernel
theorem dX5_mindsInState_49 : decode cX5_mindsInState 49 = .ok (.goto (-39), 3) := by decide +kernel
theorem dX5_mindsInState_52 : decode cX5_mindsInState 52 = .ok (.lload_n 3, 1) := by decide +kernel
theorem dX5_mindsInState_53 : decode cX5_mindsInState 53 = .ok (.lreturn, 1) := by decide +kernel
theorem dX5_mindsThatSayYes_0 : decode cX5_mindsThatSayYes 0 = .ok (.aload_n 0, 1) := by decide +kernel
theorem dX5_mindsThatSayYes_1 : decode cX5_mindsThatSayYes 1 = .ok (.iload_n 1, 1) := by decide +kernel
theorem dX5_mindsThatSayYes_2 : decode cX5_mindsThatSayYes 2 = .ok (.iload_n 2, 1) := by decide +kernel
theorem dX5_mindsThatSayYes_3 : decode cX5_mindsThatSayYes 3 = .ok (.ifCond .ne 7, 3) := by decide +kernel
theorem dX5_mindsThatSayYes_6 : decode cX5_mindsThatSayYes 6 = .ok (.iconst 0, 1) := by decide +kernel
theorem dX5_mindsThatSayYes_7 : decode cX5_mindsThatSayYes 7 = .ok (.goto 4, 3) := by decide +kernel
theorem dX5_mindsThatSayYes_10 : decode cX5_mindsThatSayYes 10 = .ok (.iconst 2, 1) := by decide +kernel
theorem dX5_mindsThatSayYes_11 : decode cX5_mindsThatSayYes 11 = .ok (.invokevirtual 114, 3) := by decide +kernel
theorem dX5_mindsThatSayYes_14 : decode cX5_mindsThatSayYes 14 = .ok (.lreturn, 1) := by decide +kernel
theorem dX6_init_0 : decode cX6_init 0 = .ok (.aload_n 0, 1) := by decide +kernel
theorem dX6_init_1 : decode cX6_init 1 = .ok (.invokespecial 3, 3) := by decide +kernel
theorem dX6_init_4 : decode cX6_init 4 = .ok (.aload_n 0, 1) := by decide +kernel
theorem dX6_init_5 : decode cX6_init 5 = .ok (.bipush 64, 2) := by decide +kernel
theorem dX6_init_7 : decode cX6_init 7 = .ok (.newarray .int, 2) := by decide +kernel
theorem dX6_init_9 : decode cX6_init 9 = .ok (.putfield 9, 3) := by decide +kernel
theorem dX6_init_12 : decode cX6_init 12 = .ok (.aload_n 0, 1) := by decide +kernel
theorem dX6_init_13 : decode cX6_init 13 = .ok (.bipush 64, 2) := by decide +kernel
theorem dX6_init_15 : decode cX6_init 15 = .ok (.newarray .int, 2) := by decide +kernel
theorem dX6_init_17 : decode cX6_init 17 = .ok (.putfield 15, 3) := by decide +kernel
theorem dX6_init_20 : decode cX6_init 20 = .ok (.aload_n 0, 1) := by decide +kernel
theorem dX6_init_21 : decode cX6_init 21 = .ok (.iconst 0, 1) := by decide +kernel
theorem dX6_init_22 : decode cX6_init 22 = .ok (.putfield 18, 3) := by decide +kernel
theorem dX6_init_25 : decode cX6_init 25 = .ok (.return_, 1) := by decide +kernel
theorem dX6_clear_0 : decode cX6_clear 0 = .ok (.aload_n 0, 1) := by decide +kernel
theorem dX6_clear_1 : decode cX6_clear 1 = .ok (.iconst 0, 1) := by decide +kernel
theorem dX6_clear_2 : decode cX6_clear 2 = .ok (.putfield 18, 3) := by decide +kernel
theorem dX6_clear_5 : decode cX6_clear 5 = .ok (.return_, 1) := by decide +kernel
theorem dX6_add_0 : decode cX6_add 0 = .ok (.aload_n 0, 1) := by decide +kernel
theorem dX6_add_1 : decode cX6_add 1 = .ok (.getfield 18, 3) := by decide +kernel
theorem dX6_add_4 : decode cX6_add 4 = .ok (.bipush 64, 2) := by decide +kernel
theorem dX6_add_6 : decode cX6_add 6 = .ok (.if_icmp .ge 33, 3) := by decide +kernel
theorem dX6_add_9 : decode cX6_add 9 = .ok (.aload_n 0, 1) := by decide +kernel
theorem dX6_add_10 : decode cX6_add 10 = .ok (.getfield 9, 3) := by decide +kernel
theorem dX6_add_13 : decode cX6_add 13 = .ok (.aload_n 0, 1) := by decide +kernel
theorem dX6_add_14 : decode cX6_add 14 = .ok (.getfield 18, 3) := by decide +kernel
theorem dX6_add_17 : decode cX6_add 17 = .ok (.iload_n 1, 1) := by decide +kernel
theorem dX6_add_18 : decode cX6_add 18 = .ok (.iastore, 1) := by decide +kernel
theorem dX6_add_19 : decode cX6_add 19 = .ok (.aload_n 0, 1) := by decide +kernel
theorem dX6_add_20 : decode cX6_add 20 = .ok (.getfield 15, 3) := by decide +kernel
theorem dX6_add_23 : decode cX6_add 23 = .ok (.aload_n 0, 1) := by decide +kernel
theorem dX6_add_24 : decode cX6_add 24 = .ok (.getfield 18, 3) := by decide +kernel
theorem dX6_add_27 : decode cX6_add 27 = .ok (.iload_n 2, 1) := by decide +kernel
theorem dX6_add_28 : decode cX6_add 28 = .ok (.iastore, 1) := by decide +kernel
theorem dX6_add_29 : decode cX6_add 29 = .ok (.aload_n 0, 1) := by decide +kernel
theorem dX6_add_30 : decode cX6_add 30 = .ok (.dup, 1) := by decide +kernel
theorem dX6_add_31 : decode cX6_add 31 = .ok (.getfield 18, 3) := by decide +kernel
theorem dX6_add_34 : decode cX6_add 34 = .ok (.iconst 1, 1) := by decide +kernel
theorem dX6_add_35 : decode cX6_add 35 = .ok (.iadd, 1) := by decide +kernel
theorem dX6_add_36 : decode cX6_add 36 = .ok (.putfield 18, 3) := by decide +kernel
theorem dX6_add_39 : decode cX6_add 39 = .ok (.return_, 1) := by decide +kernel
theorem dX7_init_0 : decode cX7_init 0 = .ok (.aload_n 0, 1) := by decide +kernel
theorem dX7_init_1 : decode cX7_init 1 = .ok (.invokespecial 1, 3) := by decide +kernel
theorem dX7_init_4 : decode cX7_init 4 = .ok (.aload_n 0, 1) := by decide +kernel
theorem dX7_init_5 : decode cX7_init 5 = .ok (.iload_n 1, 1) := by decide +kernel
theorem dX7_init_6 : decode cX7_init 6 = .ok (.putfield 7, 3) := by decide +kernel
theorem dX7_init_9 : decode cX7_init 9 = .ok (.aload_n 0, 1) := by decide +kernel
theorem dX7_init_10 : decode cX7_init 10 = .ok (.iload_n 2, 1) := by decide +kernel
theorem dX7_init_11 : decode cX7_init 11 = .ok (.putfield 13, 3) := by decide +kernel
theorem dX7_init_14 : decode cX7_init 14 = .ok (.aload_n 0, 1) := by decide +kernel
theorem dX7_init_15 : decode cX7_init 15 = .ok (.aload_n 3, 1) := by decide +kernel
theorem dX7_init_16 : decode cX7_init 16 = .ok (.putfield 16, 3) := by decide +kernel
theorem dX7_init_19 : decode cX7_init 19 = .ok (.return_, 1) := by decide +kernel
theorem dX8_init_0 : decode cX8_init 0 = .ok (.aload_n 0, 1) := by decide +kernel
theorem dX8_init_1 : decode cX8_init 1 = .ok (.invokespecial 3, 3) := by decide +kernel
theorem dX8_init_4 : decode cX8_init 4 = .ok (.aload_n 0, 1) := by decide +kernel
theorem dX8_init_5 : decode cX8_init 5 = .ok (.bipush 60, 2) := by decide +kernel
theorem dX8_init_7 : decode cX8_init 7 = .ok (.newarray .int, 2) := by decide +kernel
theorem dX8_init_9 : decode cX8_init 9 = .ok (.putfield 9, 3) := by decide +kernel
theorem dX8_init_12 : decode cX8_init 12 = .ok (.aload_n 0, 1) := by decide +kernel
theorem dX8_init_13 : decode cX8_init 13 = .ok (.bipush 60, 2) := by decide +kernel
theorem dX8_init_15 : decode cX8_init 15 = .ok (.newarray .int, 2) := by decide +kernel
theorem dX8_init_17 : decode cX8_init 17 = .ok (.putfield 15, 3) := by decide +kernel
theorem dX8_init_20 : decode cX8_init 20 = .ok (.aload_n 0, 1) := by decide +kernel
theorem dX8_init_21 : decode cX8_init 21 = .ok (.iconst 0, 1) := by decide +kernel
theorem dX8_init_22 : decode cX8_init 22 = .ok (.putfield 18, 3) := by decide +kernel
theorem dX8_init_25 : decode cX8_init 25 = .ok (.return_, 1) := by decide +kernel
theorem dX8_clear_0 : decode cX8_clear 0 = .ok (.aload_n 0, 1) := by decide +kernel
theorem dX8_clear_1 : decode cX8_clear 1 = .ok (.iconst 0, 1) := by decide +kernel
theorem dX8_clear_2 : decode cX8_clear 2 = .ok (.putfield 18, 3) := by decide +kernel
theorem dX8_clear_5 : decode cX8_clear 5 = .ok (.return_, 1) := by decide +kernel
theorem dX8_addDay_0 : decode cX8_addDay 0 = .ok (.aload_n 0, 1) := by decide +kernel
theorem dX8_addDay_1 : decode cX8_addDay 1 = .ok (.getfield 18, 3) := by decide +kernel
theorem dX8_addDay_4 : decode cX8_addDay 4 = .ok (.bipush 60, 2) := by decide +kernel
theorem dX8_addDay_6 : decode cX8_addDay 6 = .ok (.if_icmp .ge 33, 3) := by decide +kernel
theorem dX8_addDay_9 : decode cX8_addDay 9 = .ok (.aload_n 0, 1) := by decide +kernel
theorem dX8_addDay_10 : decode cX8_addDay 10 = .ok (.getfield 9, 3) := by decide +kernel
theorem dX8_addDay_13 : decode cX8_addDay 13 = .ok (.aload_n 0, 1) := by decide +kernel
theorem dX8_addDay_14 : decode cX8_addDay 14 = .ok (.getfield 18, 3) := by decide +kernel
theorem dX8_addDay_17 : decode cX8_addDay 17 = .ok (.iload_n 1, 1) := by decide +kernel
theorem dX8_addDay_18 : decode cX8_addDay 18 = .ok (.iastore, 1) := by decide +kernel
theorem dX8_addDay_19 : decode cX8_addDay 19 = .ok (.aload_n 0, 1) := by decide +kernel
theorem dX8_addDay_20 : decode cX8_addDay 20 = .ok (.getfield 15, 3) := by decide +kernel
theorem dX8_addDay_23 : decode cX8_addDay 23 = .ok (.aload_n 0, 1) := by decide +kernel
theorem dX8_addDay_24 : decode cX8_addDay 24 = .ok (.getfield 18, 3) := by decide +kernel
theorem dX8_addDay_27 : decode cX8_addDay 27 = .ok (.iload_n 2, 1) := by decide +kernel
theorem dX8_addDay_28 : decode cX8_addDay 28 = .ok (.iastore, 1) := by decide +kernel
theorem dX8_addDay_29 : decode cX8_addDay 29 = .ok (.aload_n 0, 1) := by decide +kernel
theorem dX8_addDay_30 : decode cX8_addDay 30 = .ok (.dup, 1) := by decide +kernel
theorem dX8_addDay_31 : decode cX8_addDay 31 = .ok (.getfield 18, 3) := by decide +kernel
theorem dX8_addDay_34 : decode cX8_addDay 34 = .ok (.iconst 1, 1) := by decide +kernel
theorem dX8_addDay_35 : decode cX8_addDay 35 = .ok (.iadd, 1) := by decide +kernel
theorem dX8_addDay_36 : decode cX8_addDay 36 = .ok (.putfield 18, 3) := by decide +kernel
theorem dX8_addDay_39 : decode cX8_addDay 39 = .ok (.return_, 1) := by decide +kernel
theorem dX8_shutDays_0 : decode cX8_shutDays 0 = .ok (.iconst 0, 1) := by decide +kernel
theorem dX8_shutDays_1 : decode cX8_shutDays 1 = .ok (.istore_n 2, 1) := by decide +kernel
theorem dX8_shutDays_2 : decode cX8_shutDays 2 = .ok (.iconst 0, 1) := by decide +kernel
theorem dX8_shutDays_3 : decode cX8_shutDays 3 = .ok (.istore_n 3, 1) := by decide +kernel
theorem dX8_shutDays_4 : decode cX8_shutDays 4 = .ok (.iload_n 3, 1) := by decide +kernel
theorem dX8_shutDays_5 : decode cX8_shutDays 5 = .ok (.aload_n 0, 1) := by decide +kernel
theorem dX8_shutDays_6 : decode cX8_shutDays 6 = .ok (.getfield 18, 3) := by decide +kernel
theorem dX8_shutDays_9 : decode cX8_shutDays 9 = .ok (.if_icmp .ge 22, 3) := by decide +kernel
theorem dX8_shutDays_12 : decode cX8_shutDays 12 = .ok (.iload_n 1, 1) := by decide +kernel
theorem dX8_shutDays_13 : decode cX8_shutDays 13 = .ok (.aload_n 0, 1) := by decide +kernel
theorem dX8_shutDays_14 : decode cX8_shutDays 14 = .ok (.getfield 9, 3) := by decide +kernel
theorem dX8_shutDays_17 : decode cX8_shutDays 17 = .ok (.iload_n 3, 1) := by decide +kernel
theorem dX8_shutDays_18 : decode cX8_shutDays 18 = .ok (.iaload, 1) := by decide +kernel
theorem dX8_shutDays_19 : decode cX8_shutDays 19 = .ok (.if_icmp .ge 6, 3) := by decide +kernel
theorem dX8_shutDays_22 : decode cX8_shutDays 22 = .ok (.iinc 2 1, 3) := by decide +kernel
theorem dX8_shutDays_25 : decode cX8_shutDays 25 = .ok (.iinc 3 1, 3) := by decide +kernel
theorem dX8_shutDays_28 : decode cX8_shutDays 28 = .ok (.goto (-24), 3) := by decide +kernel
theorem dX8_shutDays_31 : decode cX8_shutDays 31 = .ok (.iload_n 2, 1) := by decide +kernel
theorem dX8_shutDays_32 : decode cX8_shutDays 32 = .ok (.ireturn, 1) := by decide +kernel
theorem dX8_lateDays_0 : decode cX8_lateDays 0 = .ok (.iconst 0, 1) := by decide +kernel
theorem dX8_lateDays_1 : decode cX8_lateDays 1 = .ok (.istore_n 2, 1) := by decide +kernel
theorem dX8_lateDays_2 : decode cX8_lateDays 2 = .ok (.iconst 0, 1) := by decide +kernel
theorem dX8_lateDays_3 : decode cX8_lateDays 3 = .ok (.istore_n 3, 1) := by decide +kernel
theorem dX8_lateDays_4 : decode cX8_lateDays 4 = .ok (.iload_n 3, 1) := by decide +kernel
theorem dX8_lateDays_5 : decode cX8_lateDays 5 = .ok (.aload_n 0, 1) := by decide +kernel
theorem dX8_lateDays_6 : decode cX8_lateDays 6 = .ok (.getfield 18, 3) := by decide +kernel
theorem dX8_lateDays_9 : decode cX8_lateDays 9 = .ok (.if_icmp .ge 32, 3) := by decide +kernel
theorem dX8_lateDays_12 : decode cX8_lateDays 12 = .ok (.iload_n 1, 1) := by decide +kernel
theorem dX8_lateDays_13 : decode cX8_lateDays 13 = .ok (.aload_n 0, 1) := by decide +kernel
theorem dX8_lateDays_14 : decode cX8_lateDays 14 = .ok (.getfield 9, 3) := by decide +kernel
theorem dX8_lateDays_17 : decode cX8_lateDays 17 = .ok (.iload_n 3, 1) := by decide +kernel
theorem dX8_lateDays_18 : decode cX8_lateDays 18 = .ok (.iaload, 1) := by decide +kernel
theorem dX8_lateDays_19 : decode cX8_lateDays 19 = .ok (.if_icmp .lt 16, 3) := by decide +kernel
theorem dX8_lateDays_22 : decode cX8_lateDays 22 = .ok (.aload_n 0, 1) := by decide +kernel
theorem dX8_lateDays_23 : decode cX8_lateDays 23 = .ok (.getfield 15, 3) := by decide +kernel
theorem dX8_lateDays_26 : decode cX8_lateDays 26 = .ok (.iload_n 3, 1) := by decide +kernel
theorem dX8_lateDays_27 : decode cX8_lateDays 27 = .ok (.iaload, 1) := by decide +kernel
theorem dX8_lateDays_28 : decode cX8_lateDays 28 = .ok (.iconst 2, 1) := by decide +kernel
theorem dX8_lateDays_29 : decode cX8_lateDays 29 = .ok (.if_icmp .ne 6, 3) := by decide +kernel
theorem dX8_lateDays_32 : decode cX8_lateDays 32 = .ok (.iinc 2 1, 3) := by decide +kernel
theorem dX8_lateDays_35 : decode cX8_lateDays 35 = .ok (.iinc 3 1, 3) := by decide +kernel
theorem dX8_lateDays_38 : decode cX8_lateDays 38 = .ok (.goto (-34), 3) := by decide +kernel
theorem dX8_lateDays_41 : decode cX8_lateDays 41 = .ok (.iload_n 2, 1) := by decide +kernel
theorem dX8_lateDays_42 : decode cX8_lateDays 42 = .ok (.ireturn, 1) := by decide +kernel
theorem dX8_falseDays_0 : decode cX8_falseDays 0 = .ok (.iconst 0, 1) := by decide +kernel
theorem dX8_falseDays_1 : decode cX8_falseDays 1 = .ok (.istore_n 2, 1) := by decide +kernel
theorem dX8_falseDays_2 : decode cX8_falseDays 2 = .ok (.iconst 0, 1) := by decide +kernel
theorem dX8_falseDays_3 : decode cX8_falseDays 3 = .ok (.istore_n 3, 1) := by decide +kernel
theorem dX8_falseDays_4 : decode cX8_falseDays 4 = .ok (.iload_n 3, 1) := by decide +kernel
theorem dX8_falseDays_5 : decode cX8_falseDays 5 = .ok (.aload_n 0, 1) := by decide +kernel
theorem dX8_falseDays_6 : decode cX8_falseDays 6 = .ok (.getfield 18, 3) := by decide +kernel
theorem dX8_falseDays_9 : decode cX8_falseDays 9 = .ok (.if_icmp .ge 31, 3) := by decide +kernel
theorem dX8_falseDays_12 : decode cX8_falseDays 12 = .ok (.iload_n 1, 1) := by decide +kernel
theorem dX8_falseDays_13 : decode cX8_falseDays 13 = .ok (.aload_n 0, 1) := by decide +kernel
theorem dX8_falseDays_14 : decode cX8_falseDays 14 = .ok (.getfield 9, 3) := by decide +kernel
theorem dX8_falseDays_17 : decode cX8_falseDays 17 = .ok (.iload_n 3, 1) := by decide +kernel
theorem dX8_falseDays_18 : decode cX8_falseDays 18 = .ok (.iaload, 1) := by decide +kernel
theorem dX8_falseDays_19 : decode cX8_falseDays 19 = .ok (.if_icmp .ge 15, 3) := by decide +kernel
theorem dX8_falseDays_22 : decode cX8_falseDays 22 = .ok (.aload_n 0, 1) := by decide +kernel
theorem dX8_falseDays_23 : decode cX8_falseDays 23 = .ok (.getfield 15, 3) := by decide +kernel
theorem dX8_falseDays_26 : decode cX8_falseDays 26 = .ok (.iload_n 3, 1) := by decide +kernel
theorem dX8_falseDays_27 : decode cX8_falseDays 27 = .ok (.iaload, 1) := by decide +kernel
theorem dX8_falseDays_28 : decode cX8_falseDays 28 = .ok (.ifCond .ne 6, 3) := by decide +kernel
theorem dX8_falseDays_31 : decode cX8_falseDays 31 = .ok (.iinc 2 1, 3) := by decide +kernel
theorem dX8_falseDays_34 : decode cX8_falseDays 34 = .ok (.iinc 3 1, 3) := by decide +kernel
theorem dX8_falseDays_37 : decode cX8_falseDays 37 = .ok (.goto (-33), 3) := by decide +kernel
theorem dX8_falseDays_40 : decode cX8_falseDays 40 = .ok (.iload_n 2, 1) := by decide +kernel
theorem dX8_falseDays_41 : decode cX8_falseDays 41 = .ok (.ireturn, 1) := by decide +kernel
theorem dX9_init_0 : decode cX9_init 0 = .ok (.aload_n 0, 1) := by decide +kernel
theorem dX9_init_1 : decode cX9_init 1 = .ok (.invokespecial 3, 3) := by decide +kernel
theorem dX9_init_4 : decode cX9_init 4 = .ok (.aload_n 0, 1) := by decide +kernel
theorem dX9_init_5 : decode cX9_init 5 = .ok (.sipush 400, 3) := by decide +kernel
theorem dX9_init_8 : decode cX9_init 8 = .ok (.newarray .int, 2) := by decide +kernel
theorem dX9_init_10 : decode cX9_init 10 = .ok (.putfield 9, 3) := by decide +kernel
theorem dX9_init_13 : decode cX9_init 13 = .ok (.aload_n 0, 1) := by decide +kernel
theorem dX9_init_14 : decode cX9_init 14 = .ok (.bipush 8, 2) := by decide +kernel
theorem dX9_init_16 : decode cX9_init 16 = .ok (.sipush 704, 3) := by decide +kernel
theorem dX9_init_19 : decode cX9_init 19 = .ok (.multianewarray 13 2, 4) := by decide +kernel
theorem dX9_init_23 : decode cX9_init 23 = .ok (.putfield 15, 3) := by decide +kernel
theorem dX9_init_26 : decode cX9_init 26 = .ok (.aload_n 0, 1) := by decide +kernel
theorem dX9_init_27 : decode cX9_init 27 = .ok (.new 18, 3) := by decide +kernel
theorem dX9_init_30 : decode cX9_init 30 = .ok (.dup, 1) := by decide +kernel
theorem dX9_init_31 : decode cX9_init 31 = .ok (.invokespecial 20, 3) := by decide +kernel
theorem dX9_init_34 : decode cX9_init 34 = .ok (.putfield 21, 3) := by decide +kernel
theorem dX9_init_37 : decode cX9_init 37 = .ok (.aload_n 0, 1) := by decide +kernel
theorem dX9_init_38 : decode cX9_init 38 = .ok (.new 18, 3) := by decide +kernel
theorem dX9_init_41 : decode cX9_init 41 = .ok (.dup, 1) := by decide +kernel
theorem dX9_init_42 : decode cX9_init 42 = .ok (.invokespecial 20, 3) := by decide +kernel
theorem dX9_init_45 : decode cX9_init 45 = .ok (.putfield 25, 3) := by decide +kernel
theorem dX9_init_48 : decode cX9_init 48 = .ok (.aload_n 0, 1) := by decide +kernel
theorem dX9_init_49 : decode cX9_init 49 = .ok (.new 18, 3) := by decide +kernel
theorem dX9_init_52 : decode cX9_init 52 = .ok (.dup, 1) := by decide +kernel
theorem dX9_init_53 : decode cX9_init 53 = .ok (.invokespecial 20, 3) := by decide +kernel
theorem dX9_init_56 : decode cX9_init 56 = .ok (.putfield 28, 3) := by decide +kernel
theorem dX9_init_59 : decode cX9_init 59 = .ok (.aload_n 0, 1) := by decide +kernel
theorem dX9_init_60 : decode cX9_init 60 = .ok (.new 18, 3) := by decide +kernel
theorem dX9_init_63 : decode cX9_init 63 = .ok (.dup, 1) := by decide +kernel
theorem dX9_init_64 : decode cX9_init 64 = .ok (.invokespecial 20, 3) := by decide +kernel
theorem dX9_init_67 : decode cX9_init 67 = .ok (.putfield 31, 3) := by decide +kernel
theorem dX9_init_70 : decode cX9_init 70 = .ok (.aload_n 0, 1) := by decide +kernel
theorem dX9_init_71 : decode cX9_init 71 = .ok (.new 34, 3) := by decide +kernel
theorem dX9_init_74 : decode cX9_init 74 = .ok (.dup, 1) := by decide +kernel
theorem dX9_init_75 : decode cX9_init 75 = .ok (.invokespecial 36, 3) := by decide +kernel
theorem dX9_init_78 : decode cX9_init 78 = .ok (.putfield 37, 3) := by decide +kernel
theorem dX9_init_81 : decode cX9_init 81 = .ok (.aload_n 0, 1) := by decide +kernel
theorem dX9_init_82 : decode cX9_init 82 = .ok (.new 41, 3) := by decide +kernel
theorem dX9_init_85 : decode cX9_init 85 = .ok (.dup, 1) := by decide +kernel
theorem dX9_init_86 : decode cX9_init 86 = .ok (.invokespecial 43, 3) := by decide +kernel
theorem dX9_init_89 : decode cX9_init 89 = .ok (.putfield 44, 3) := by decide +kernel
theorem dX9_init_92 : decode cX9_init 92 = .ok (.aload_n 0, 1) := by decide +kernel
theorem dX9_init_93 : decode cX9_init 93 = .ok (.new 48, 3) := by decide +kernel
theorem dX9_init_96 : decode cX9_init 96 = .ok (.dup, 1) := by decide +kernel
theorem dX9_init_97 : decode cX9_init 97 = .ok (.invokespecial 50, 3) := by decide +kernel
theorem dX9_init_100 : decode cX9_init 100 = .ok (.putfield 51, 3) := by decide +kernel
theorem dX9_init_103 : decode cX9_init 103 = .ok (.aload_n 0, 1) := by decide +kernel
theorem dX9_init_104 : decode cX9_init 104 = .ok (.new 55, 3) := by decide +kernel
theorem dX9_init_107 : decode cX9_init 107 = .ok (.dup, 1) := by decide +kernel
theorem dX9_init_108 : decode cX9_init 108 = .ok (.invokespecial 57, 3) := by decide +kernel
theorem dX9_init_111 : decode cX9_init 111 = .ok (.putfield 58, 3) := by decide +kernel
theorem dX9_init_114 : decode cX9_init 114 = .ok (.aload_n 0, 1) := by decide +kernel
theorem dX9_init_115 : decode cX9_init 115 = .ok (.iconst 4, 1) := by decide +kernel
theorem dX9_init_116 : decode cX9_init 116 = .ok (.newarray .int, 2) := by decide +kernel
theorem dX9_init_118 : decode cX9_init 118 = .ok (.putfield 62, 3) := by decide +kernel
theorem dX9_init_121 : decode cX9_init 121 = .ok (.aload_n 0, 1) := by decide +kernel
theorem dX9_init_122 : decode cX9_init 122 = .ok (.bipush 8, 2) := by decide +kernel
theorem dX9_init_124 : decode cX9_init 124 = .ok (.newarray .int, 2) := by decide +kernel
theorem dX9_init_126 : decode cX9_init 126 = .ok (.putfield 65, 3) := by decide +kernel
theorem dX9_init_129 : decode cX9_init 129 = .ok (.aload_n 0, 1) := by decide +kernel
theorem dX9_init_130 : decode cX9_init 130 = .ok (.bipush 8, 2) := by decide +kernel
theorem dX9_init_132 : decode cX9_init 132 = .ok (.newarray .int, 2) := by decide +kernel
theorem dX9_init_134 : decode cX9_init 134 = .ok (.putfield 68, 3) := by decide +kernel
theorem dX9_init_137 : decode cX9_init 137 = .ok (.aload_n 0, 1) := by decide +kernel
theorem dX9_init_138 : decode cX9_init 138 = .ok (.iconst 0, 1) := by decide +kernel
theorem dX9_init_139 : decode cX9_init 139 = .ok (.putfield 71, 3) := by decide +kernel
theorem dX9_init_142 : decode cX9_init 142 = .ok (.aload_n 0, 1) := by decide +kernel
theorem dX9_init_143 : decode cX9_init 143 = .ok (.iconst 0, 1) := by decide +kernel
theorem dX9_init_144 : decode cX9_init 144 = .ok (.putfield 75, 3) := by decide +kernel
theorem dX9_init_147 : decode cX9_init 147 = .ok (.aload_n 0, 1) := by decide +kernel
theorem dX9_init_148 : decode cX9_init 148 = .ok (.sipush 399, 3) := by decide +kernel
theorem dX9_init_151 : decode cX9_init 151 = .ok (.putfield 78, 3) := by decide +kernel
theorem dX9_init_154 : decode cX9_init 154 = .ok (.return_, 1) := by decide +kernel
theorem dX9_flows_0 : decode cX9_flows 0 = .ok (.iload_n 1, 1) := by decide +kernel
theorem dX9_flows_1 : decode cX9_flows 1 = .ok (.invokestatic 81, 3) := by decide +kernel
theorem dX9_flows_4 : decode cX9_flows 4 = .ok (.ifCond .eq 18, 3) := by decide +kernel
theorem dX9_flows_7 : decode cX9_flows 7 = .ok (.iload_n 2, 1) := by decide +kernel
theorem dX9_flows_8 : decode cX9_flows 8 = .ok (.iconst 0, 1) := by decide +kernel
theorem dX9_flows_9 : decode cX9_flows 9 = .ok (.iconst 3, 1) := by decide +kernel
theorem dX9_flows_10 : decode cX9_flows 10 = .ok (.invokestatic 85, 3) := by decide +kernel
theorem dX9_flows_13 : decode cX9_flows 13 = .ok (.ifCond .eq 9, 3) := by decide +kernel
theorem dX9_flows_16 : decode cX9_flows 16 = .ok (.iload_n 3, 1) := by decide +kernel
theorem dX9_flows_17 : decode cX9_flows 17 = .ok (.bipush 60, 2) := by decide +kernel
theorem dX9_flows_19 : decode cX9_flows 19 = .ok (.if_icmp .le 5, 3) := by decide +kernel
theorem dX9_flows_22 : decode cX9_flows 22 = .ok (.iconst (-1), 1) := by decide +kernel
theorem dX9_flows_23 : decode cX9_flows 23 = .ok (.ireturn, 1) := by decide +kernel
theorem dX9_flows_24 : decode cX9_flows 24 = .ok (.iload_n 2, 1) := by decide +kernel
theorem dX9_flows_25 : decode cX9_flows 25 = .ok (.iconst 3, 1) := by decide +kernel
theorem dX9_flows_26 : decode cX9_flows 26 = .ok (.if_icmp .ne 6, 3) := by decide +kernel
theorem dX9_flows_29 : decode cX9_flows 29 = .ok (.bipush (-3), 2) := by decide +kernel
theorem dX9_flows_31 : decode cX9_flows 31 = .ok (.ireturn, 1) := by decide +kernel
theorem dX9_flows_32 : decode cX9_flows 32 = .ok (.iload_n 3, 1) := by decide +kernel
theorem dX9_flows_33 : decode cX9_flows 33 = .ok (.ifCond .ge 6, 3) := by decide +kernel
theorem dX9_flows_36 : decode cX9_flows 36 = .ok (.bipush (-2), 2) := by decide +kernel
theorem dX9_flows_38 : decode cX9_flows 38 = .ok (.ireturn, 1) := by decide +kernel
theorem dX9_flows_39 : decode cX9_flows 39 = .ok (.iload 4, 2) := by decide +kernel
theorem dX9_flows_41 : decode cX9_flows 41 = .ok (.istore 6, 2) := by decide +kernel
theorem dX9_flows_43 : decode cX9_flows 43 = .ok (.iconst 0, 1) := by decide +kernel
theorem dX9_flows_44 : decode cX9_flows 44 = .ok (.istore 7, 2) := by decide +kernel
theorem dX9_flows_46 : decode cX9_flows 46 = .ok (.iload 7, 2) := by decide +kernel
theorem dX9_flows_48 : decode cX9_flows 48 = .ok (.iload_n 3, 1) := by decide +kernel
theorem dX9_flows_49 : decode cX9_flows 49 = .ok (.if_icmp .ge 50, 3) := by decide +kernel
theorem dX9_flows_52 : decode cX9_flows 52 = .ok (.iload_n 1, 1) := by decide +kernel
theorem dX9_flows_53 : decode cX9_flows 53 = .ok (.iload 7, 2) := by decide +kernel
theorem dX9_flows_55 : decode cX9_flows 55 = .ok (.iadd, 1) := by decide +kernel
theorem dX9_flows_56 : decode cX9_flows 56 = .ok (.sipush 400, 3) := by decide +kernel
theorem dX9_flows_59 : decode cX9_flows 59 = .ok (.if_icmp .ge 40, 3) := by decide +kernel
theorem dX9_flows_62 : decode cX9_flows 62 = .ok (.aload_n 0, 1) := by decide +kernel
theorem dX9_flows_63 : decode cX9_flows 63 = .ok (.getfield 9, 3) := by decide +kernel
theorem dX9_flows_66 : decode cX9_flows 66 = .ok (.iload_n 1, 1) := by decide +kernel
theorem dX9_flows_67 : decode cX9_flows 67 = .ok (.iload 7, 2) := by decide +kernel
theorem dX9_flows_69 : decode cX9_flows 69 = .ok (.iadd, 1) := by decide +kernel
theorem dX9_flows_70 : decode cX9_flows 70 = .ok (.iconst 0, 1) := by decide +kernel
theorem dX9_flows_71 : decode cX9_flows 71 = .ok (.bipush 99, 2) := by decide +kernel
theorem dX9_flows_73 : decode cX9_flows 73 = .ok (.iload 6, 2) := by decide +kernel
theorem dX9_flows_75 : decode cX9_flows 75 = .ok (.iload_n 2, 1) := by decide +kernel
theorem dX9_flows_76 : decode cX9_flows 76 = .ok (.invokestatic 89, 3) := by decide +kernel
theorem dX9_flows_79 : decode cX9_flows 79 = .ok (.invokestatic 93, 3) := by decide +kernel
theorem dX9_flows_82 : decode cX9_flows 82 = .ok (.invokestatic 98, 3) := by decide +kernel
theorem dX9_flows_85 : decode cX9_flows 85 = .ok (.iastore, 1) := by decide +kernel
theorem dX9_flows_86 : decode cX9_flows 86 = .ok (.iload 6, 2) := by decide +kernel
theorem dX9_flows_88 : decode cX9_flows 88 = .ok (.iload 5, 2) := by decide +kernel
theorem dX9_flows_90 : decode cX9_flows 90 = .ok (.iadd, 1) := by decide +kernel
theorem dX9_flows_91 : decode cX9_flows 91 = .ok (.istore 6, 2) := by decide +kernel
theorem dX9_flows_93 : decode cX9_flows 93 = .ok (.iinc 7 1, 3) := by decide +kernel
theorem dX9_flows_96 : decode cX9_flows 96 = .ok (.goto (-50), 3) := by decide +kernel
theorem dX9_flows_99 : decode cX9_flows 99 = .ok (.iload_n 3, 1) := by decide +kernel
theorem dX9_flows_100 : decode cX9_flows 100 = .ok (.ifCond .le 8, 3) := by decide +kernel
theorem dX9_flows_103 : decode cX9_flows 103 = .ok (.aload_n 0, 1) := by decide +kernel
theorem dX9_flows_104 : decode cX9_flows 104 = .ok (.iload_n 1, 1) := by decide +kernel
theorem dX9_flows_105 : decode cX9_flows 105 = .ok (.invokevirtual 101, 3) := by decide +kernel
theorem dX9_flows_108 : decode cX9_flows 108 = .ok (.iload_n 3, 1) := by decide +kernel
theorem dX9_flows_109 : decode cX9_flows 109 = .ok (.ireturn, 1) := by decide +kernel
theorem dX9_asSheetHolds_0 : decode cX9_asSheetHolds 0 = .ok (.iload_n 1, 1) := by decide +kernel
theorem dX9_asSheetHolds_1 : decode cX9_asSheetHolds 1 = .ok (.ifCond .ne 6, 3) := by decide +kernel
theorem dX9_asSheetHolds_4 : decode cX9_asSheetHolds 4 = .ok (.iload_n 0, 1) := by decide +kernel
theorem dX9_asSheetHolds_5 : decode cX9_asSheetHolds 5 = .ok (.i2b, 1) := by decide +kernel
theorem dX9_asSheetHolds_6 : decode cX9_asSheetHolds 6 = .ok (.ireturn, 1) := by decide +kernel
theorem dX9_asSheetHolds_7 : decode cX9_asSheetHolds 7 = .ok (.iload_n 1, 1) := by decide +kernel
theorem dX9_asSheetHolds_8 : decode cX9_asSheetHolds 8 = .ok (.iconst 1, 1) := by decide +kernel
theorem dX9_asSheetHolds_9 : decode cX9_asSheetHolds 9 = .ok (.if_icmp .ne 8, 3) := by decide +kernel
theorem dX9_asSheetHolds_12 : decode cX9_asSheetHolds 12 = .ok (.iload_n 0, 1) := by decide +kernel
theorem dX9_asSheetHolds_13 : decode cX9_asSheetHolds 13 = .ok (.i2s, 1) := by decide +kernel
theorem dX9_asSheetHolds_14 : decode cX9_asSheetHolds 14 = .ok (.goto 4, 3) := by decide +kernel
theorem dX9_asSheetHolds_17 : decode cX9_asSheetHolds 17 = .ok (.iload_n 0, 1) := by decide +kernel
theorem dX9_asSheetHolds_18 : decode cX9_asSheetHolds 18 = .ok (.ireturn, 1) := by decide +kernel
theorem dX9_forgetFrom_0 : decode cX9_forgetFrom 0 = .ok (.iconst 0, 1) := by decide +kernel
theorem dX9_forgetFrom_1 : decode cX9_forgetFrom 1 = .ok (.istore_n 2, 1) := by decide +kernel
theorem dX9_forgetFrom_2 : decode cX9_forgetFrom 2 = .ok (.iload_n 2, 1) := by decide +kernel
theorem dX9_forgetFrom_3 : decode cX9_forgetFrom 3 = .ok (.aload_n 0, 1) := by decide +kernel
theorem dX9_forgetFrom_4 : decode cX9_forgetFrom 4 = .ok (.getfield 21, 3) := by decide +kernel
theorem dX9_forgetFrom_7 : decode cX9_forgetFrom 7 = .ok (.invokevirtual 105, 3) := by decide +kernel
theorem dX9_forgetFrom_10 : decode cX9_forgetFrom 10 = .ok (.if_icmp .ge 24, 3) := by decide +kernel
theorem dX9_forgetFrom_13 : decode cX9_forgetFrom 13 = .ok (.aload_n 0, 1) := by decide +kernel
theorem dX9_forgetFrom_14 : decode cX9_forgetFrom 14 = .ok (.getfield 21, 3) := by decide +kernel
theorem dX9_forgetFrom_17 : decode cX9_forgetFrom 17 = .ok (.iload_n 2, 1) := by decide +kernel
theorem dX9_forgetFrom_18 : decode cX9_forgetFrom 18 = .ok (.invokevirtual 109, 3) := by decide +kernel
theorem dX9_forgetFrom_21 : decode cX9_forgetFrom 21 = .ok (.checkcast 113, 3) := by decide +kernel
theorem dX9_forgetFrom_24 : decode cX9_forgetFrom 24 = .ok (.iload_n 1, 1) := by decide +kernel
theorem dX9_forgetFrom_25 : decode cX9_forgetFrom 25 = .ok (.invokevirtual 115, 3) := by decide +kernel
theorem dX9_forgetFrom_28 : decode cX9_forgetFrom 28 = .ok (.iinc 2 1, 3) := by decide +kernel
theorem dX9_forgetFrom_31 : decode cX9_forgetFrom 31 = .ok (.goto (-29), 3) := by decide +kernel
theorem dX9_forgetFrom_34 : decode cX9_forgetFrom 34 = .ok (.iconst 0, 1) := by decide +kernel
theorem dX9_forgetFrom_35 : decode cX9_forgetFrom 35 = .ok (.istore_n 2, 1) := by decide +kernel
theorem dX9_forgetFrom_36 : decode cX9_forgetFrom 36 = .ok (.iload_n 2, 1) := by decide +kernel
theorem dX9_forgetFrom_37 : decode cX9_forgetFrom 37 = .ok (.aload_n 0, 1) := by decide +kernel
theorem dX9_forgetFrom_38 : decode cX9_forgetFrom 38 = .ok (.getfield 25, 3) := by decide +kernel
theorem dX9_forgetFrom_41 : decode cX9_forgetFrom 41 = .ok (.invokevirtual 105, 3) := by decide +kernel
theorem dX9_forgetFrom_44 : decode cX9_forgetFrom 44 = .ok (.if_icmp .ge 24, 3) := by decide +kernel
theorem dX9_forgetFrom_47 : decode cX9_forgetFrom 47 = .ok (.aload_n 0, 1) := by decide +kernel
theorem dX9_forgetFrom_48 : decode cX9_forgetFrom 48 = .ok (.getfield 25, 3) := by decide +kernel
theorem dX9_forgetFrom_51 : decode cX9_forgetFrom 51 = .ok (.iload_n 2, 1) := by decide +kernel
theorem dX9_forgetFrom_52 : decode cX9_forgetFrom 52 = .ok (.invokevirtual 109, 3) := by decide +kernel
theorem dX9_forgetFrom_55 : decode cX9_forgetFrom 55 = .ok (.checkcast 116, 3) := by decide +kernel
theorem dX9_forgetFrom_58 : decode cX9_forgetFrom 58 = .ok (.iload_n 1, 1) := by decide +kernel
theorem dX9_forgetFrom_59 : decode cX9_forgetFrom 59 = .ok (.invokevirtual 118, 3) := by decide +kernel
theorem dX9_forgetFrom_62 : decode cX9_forgetFrom 62 = .ok (.iinc 2 1, 3) := by decide +kernel
theorem dX9_forgetFrom_65 : decode cX9_forgetFrom 65 = .ok (.goto (-29), 3) := by decide +kernel
theorem dX9_forgetFrom_68 : decode cX9_forgetFrom 68 = .ok (.return_, 1) := by decide +kernel
theorem dX9_flow_0 : decode cX9_flow 0 = .ok (.iload_n 1, 1) := by decide +kernel
theorem dX9_flow_1 : decode cX9_flow 1 = .ok (.invokestatic 81, 3) := by decide +kernel
theorem dX9_flow_4 : decode cX9_flow 4 = .ok (.ifCond .eq 12, 3) := by decide +kernel
theorem dX9_flow_7 : decode cX9_flow 7 = .ok (.aload_n 0, 1) := by decide +kernel
theorem dX9_flow_8 : decode cX9_flow 8 = .ok (.getfield 9, 3) := by decide +kernel
theorem dX9_flow_11 : decode cX9_flow 11 = .ok (.iload_n 1, 1) := by decide +kernel
theorem dX9_flow_12 : decode cX9_flow 12 = .ok (.iaload, 1) := by decide +kernel
theorem dX9_flow_13 : decode cX9_flow 13 = .ok (.goto 4, 3) := by decide +kernel
theorem dX9_flow_16 : decode cX9_flow 16 = .ok (.iconst (-1), 1) := by decide +kernel
theorem dX9_flow_17 : decode cX9_flow 17 = .ok (.ireturn, 1) := by decide +kernel
theorem dX9_bed_0 : decode cX9_bed 0 = .ok (.aload_n 0, 1) := by decide +kernel
theorem dX9_bed_1 : decode cX9_bed 1 = .ok (.getfield 71, 3) := by decide +kernel
theorem dX9_bed_4 : decode cX9_bed 4 = .ok (.iconst 4, 1) := by decide +kernel
theorem dX9_bed_5 : decode cX9_bed 5 = .ok (.if_icmp .lt 5, 3) := by decide +kernel
theorem dX9_bed_8 : decode cX9_bed 8 = .ok (.iconst (-1), 1) := by decide +kernel
theorem dX9_bed_9 : decode cX9_bed 9 = .ok (.ireturn, 1) := by decide +kernel
theorem dX9_bed_10 : decode cX9_bed 10 = .ok (.aload_n 0, 1) := by decide +kernel
theorem dX9_bed_11 : decode cX9_bed 11 = .ok (.dup, 1) := by decide +kernel
theorem dX9_bed_12 : decode cX9_bed 12 = .ok (.getfield 71, 3) := by decide +kernel
theorem dX9_bed_15 : decode cX9_bed 15 = .ok (.iconst 1, 1) := by decide +kernel
theorem dX9_bed_16 : decode cX9_bed 16 = .ok (.iadd, 1) := by decide +kernel
theorem dX9_bed_17 : decode cX9_bed 17 = .ok (.putfield 71, 3) := by decide +kernel
theorem dX9_bed_20 : decode cX9_bed 20 = .ok (.aload_n 0, 1) := by decide +kernel
theorem dX9_bed_21 : decode cX9_bed 21 = .ok (.getfield 71, 3) := by decide +kernel
theorem dX9_bed_24 : decode cX9_bed 24 = .ok (.iconst 1, 1) := by decide +kernel
theorem dX9_bed_25 : decode cX9_bed 25 = .ok (.isub, 1) := by decide +kernel
theorem dX9_bed_26 : decode cX9_bed 26 = .ok (.ireturn, 1) := by decide +kernel
theorem dX9_pier_0 : decode cX9_pier 0 = .ok (.iload_n 1, 1) := by decide +kernel
theorem dX9_pier_1 : decode cX9_pier 1 = .ok (.iconst 0, 1) := by decide +kernel
theorem dX9_pier_2 : decode cX9_pier 2 = .ok (.aload_n 0, 1) := by decide +kernel
theorem dX9_pier_3 : decode cX9_pier 3 = .ok (.getfield 71, 3) := by decide +kernel
theorem dX9_pier_6 : decode cX9_pier 6 = .ok (.iconst 1, 1) := by decide +kernel
theorem dX9_pier_7 : decode cX9_pier 7 = .ok (.isub, 1) := by decide +kernel
theorem dX9_pier_8 : decode cX9_pier 8 = .ok (.invokestatic 85, 3) := by decide +kernel
theorem dX9_pier_11 : decode cX9_pier 11 = .ok (.ifCond .eq 50, 3) := by decide +kernel
theorem dX9_pier_14 : decode cX9_pier 14 = .ok (.iload_n 2, 1) := by decide +kernel
theorem dX9_pier_15 : decode cX9_pier 15 = .ok (.iconst 1, 1) := by decide +kernel
theorem dX9_pier_16 : decode cX9_pier 16 = .ok (.bipush 20, 2) := by decide +kernel
theorem dX9_pier_18 : decode cX9_pier 18 = .ok (.invokestatic 85, 3) := by decide +kernel
theorem dX9_pier_21 : decode cX9_pier 21 = .ok (.ifCond .eq 40, 3) := by decide +kernel
theorem dX9_pier_24 : decode cX9_pier 24 = .ok (.iload_n 3, 1) := by decide +kernel
theorem dX9_pier_25 : decode cX9_pier 25 = .ok (.iconst 1, 1) := by decide +kernel
theorem dX9_pier_26 : decode cX9_pier 26 = .ok (.sipush 200, 3) := by decide +kernel
theorem dX9_pier_29 : decode cX9_pier 29 = .ok (.invokestatic 85, 3) := by decide +kernel
theorem dX9_pier_32 : decode cX9_pier 32 = .ok (.ifCond .eq 29, 3) := by decide +kernel
theorem dX9_pier_35 : decode cX9_pier 35 = .ok (.iload 4, 2) := by decide +kernel
theorem dX9_pier_37 : decode cX9_pier 37 = .ok (.iconst 0, 1) := by decide +kernel
theorem dX9_pier_38 : decode cX9_pier 38 = .ok (.bipush 99, 2) := by decide +kernel
theorem dX9_pier_40 : decode cX9_pier 40 = .ok (.invokestatic 85, 3) := by decide +kernel
theorem dX9_pier_43 : decode cX9_pier 43 = .ok (.ifCond .eq 18, 3) := by decide +kernel
theorem dX9_pier_46 : decode cX9_pier 46 = .ok (.iload 5, 2) := by decide +kernel
theorem dX9_pier_48 : decode cX9_pier 48 = .ok (.iconst 0, 1) := by decide +kernel
theorem dX9_pier_49 : decode cX9_pier 49 = .ok (.bipush 99, 2) := by decide +kernel
theorem dX9_pier_51 : decode cX9_pier 51 = .ok (.invokestatic 85, 3) := by decide +kernel
theorem dX9_pier_54 : decode cX9_pier 54 = .ok (.ifCond .eq 7, 3) := by decide +kernel
theorem dX9_pier_57 : decode cX9_pier 57 = .ok (.iconst 1, 1) := by decide +kernel
theorem dX9_pier_58 : decode cX9_pier 58 = .ok (.goto 4, 3) := by decide +kernel
theorem dX9_pier_61 : decode cX9_pier 61 = .ok (.iconst 0, 1) := by decide +kernel
theorem dX9_pier_62 : decode cX9_pier 62 = .ok (.istore 6, 2) := by decide +kernel
theorem dX9_pier_64 : decode cX9_pier 64 = .ok (.aload_n 0, 1) := by decide +kernel
theorem dX9_pier_65 : decode cX9_pier 65 = .ok (.getfield 21, 3) := by decide +kernel
theorem dX9_pier_68 : decode cX9_pier 68 = .ok (.invokevirtual 105, 3) := by decide +kernel
theorem dX9_pier_71 : decode cX9_pier 71 = .ok (.istore 7, 2) := by decide +kernel
theorem dX9_pier_73 : decode cX9_pier 73 = .ok (.iload 6, 2) := by decide +kernel
theorem dX9_pier_75 : decode cX9_pier 75 = .ok (.ifCond .eq 10, 3) := by decide +kernel
theorem dX9_pier_78 : decode cX9_pier 78 = .ok (.iload 7, 2) := by decide +kernel
theorem dX9_pier_80 : decode cX9_pier 80 = .ok (.bipush 8, 2) := by decide +kernel
theorem dX9_pier_82 : decode cX9_pier 82 = .ok (.if_icmp .lt 5, 3) := by decide +kernel
theorem dX9_pier_85 : decode cX9_pier 85 = .ok (.iconst (-1), 1) := by decide +kernel
theorem dX9_pier_86 : decode cX9_pier 86 = .ok (.ireturn, 1) := by decide +kernel
theorem dX9_pier_87 : decode cX9_pier 87 = .ok (.aload_n 0, 1) := by decide +kernel
theorem dX9_pier_88 : decode cX9_pier 88 = .ok (.getfield 21, 3) := by decide +kernel
theorem dX9_pier_91 : decode cX9_pier 91 = .ok (.new 113, 3) := by decide +kernel
theorem dX9_pier_94 : decode cX9_pier 94 = .ok (.dup, 1) := by decide +kernel
theorem dX9_pier_95 : decode cX9_pier 95 = .ok (.iload_n 1, 1) := by decide +kernel
theorem dX9_pier_96 : decode cX9_pier 96 = .ok (.iload_n 2, 1) := by decide +kernel
theorem dX9_pier_97 : decode cX9_pier 97 = .ok (.iload_n 3, 1) := by decide +kernel
theorem dX9_pier_98 : decode cX9_pier 98 = .ok (.iload 4, 2) := by decide +kernel
theorem dX9_pier_100 : decode cX9_pier 100 = .ok (.iload 5, 2) := by decide +kernel
theorem dX9_pier_102 : decode cX9_pier 102 = .ok (.aload_n 0, 1) := by decide +kernel
theorem dX9_pier_103 : decode cX9_pier 103 = .ok (.getfield 9, 3) := by decide +kernel
theorem dX9_pier_106 : decode cX9_pier 106 = .ok (.aload_n 0, 1) := by decide +kernel
theorem dX9_pier_107 : decode cX9_pier 107 = .ok (.getfield 15, 3) := by decide +kernel
theorem dX9_pier_110 : decode cX9_pier 110 = .ok (.iload 7, 2) := by decide +kernel
theorem dX9_pier_112 : decode cX9_pier 112 = .ok (.aaload, 1) := by decide +kernel
theorem dX9_pier_113 : decode cX9_pier 113 = .ok (.invokespecial 119, 3) := by decide +kernel
theorem dX9_pier_116 : decode cX9_pier 116 = .ok (.invokevirtual 122, 3) := by decide +kernel
theorem dX9_pier_119 : decode cX9_pier 119 = .ok (.pop, 1) := by decide +kernel
theorem dX9_pier_120 : decode cX9_pier 120 = .ok (.iload 7, 2) := by decide +kernel
theorem dX9_pier_122 : decode cX9_pier 122 = .ok (.ireturn, 1) := by decide +kernel
theorem dX9_tree_0 : decode cX9_tree 0 = .ok (.aload_n 0, 1) := by decide +kernel
theorem dX9_tree_1 : decode cX9_tree 1 = .ok (.iload_n 1, 1) := by decide +kernel
theorem dX9_tree_2 : decode cX9_tree 2 = .ok (.invokevirtual 126, 3) := by decide +kernel
theorem dX9_tree_5 : decode cX9_tree 5 = .ok (.astore 4, 2) := by decide +kernel
theorem dX9_tree_7 : decode cX9_tree 7 = .ok (.aload 4, 2) := by decide +kernel
theorem dX9_tree_9 : decode cX9_tree 9 = .ok (.ifnull 29, 3) := by decide +kernel
theorem dX9_tree_12 : decode cX9_tree 12 = .ok (.iload_n 2, 1) := by decide +kernel
theorem dX9_tree_13 : decode cX9_tree 13 = .ok (.invokestatic 81, 3) := by decide +kernel
theorem dX9_tree_16 : decode cX9_tree 16 = .ok (.ifCond .eq 22, 3) := by decide +kernel
theorem dX9_tree_19 : decode cX9_tree 19 = .ok (.iload_n 3, 1) := by decide +kernel
theorem dX9_tree_20 : decode cX9_tree 20 = .ok (.iconst 1, 1) := by decide +kernel
theorem dX9_tree_21 : decode cX9_tree 21 = .ok (.bipush 20, 2) := by decide +kernel
theorem dX9_tree_23 : decode cX9_tree 23 = .ok (.invokestatic 85, 3) := by decide +kernel
theorem dX9_tree_26 : decode cX9_tree 26 = .ok (.ifCond .eq 12, 3) := by decide +kernel
theorem dX9_tree_29 : decode cX9_tree 29 = .ok (.aload_n 0, 1) := by decide +kernel
theorem dX9_tree_30 : decode cX9_tree 30 = .ok (.getfield 75, 3) := by decide +kernel
theorem dX9_tree_33 : decode cX9_tree 33 = .ok (.bipush 20, 2) := by decide +kernel
theorem dX9_tree_35 : decode cX9_tree 35 = .ok (.if_icmp .lt 5, 3) := by decide +kernel
theorem dX9_tree_38 : decode cX9_tree 38 = .ok (.iconst (-1), 1) := by decide +kernel
theorem dX9_tree_39 : decode cX9_tree 39 = .ok (.ireturn, 1) := by decide +kernel
theorem dX9_tree_40 : decode cX9_tree 40 = .ok (.aload 4, 2) := by decide +kernel
theorem dX9_tree_42 : decode cX9_tree 42 = .ok (.new 130, 3) := by decide +kernel
theorem dX9_tree_45 : decode cX9_tree 45 = .ok (.dup, 1) := by decide +kernel
theorem dX9_tree_46 : decode cX9_tree 46 = .ok (.iload_n 2, 1) := by decide +kernel
theorem dX9_tree_47 : decode cX9_tree 47 = .ok (.iload_n 3, 1) := by decide +kernel
theorem dX9_tree_48 : decode cX9_tree 48 = .ok (.aload 4, 2) := by decide +kernel
theorem dX9_tree_50 : decode cX9_tree 50 = .ok (.getfield 132, 3) := by decide +kernel
theorem dX9_tree_53 : decode cX9_tree 53 = .ok (.invokespecial 135, 3) := by decide +kernel
theorem dX9_tree_56 : decode cX9_tree 56 = .ok (.putfield 132, 3) := by decide +kernel
theorem dX9_tree_59 : decode cX9_tree 59 = .ok (.aload_n 0, 1) := by decide +kernel
theorem dX9_tree_60 : decode cX9_tree 60 = .ok (.iload_n 2, 1) := by decide +kernel
theorem dX9_tree_61 : decode cX9_tree 61 = .ok (.invokevirtual 101, 3) := by decide +kernel
theorem dX9_tree_64 : decode cX9_tree 64 = .ok (.aload_n 0, 1) := by decide +kernel
theorem dX9_tree_65 : decode cX9_tree 65 = .ok (.dup, 1) := by decide +kernel
theorem dX9_tree_66 : decode cX9_tree 66 = .ok (.getfield 75, 3) := by decide +kernel
theorem dX9_tree_69 : decode cX9_tree 69 = .ok (.iconst 1, 1) := by decide +kernel
theorem dX9_tree_70 : decode cX9_tree 70 = .ok (.iadd, 1) := by decide +kernel
theorem dX9_tree_71 : decode cX9_tree 71 = .ok (.putfield 75, 3) := by decide +kernel
theorem dX9_tree_74 : decode cX9_tree 74 = .ok (.aload_n 0, 1) := by decide +kernel
theorem dX9_tree_75 : decode cX9_tree 75 = .ok (.getfield 75, 3) := by decide +kernel
theorem dX9_tree_78 : decode cX9_tree 78 = .ok (.ireturn, 1) := by decide +kernel
theorem dX9_hole_0 : decode cX9_hole 0 = .ok (.aload_n 0, 1) := by decide +kernel
theorem dX9_hole_1 : decode cX9_hole 1 = .ok (.iload_n 1, 1) := by decide +kernel
theorem dX9_hole_2 : decode cX9_hole 2 = .ok (.invokevirtual 126, 3) := by decide +kernel
theorem dX9_hole_5 : decode cX9_hole 5 = .ok (.astore 5, 2) := by decide +kernel
theorem dX9_hole_7 : decode cX9_hole 7 = .ok (.aload 5, 2) := by decide +kernel
theorem dX9_hole_9 : decode cX9_hole 9 = .ok (.ifnull 17, 3) := by decide +kernel
theorem dX9_hole_12 : decode cX9_hole 12 = .ok (.iload_n 2, 1) := by decide +kernel
theorem dX9_hole_13 : decode cX9_hole 13 = .ok (.invokestatic 138, 3) := by decide +kernel
theorem dX9_hole_16 : decode cX9_hole 16 = .ok (.ifCond .eq 10, 3) := by decide +kernel
theorem dX9_hole_19 : decode cX9_hole 19 = .ok (.iload_n 3, 1) := by decide +kernel
theorem dX9_hole_20 : decode cX9_hole 20 = .ok (.invokestatic 81, 3) := by decide +kernel
theorem dX9_hole_23 : decode cX9_hole 23 = .ok (.ifCond .ne 5, 3) := by decide +kernel
theorem dX9_hole_26 : decode cX9_hole 26 = .ok (.iconst (-1), 1) := by decide +kernel
theorem dX9_hole_27 : decode cX9_hole 27 = .ok (.ireturn, 1) := by decide +kernel
theorem dX9_hole_28 : decode cX9_hole 28 = .ok (.aload 5, 2) := by decide +kernel
theorem dX9_hole_30 : decode cX9_hole 30 = .ok (.iload_n 3, 1) := by decide +kernel
theorem dX9_hole_31 : decode cX9_hole 31 = .ok (.invokevirtual 141, 3) := by decide +kernel
theorem dX9_hole_34 : decode cX9_hole 34 = .ok (.iload 4, 2) := by decide +kernel
theorem dX9_hole_36 : decode cX9_hole 36 = .ok (.tableswitch 61 0 3 #[32, 39, 46, 54], 32) := by decide +kernel
theorem dX9_hole_68 : decode cX9_hole 68 = .ok (.aload 5, 2) := by decide +kernel
theorem dX9_hole_70 : decode cX9_hole 70 = .ok (.iload_n 2, 1) := by decide +kernel
theorem dX9_hole_71 : decode cX9_hole 71 = .ok (.invokevirtual 144, 3) := by decide +kernel
theorem dX9_hole_74 : decode cX9_hole 74 = .ok (.ireturn, 1) := by decide +kernel
theorem dX9_hole_75 : decode cX9_hole 75 = .ok (.aload 5, 2) := by decide +kernel
theorem dX9_hole_77 : decode cX9_hole 77 = .ok (.iload_n 2, 1) := by decide +kernel
theorem dX9_hole_78 : decode cX9_hole 78 = .ok (.invokevirtual 148, 3) := by decide +kernel
theorem dX9_hole_81 : decode cX9_hole 81 = .ok (.ireturn, 1) := by decide +kernel
theorem dX9_hole_82 : decode cX9_hole 82 = .ok (.aload 5, 2) := by decide +kernel
theorem dX9_hole_84 : decode cX9_hole 84 = .ok (.iload_n 2, 1) := by decide +kernel
theorem dX9_hole_85 : decode cX9_hole 85 = .ok (.iload_n 3, 1) := by decide +kernel
theorem dX9_hole_86 : decode cX9_hole 86 = .ok (.invokevirtual 151, 3) := by decide +kernel
theorem dX9_hole_89 : decode cX9_hole 89 = .ok (.ireturn, 1) := by decide +kernel
theorem dX9_hole_90 : decode cX9_hole 90 = .ok (.aload 5, 2) := by decide +kernel
theorem dX9_hole_92 : decode cX9_hole 92 = .ok (.iload_n 2, 1) := by decide +kernel
theorem dX9_hole_93 : decode cX9_hole 93 = .ok (.invokevirtual 154, 3) := by decide +kernel
theorem dX9_hole_96 : decode cX9_hole 96 = .ok (.ireturn, 1) := by decide +kernel
theorem dX9_hole_97 : decode cX9_hole 97 = .ok (.iconst (-1), 1) := by decide +kernel
theorem dX9_hole_98 : decode cX9_hole 98 = .ok (.ireturn, 1) := by decide +kernel
theorem dX9_when_0 : decode cX9_when 0 = .ok (.aload_n 0, 1) := by decide +kernel
theorem dX9_when_1 : decode cX9_when 1 = .ok (.iload_n 1, 1) := by decide +kernel
theorem dX9_when_2 : decode cX9_when 2 = .ok (.invokevirtual 126, 3) := by decide +kernel
theorem dX9_when_5 : decode cX9_when 5 = .ok (.astore 4, 2) := by decide +kernel
theorem dX9_when_7 : decode cX9_when 7 = .ok (.aload 4, 2) := by decide +kernel
theorem dX9_when_9 : decode cX9_when 9 = .ok (.ifnull 19, 3) := by decide +kernel
theorem dX9_when_12 : decode cX9_when 12 = .ok (.iload_n 2, 1) := by decide +kernel
theorem dX9_when_13 : decode cX9_when 13 = .ok (.invokestatic 138, 3) := by decide +kernel
theorem dX9_when_16 : decode cX9_when 16 = .ok (.ifCond .eq 12, 3) := by decide +kernel
theorem dX9_when_19 : decode cX9_when 19 = .ok (.iload_n 3, 1) := by decide +kernel
theorem dX9_when_20 : decode cX9_when 20 = .ok (.iconst 0, 1) := by decide +kernel
theorem dX9_when_21 : decode cX9_when 21 = .ok (.iconst 1, 1) := by decide +kernel
theorem dX9_when_22 : decode cX9_when 22 = .ok (.invokestatic 85, 3) := by decide +kernel
theorem dX9_when_25 : decode cX9_when 25 = .ok (.ifCond .ne 5, 3) := by decide +kernel
theorem dX9_when_28 : decode cX9_when 28 = .ok (.iconst (-1), 1) := by decide +kernel
theorem dX9_when_29 : decode cX9_when 29 = .ok (.ireturn, 1) := by decide +kernel
theorem dX9_when_30 : decode cX9_when 30 = .ok (.aload 4, 2) := by decide +kernel
theorem dX9_when_32 : decode cX9_when 32 = .ok (.iload_n 2, 1) := by decide +kernel
theorem dX9_when_33 : decode cX9_when 33 = .ok (.iload_n 3, 1) := by decide +kernel
theorem dX9_when_34 : decode cX9_when 34 = .ok (.ifCond .ne 7, 3) := by decide +kernel
theorem dX9_when_37 : decode cX9_when 37 = .ok (.iconst 1, 1) := by decide +kernel
theorem dX9_when_38 : decode cX9_when 38 = .ok (.goto 4, 3) := by decide +kernel
theorem dX9_when_41 : decode cX9_when 41 = .ok (.iconst 2, 1) := by decide +kernel
theorem dX9_when_42 : decode cX9_when 42 = .ok (.invokevirtual 157, 3) := by decide +kernel
theorem dX9_when_45 : decode cX9_when 45 = .ok (.ireturn, 1) := by decide +kernel
theorem dX9_kept_0 : decode cX9_kept 0 = .ok (.aload_n 0, 1) := by decide +kernel
theorem dX9_kept_1 : decode cX9_kept 1 = .ok (.iload_n 1, 1) := by decide +kernel
theorem dX9_kept_2 : decode cX9_kept 2 = .ok (.invokevirtual 126, 3) := by decide +kernel
theorem dX9_kept_5 : decode cX9_kept 5 = .ok (.astore_n 3, 1) := by decide +kernel
theorem dX9_kept_6 : decode cX9_kept 6 = .ok (.aload_n 3, 1) := by decide +kernel
theorem dX9_kept_7 : decode cX9_kept 7 = .ok (.ifnull 10, 3) := by decide +kernel
theorem dX9_kept_10 : decode cX9_kept 10 = .ok (.iload_n 2, 1) := by decide +kernel
theorem dX9_kept_11 : decode cX9_kept 11 = .ok (.invokestatic 138, 3) := by decide +kernel
theorem dX9_kept_14 : decode cX9_kept 14 = .ok (.ifCond .ne 5, 3) := by decide +kernel
theorem dX9_kept_17 : decode cX9_kept 17 = .ok (.iconst (-1), 1) := by decide +kernel
theorem dX9_kept_18 : decode cX9_kept 18 = .ok (.ireturn, 1) := by decide +kernel
theorem dX9_kept_19 : decode cX9_kept 19 = .ok (.aload_n 0, 1) := by decide +kernel
theorem dX9_kept_20 : decode cX9_kept 20 = .ok (.aload_n 0, 1) := by decide +kernel
theorem dX9_kept_21 : decode cX9_kept 21 = .ok (.getfield 78, 3) := by decide +kernel
theorem dX9_kept_24 : decode cX9_kept 24 = .ok (.invokevirtual 160, 3) := by decide +kernel
theorem dX9_kept_27 : decode cX9_kept 27 = .ok (.aload_n 3, 1) := by decide +kernel
theorem dX9_kept_28 : decode cX9_kept 28 = .ok (.getfield 163, 3) := by decide +kernel
theorem dX9_kept_31 : decode cX9_kept 31 = .ok (.iload_n 2, 1) := by decide +kernel
theorem dX9_kept_32 : decode cX9_kept 32 = .ok (.invokestatic 167, 3) := by decide +kernel
theorem dX9_kept_35 : decode cX9_kept 35 = .ok (.ifCond .ne 5, 3) := by decide +kernel
theorem dX9_kept_38 : decode cX9_kept 38 = .ok (.iconst 0, 1) := by decide +kernel
theorem dX9_kept_39 : decode cX9_kept 39 = .ok (.ireturn, 1) := by decide +kernel
theorem dX9_kept_40 : decode cX9_kept 40 = .ok (.aload_n 3, 1) := by decide +kernel
theorem dX9_kept_41 : decode cX9_kept 41 = .ok (.getfield 171, 3) := by decide +kernel
theorem dX9_kept_44 : decode cX9_kept 44 = .ok (.iload_n 2, 1) := by decide +kernel
theorem dX9_kept_45 : decode cX9_kept 45 = .ok (.invokestatic 167, 3) := by decide +kernel
theorem dX9_kept_48 : decode cX9_kept 48 = .ok (.ifCond .eq 7, 3) := by decide +kernel
theorem dX9_kept_51 : decode cX9_kept 51 = .ok (.iconst 1, 1) := by decide +kernel
theorem dX9_kept_52 : decode cX9_kept 52 = .ok (.goto 4, 3) := by decide +kernel
theorem dX9_kept_55 : decode cX9_kept 55 = .ok (.iconst 2, 1) := by decide +kernel
theorem dX9_kept_56 : decode cX9_kept 56 = .ok (.ireturn, 1) := by decide +kernel
theorem dX9_minds_0 : decode cX9_minds 0 = .ok (.aload_n 0, 1) := by decide +kernel
theorem dX9_minds_1 : decode cX9_minds 1 = .ok (.iload_n 1, 1) := by decide +kernel
theorem dX9_minds_2 : decode cX9_minds 2 = .ok (.invokevirtual 126, 3) := by decide +kernel
theorem dX9_minds_5 : decode cX9_minds 5 = .ok (.astore_n 2, 1) := by decide +kernel
theorem dX9_minds_6 : decode cX9_minds 6 = .ok (.aload_n 2, 1) := by decide +kernel
theorem dX9_minds_7 : decode cX9_minds 7 = .ok (.ifnonnull 5, 3) := by decide +kernel
theorem dX9_minds_10 : decode cX9_minds 10 = .ok (.iconst (-1), 1) := by decide +kernel
theorem dX9_minds_11 : decode cX9_minds 11 = .ok (.ireturn, 1) := by decide +kernel
theorem dX9_minds_12 : decode cX9_minds 12 = .ok (.aload_n 0, 1) := by decide +kernel
theorem dX9_minds_13 : decode cX9_minds 13 = .ok (.aload_n 0, 1) := by decide +kernel
theorem dX9_minds_14 : decode cX9_minds 14 = .ok (.getfield 78, 3) := by decide +kernel
theorem dX9_minds_17 : decode cX9_minds 17 = .ok (.invokevirtual 160, 3) := by decide +kernel
theorem dX9_minds_20 : decode cX9_minds 20 = .ok (.aload_n 0, 1) := by decide +kernel
theorem dX9_minds_21 : decode cX9_minds 21 = .ok (.getfield 37, 3) := by decide +kernel
theorem dX9_minds_24 : decode cX9_minds 24 = .ok (.invokevirtual 174, 3) := by decide +kernel
theorem dX9_minds_27 : decode cX9_minds 27 = .ok (.iconst 0, 1) := by decide +kernel
theorem dX9_minds_28 : decode cX9_minds 28 = .ok (.istore_n 3, 1) := by decide +kernel
theorem dX9_minds_29 : decode cX9_minds 29 = .ok (.iload_n 3, 1) := by decide +kernel
theorem dX9_minds_30 : decode cX9_minds 30 = .ok (.bipush 64, 2) := by decide +kernel
theorem dX9_minds_32 : decode cX9_minds 32 = .ok (.if_icmp .ge 28, 3) := by decide +kernel
theorem dX9_minds_35 : decode cX9_minds 35 = .ok (.aload_n 2, 1) := by decide +kernel
theorem dX9_minds_36 : decode cX9_minds 36 = .ok (.getfield 171, 3) := by decide +kernel
theorem dX9_minds_39 : decode cX9_minds 39 = .ok (.iload_n 3, 1) := by decide +kernel
theorem dX9_minds_40 : decode cX9_minds 40 = .ok (.invokestatic 167, 3) := by decide +kernel
theorem dX9_minds_43 : decode cX9_minds 43 = .ok (.ifCond .eq 11, 3) := by decide +kernel
theorem dX9_minds_46 : decode cX9_minds 46 = .ok (.aload_n 0, 1) := by decide +kernel
theorem dX9_minds_47 : decode cX9_minds 47 = .ok (.getfield 37, 3) := by decide +kernel
theorem dX9_minds_50 : decode cX9_minds 50 = .ok (.iload_n 3, 1) := by decide +kernel
theorem dX9_minds_51 : decode cX9_minds 51 = .ok (.invokevirtual 177, 3) := by decide +kernel
theorem dX9_minds_54 : decode cX9_minds 54 = .ok (.iinc 3 1, 3) := by decide +kernel
theorem dX9_minds_57 : decode cX9_minds 57 = .ok (.goto (-28), 3) := by decide +kernel
theorem dX9_minds_60 : decode cX9_minds 60 = .ok (.aload_n 2, 1) := by decide +kernel
theorem dX9_minds_61 : decode cX9_minds 61 = .ok (.getfield 171, 3) := by decide +kernel
theorem dX9_minds_64 : decode cX9_minds 64 = .ok (.invokestatic 180, 3) := by decide +kernel
theorem dX9_minds_67 : decode cX9_minds 67 = .ok (.ireturn, 1) := by decide +kernel
theorem dX9_shared_0 : decode cX9_shared 0 = .ok (.iload_n 1, 1) := by decide +kernel
theorem dX9_shared_1 : decode cX9_shared 1 = .ok (.iconst 0, 1) := by decide +kernel
theorem dX9_shared_2 : decode cX9_shared 2 = .ok (.aload_n 0, 1) := by decide +kernel
theorem dX9_shared_3 : decode cX9_shared 3 = .ok (.getfield 71, 3) := by decide +kernel
theorem dX9_shared_6 : decode cX9_shared 6 = .ok (.iconst 1, 1) := by decide +kernel
theorem dX9_shared_7 : decode cX9_shared 7 = .ok (.isub, 1) := by decide +kernel
theorem dX9_shared_8 : decode cX9_shared 8 = .ok (.invokestatic 85, 3) := by decide +kernel
theorem dX9_shared_11 : decode cX9_shared 11 = .ok (.ifCond .ne 5, 3) := by decide +kernel
theorem dX9_shared_14 : decode cX9_shared 14 = .ok (.iconst (-1), 1) := by decide +kernel
theorem dX9_shared_15 : decode cX9_shared 15 = .ok (.ireturn, 1) := by decide +kernel
theorem dX9_shared_16 : decode cX9_shared 16 = .ok (.aload_n 0, 1) := by decide +kernel
theorem dX9_shared_17 : decode cX9_shared 17 = .ok (.aload_n 0, 1) := by decide +kernel
theorem dX9_shared_18 : decode cX9_shared 18 = .ok (.getfield 78, 3) := by decide +kernel
theorem dX9_shared_21 : decode cX9_shared 21 = .ok (.invokevirtual 160, 3) := by decide +kernel
theorem dX9_shared_24 : decode cX9_shared 24 = .ok (.aload_n 0, 1) := by decide +kernel
theorem dX9_shared_25 : decode cX9_shared 25 = .ok (.getfield 62, 3) := by decide +kernel
theorem dX9_shared_28 : decode cX9_shared 28 = .ok (.iload_n 1, 1) := by decide +kernel
theorem dX9_shared_29 : decode cX9_shared 29 = .ok (.iaload, 1) := by decide +kernel
theorem dX9_shared_30 : decode cX9_shared 30 = .ok (.ireturn, 1) := by decide +kernel
theorem dX9_findKept_0 : decode cX9_findKept 0 = .ok (.iconst 0, 1) := by decide +kernel
theorem dX9_findKept_1 : decode cX9_findKept 1 = .ok (.istore_n 2, 1) := by decide +kernel
theorem dX9_findKept_2 : decode cX9_findKept 2 = .ok (.iload_n 2, 1) := by decide +kernel
theorem dX9_findKept_3 : decode cX9_findKept 3 = .ok (.aload_n 0, 1) := by decide +kernel
theorem dX9_findKept_4 : decode cX9_findKept 4 = .ok (.getfield 21, 3) := by decide +kernel
theorem dX9_findKept_7 : decode cX9_findKept 7 = .ok (.invokevirtual 105, 3) := by decide +kernel
theorem dX9_findKept_10 : decode cX9_findKept 10 = .ok (.if_icmp .ge 26, 3) := by decide +kernel
theorem dX9_findKept_13 : decode cX9_findKept 13 = .ok (.aload_n 0, 1) := by decide +kernel
theorem dX9_findKept_14 : decode cX9_findKept 14 = .ok (.getfield 21, 3) := by decide +kernel
theorem dX9_findKept_17 : decode cX9_findKept 17 = .ok (.iload_n 2, 1) := by decide +kernel
theorem dX9_findKept_18 : decode cX9_findKept 18 = .ok (.invokevirtual 109, 3) := by decide +kernel
theorem dX9_findKept_21 : decode cX9_findKept 21 = .ok (.checkcast 113, 3) := by decide +kernel
theorem dX9_findKept_24 : decode cX9_findKept 24 = .ok (.ldc2_w 186, 3) := by decide +kernel
theorem dX9_findKept_27 : decode cX9_findKept 27 = .ok (.putfield 163, 3) := by decide +kernel
theorem dX9_findKept_30 : decode cX9_findKept 30 = .ok (.iinc 2 1, 3) := by decide +kernel
theorem dX9_findKept_33 : decode cX9_findKept 33 = .ok (.goto (-31), 3) := by decide +kernel
theorem dX9_findKept_36 : decode cX9_findKept 36 = .ok (.iconst 0, 1) := by decide +kernel
theorem dX9_findKept_37 : decode cX9_findKept 37 = .ok (.istore_n 2, 1) := by decide +kernel
theorem dX9_findKept_38 : decode cX9_findKept 38 = .ok (.iload_n 2, 1) := by decide +kernel
theorem dX9_findKept_39 : decode cX9_findKept 39 = .ok (.aload_n 0, 1) := by decide +kernel
theorem dX9_findKept_40 : decode cX9_findKept 40 = .ok (.getfield 25, 3) := by decide +kernel
theorem dX9_findKept_43 : decode cX9_findKept 43 = .ok (.invokevirtual 105, 3) := by decide +kernel
theorem dX9_findKept_46 : decode cX9_findKept 46 = .ok (.if_icmp .ge 53, 3) := by decide +kernel
theorem dX9_findKept_49 : decode cX9_findKept 49 = .ok (.aload_n 0, 1) := by decide +kernel
theorem dX9_findKept_50 : decode cX9_findKept 50 = .ok (.getfield 25, 3) := by decide +kernel
theorem dX9_findKept_53 : decode cX9_findKept 53 = .ok (.iload_n 2, 1) := by decide +kernel
theorem dX9_findKept_54 : decode cX9_findKept 54 = .ok (.invokevirtual 109, 3) := by decide +kernel
theorem dX9_findKept_57 : decode cX9_findKept 57 = .ok (.checkcast 116, 3) := by decide +kernel
theorem dX9_findKept_60 : decode cX9_findKept 60 = .ok (.astore_n 3, 1) := by decide +kernel
theorem dX9_findKept_61 : decode cX9_findKept 61 = .ok (.aload_n 3, 1) := by decide +kernel
theorem dX9_findKept_62 : decode cX9_findKept 62 = .ok (.invokevirtual 188, 3) := by decide +kernel
theorem dX9_findKept_65 : decode cX9_findKept 65 = .ok (.aload_n 3, 1) := by decide +kernel
theorem dX9_findKept_66 : decode cX9_findKept 66 = .ok (.iload_n 1, 1) := by decide +kernel
theorem dX9_findKept_67 : decode cX9_findKept 67 = .ok (.invokevirtual 191, 3) := by decide +kernel
theorem dX9_findKept_70 : decode cX9_findKept 70 = .ok (.ifCond .eq 23, 3) := by decide +kernel
theorem dX9_findKept_73 : decode cX9_findKept 73 = .ok (.aload_n 3, 1) := by decide +kernel
theorem dX9_findKept_74 : decode cX9_findKept 74 = .ok (.getfield 194, 3) := by decide +kernel
theorem dX9_findKept_77 : decode cX9_findKept 77 = .ok (.dup, 1) := by decide +kernel
theorem dX9_findKept_78 : decode cX9_findKept 78 = .ok (.getfield 163, 3) := by decide +kernel
theorem dX9_findKept_81 : decode cX9_findKept 81 = .ok (.aload_n 3, 1) := by decide +kernel
theorem dX9_findKept_82 : decode cX9_findKept 82 = .ok (.getfield 198, 3) := by decide +kernel
theorem dX9_findKept_85 : decode cX9_findKept 85 = .ok (.ldc2_w 186, 3) := by decide +kernel
theorem dX9_findKept_88 : decode cX9_findKept 88 = .ok (.lxor, 1) := by decide +kernel
theorem dX9_findKept_89 : decode cX9_findKept 89 = .ok (.land, 1) := by decide +kernel
theorem dX9_findKept_90 : decode cX9_findKept 90 = .ok (.putfield 163, 3) := by decide +kernel
theorem dX9_findKept_93 : decode cX9_findKept 93 = .ok (.iinc 2 1, 3) := by decide +kernel
theorem dX9_findKept_96 : decode cX9_findKept 96 = .ok (.goto (-58), 3) := by decide +kernel
theorem dX9_findKept_99 : decode cX9_findKept 99 = .ok (.aload_n 0, 1) := by decide +kernel
theorem dX9_findKept_100 : decode cX9_findKept 100 = .ok (.getfield 62, 3) := by decide +kernel
theorem dX9_findKept_103 : decode cX9_findKept 103 = .ok (.sipush 255, 3) := by decide +kernel
theorem dX9_findKept_106 : decode cX9_findKept 106 = .ok (.invokestatic 201, 3) := by decide +kernel
theorem dX9_findKept_109 : decode cX9_findKept 109 = .ok (.iconst 0, 1) := by decide +kernel
theorem dX9_findKept_110 : decode cX9_findKept 110 = .ok (.istore_n 2, 1) := by decide +kernel
theorem dX9_findKept_111 : decode cX9_findKept 111 = .ok (.iload_n 2, 1) := by decide +kernel
theorem dX9_findKept_112 : decode cX9_findKept 112 = .ok (.aload_n 0, 1) := by decide +kernel
theorem dX9_findKept_113 : decode cX9_findKept 113 = .ok (.getfield 21, 3) := by decide +kernel
theorem dX9_findKept_116 : decode cX9_findKept 116 = .ok (.invokevirtual 105, 3) := by decide +kernel
theorem dX9_findKept_119 : decode cX9_findKept 119 = .ok (.if_icmp .ge 40, 3) := by decide +kernel
theorem dX9_findKept_122 : decode cX9_findKept 122 = .ok (.aload_n 0, 1) := by decide +kernel
theorem dX9_findKept_123 : decode cX9_findKept 123 = .ok (.getfield 21, 3) := by decide +kernel
theorem dX9_findKept_126 : decode cX9_findKept 126 = .ok (.iload_n 2, 1) := by decide +kernel
theorem dX9_findKept_127 : decode cX9_findKept 127 = .ok (.invokevirtual 109, 3) := by decide +kernel
theorem dX9_findKept_130 : decode cX9_findKept 130 = .ok (.checkcast 113, 3) := by decide +kernel
theorem dX9_findKept_133 : decode cX9_findKept 133 = .ok (.astore_n 3, 1) := by decide +kernel
theorem dX9_findKept_134 : decode cX9_findKept 134 = .ok (.aload_n 0, 1) := by decide +kernel
theorem dX9_findKept_135 : decode cX9_findKept 135 = .ok (.getfield 62, 3) := by decide +kernel
theorem dX9_findKept_138 : decode cX9_findKept 138 = .ok (.aload_n 3, 1) := by decide +kernel
theorem dX9_findKept_139 : decode cX9_findKept 139 = .ok (.getfield 207, 3) := by decide +kernel
theorem dX9_findKept_142 : decode cX9_findKept 142 = .ok (.dup2, 1) := by decide +kernel
theorem dX9_findKept_143 : decode cX9_findKept 143 = .ok (.iaload, 1) := by decide +kernel
theorem dX9_findKept_144 : decode cX9_findKept 144 = .ok (.aload_n 3, 1) := by decide +kernel
theorem dX9_findKept_145 : decode cX9_findKept 145 = .ok (.getfield 163, 3) := by decide +kernel
theorem dX9_findKept_148 : decode cX9_findKept 148 = .ok (.invokestatic 210, 3) := by decide +kernel
theorem dX9_findKept_151 : decode cX9_findKept 151 = .ok (.iand, 1) := by decide +kernel
theorem dX9_findKept_152 : decode cX9_findKept 152 = .ok (.iastore, 1) := by decide +kernel
theorem dX9_findKept_153 : decode cX9_findKept 153 = .ok (.iinc 2 1, 3) := by decide +kernel
theorem dX9_findKept_156 : decode cX9_findKept 156 = .ok (.goto (-45), 3) := by decide +kernel
theorem dX9_findKept_159 : decode cX9_findKept 159 = .ok (.iconst 0, 1) := by decide +kernel
theorem dX9_findKept_160 : decode cX9_findKept 160 = .ok (.istore_n 2, 1) := by decide +kernel
theorem dX9_findKept_161 : decode cX9_findKept 161 = .ok (.iload_n 2, 1) := by decide +kernel
theorem dX9_findKept_162 : decode cX9_findKept 162 = .ok (.aload_n 0, 1) := by decide +kernel
theorem dX9_findKept_163 : decode cX9_findKept 163 = .ok (.getfield 21, 3) := by decide +kernel
theorem dX9_findKept_166 : decode cX9_findKept 166 = .ok (.invokevirtual 105, 3) := by decide +kernel
theorem dX9_findKept_169 : decode cX9_findKept 169 = .ok (.if_icmp .ge 42, 3) := by decide +kernel
theorem dX9_findKept_172 : decode cX9_findKept 172 = .ok (.aload_n 0, 1) := by decide +kernel
theorem dX9_findKept_173 : decode cX9_findKept 173 = .ok (.getfield 21, 3) := by decide +kernel
theorem dX9_findKept_176 : decode cX9_findKept 176 = .ok (.iload_n 2, 1) := by decide +kernel
theorem dX9_findKept_177 : decode cX9_findKept 177 = .ok (.invokevirtual 109, 3) := by decide +kernel
theorem dX9_findKept_180 : decode cX9_findKept 180 = .ok (.checkcast 113, 3) := by decide +kernel
theorem dX9_findKept_183 : decode cX9_findKept 183 = .ok (.astore_n 3, 1) := by decide +kernel
theorem dX9_findKept_184 : decode cX9_findKept 184 = .ok (.aload_n 3, 1) := by decide +kernel
theorem dX9_findKept_185 : decode cX9_findKept 185 = .ok (.aload_n 3, 1) := by decide +kernel
theorem dX9_findKept_186 : decode cX9_findKept 186 = .ok (.getfield 163, 3) := by decide +kernel
theorem dX9_findKept_189 : decode cX9_findKept 189 = .ok (.aload_n 0, 1) := by decide +kernel
theorem dX9_findKept_190 : decode cX9_findKept 190 = .ok (.getfield 62, 3) := by decide +kernel
theorem dX9_findKept_193 : decode cX9_findKept 193 = .ok (.aload_n 3, 1) := by decide +kernel
theorem dX9_findKept_194 : decode cX9_findKept 194 = .ok (.getfield 207, 3) := by decide +kernel
theorem dX9_findKept_197 : decode cX9_findKept 197 = .ok (.iaload, 1) := by decide +kernel
theorem dX9_findKept_198 : decode cX9_findKept 198 = .ok (.invokestatic 213, 3) := by decide +kernel
theorem dX9_findKept_201 : decode cX9_findKept 201 = .ok (.land, 1) := by decide +kernel
theorem dX9_findKept_202 : decode cX9_findKept 202 = .ok (.putfield 171, 3) := by decide +kernel
theorem dX9_findKept_205 : decode cX9_findKept 205 = .ok (.iinc 2 1, 3) := by decide +kernel
theorem dX9_findKept_208 : decode cX9_findKept 208 = .ok (.goto (-47), 3) := by decide +kernel
theorem dX9_findKept_211 : decode cX9_findKept 211 = .ok (.return_, 1) := by decide +kernel
theorem dX9_bitsOfA_0 : decode cX9_bitsOfA 0 = .ok (.iconst 0, 1) := by decide +kernel
theorem dX9_bitsOfA_1 : decode cX9_bitsOfA 1 = .ok (.istore_n 2, 1) := by decide +kernel
theorem dX9_bitsOfA_2 : decode cX9_bitsOfA 2 = .ok (.iconst 0, 1) := by decide +kernel
theorem dX9_bitsOfA_3 : decode cX9_bitsOfA 3 = .ok (.istore_n 3, 1) := by decide +kernel
theorem dX9_bitsOfA_4 : decode cX9_bitsOfA 4 = .ok (.iload_n 3, 1) := by decide +kernel
theorem dX9_bitsOfA_5 : decode cX9_bitsOfA 5 = .ok (.bipush 8, 2) := by decide +kernel
theorem dX9_bitsOfA_7 : decode cX9_bitsOfA 7 = .ok (.if_icmp .ge 30, 3) := by decide +kernel
theorem dX9_bitsOfA_10 : decode cX9_bitsOfA 10 = .ok (.lload_n 0, 1) := by decide +kernel
theorem dX9_bitsOfA_11 : decode cX9_bitsOfA 11 = .ok (.bipush 8, 2) := by decide +kernel
theorem dX9_bitsOfA_13 : decode cX9_bitsOfA 13 = .ok (.iload_n 3, 1) := by decide +kernel
theorem dX9_bitsOfA_14 : decode cX9_bitsOfA 14 = .ok (.imul, 1) := by decide +kernel
theorem dX9_bitsOfA_15 : decode cX9_bitsOfA 15 = .ok (.lushr, 1) := by decide +kernel
theorem dX9_bitsOfA_16 : decode cX9_bitsOfA 16 = .ok (.ldc2_w 217, 3) := by decide +kernel
theorem dX9_bitsOfA_19 : decode cX9_bitsOfA 19 = .ok (.land, 1) := by decide +kernel
theorem dX9_bitsOfA_20 : decode cX9_bitsOfA 20 = .ok (.lconst 0, 1) := by decide +kernel
theorem dX9_bitsOfA_21 : decode cX9_bitsOfA 21 = .ok (.lcmp, 1) := by decide +kernel
theorem dX9_bitsOfA_22 : decode cX9_bitsOfA 22 = .ok (.ifCond .eq 9, 3) := by decide +kernel
theorem dX9_bitsOfA_25 : decode cX9_bitsOfA 25 = .ok (.iload_n 2, 1) := by decide +kernel
theorem dX9_bitsOfA_26 : decode cX9_bitsOfA 26 = .ok (.iconst 1, 1) := by decide +kernel
theorem dX9_bitsOfA_27 : decode cX9_bitsOfA 27 = .ok (.iload_n 3, 1) := by decide +kernel
theorem dX9_bitsOfA_28 : decode cX9_bitsOfA 28 = .ok (.ishl, 1) := by decide +kernel
theorem dX9_bitsOfA_29 : decode cX9_bitsOfA 29 = .ok (.ior, 1) := by decide +kernel
theorem dX9_bitsOfA_30 : decode cX9_bitsOfA 30 = .ok (.istore_n 2, 1) := by decide +kernel
theorem dX9_bitsOfA_31 : decode cX9_bitsOfA 31 = .ok (.iinc 3 1, 3) := by decide +kernel
theorem dX9_bitsOfA_34 : decode cX9_bitsOfA 34 = .ok (.goto (-30), 3) := by decide +kernel
theorem dX9_bitsOfA_37 : decode cX9_bitsOfA 37 = .ok (.iload_n 2, 1) := by decide +kernel
theorem dX9_bitsOfA_38 : decode cX9_bitsOfA 38 = .ok (.ireturn, 1) := by decide +kernel
theorem dX9_mindsOfA_0 : decode cX9_mindsOfA 0 = .ok (.lconst 0, 1) := by decide +kernel
theorem dX9_mindsOfA_1 : decode cX9_mindsOfA 1 = .ok (.lstore_n 1, 1) := by decide +kernel
theorem dX9_mindsOfA_2 : decode cX9_mindsOfA 2 = .ok (.iconst 0, 1) := by decide +kernel
theorem dX9_mindsOfA_3 : decode cX9_mindsOfA 3 = .ok (.istore_n 3, 1) := by decide +kernel
theorem dX9_mindsOfA_4 : decode cX9_mindsOfA 4 = .ok (.iload_n 3, 1) := by decide +kernel
theorem dX9_mindsOfA_5 : decode cX9_mindsOfA 5 = .ok (.bipush 8, 2) := by decide +kernel
theorem dX9_mindsOfA_7 : decode cX9_mindsOfA 7 = .ok (.if_icmp .ge 28, 3) := by decide +kernel
theorem dX9_mindsOfA_10 : decode cX9_mindsOfA 10 = .ok (.iload_n 0, 1) := by decide +kernel
theorem dX9_mindsOfA_11 : decode cX9_mindsOfA 11 = .ok (.iload_n 3, 1) := by decide +kernel
theorem dX9_mindsOfA_12 : decode cX9_mindsOfA 12 = .ok (.ishr, 1) := by decide +kernel
theorem dX9_mindsOfA_13 : decode cX9_mindsOfA 13 = .ok (.iconst 1, 1) := by decide +kernel
theorem dX9_mindsOfA_14 : decode cX9_mindsOfA 14 = .ok (.iand, 1) := by decide +kernel
theorem dX9_mindsOfA_15 : decode cX9_mindsOfA 15 = .ok (.ifCond .eq 14, 3) := by decide +kernel
theorem dX9_mindsOfA_18 : decode cX9_mindsOfA 18 = .ok (.lload_n 1, 1) := by decide +kernel
theorem dX9_mindsOfA_19 : decode cX9_mindsOfA 19 = .ok (.ldc2_w 217, 3) := by decide +kernel
theorem dX9_mindsOfA_22 : decode cX9_mindsOfA 22 = .ok (.bipush 8, 2) := by decide +kernel
theorem dX9_mindsOfA_24 : decode cX9_mindsOfA 24 = .ok (.iload_n 3, 1) := by decide +kernel
theorem dX9_mindsOfA_25 : decode cX9_mindsOfA 25 = .ok (.imul, 1) := by decide +kernel
theorem dX9_mindsOfA_26 : decode cX9_mindsOfA 26 = .ok (.lshl, 1) := by decide +kernel
theorem dX9_mindsOfA_27 : decode cX9_mindsOfA 27 = .ok (.lor, 1) := by decide +kernel
theorem dX9_mindsOfA_28 : decode cX9_mindsOfA 28 = .ok (.lstore_n 1, 1) := by decide +kernel
theorem dX9_mindsOfA_29 : decode cX9_mindsOfA 29 = .ok (.iinc 3 1, 3) := by decide +kernel
theorem dX9_mindsOfA_32 : decode cX9_mindsOfA 32 = .ok (.goto (-28), 3) := by decide +kernel
theorem dX9_mindsOfA_35 : decode cX9_mindsOfA 35 = .ok (.lload_n 1, 1) := by decide +kernel
theorem dX9_mindsOfA_36 : decode cX9_mindsOfA 36 = .ok (.lreturn, 1) := by decide +kernel
theorem dX9_look_0 : decode cX9_look 0 = .ok (.aload_n 0, 1) := by decide +kernel
theorem dX9_look_1 : decode cX9_look 1 = .ok (.iload_n 1, 1) := by decide +kernel
theorem dX9_look_2 : decode cX9_look 2 = .ok (.invokevirtual 126, 3) := by decide +kernel
theorem dX9_look_5 : decode cX9_look 5 = .ok (.astore 6, 2) := by decide +kernel
theorem dX9_look_7 : decode cX9_look 7 = .ok (.aload 6, 2) := by decide +kernel
theorem dX9_look_9 : decode cX9_look 9 = .ok (.ifnull 50, 3) := by decide +kernel
theorem dX9_look_12 : decode cX9_look 12 = .ok (.iload_n 2, 1) := by decide +kernel
theorem dX9_look_13 : decode cX9_look 13 = .ok (.invokestatic 81, 3) := by decide +kernel
theorem dX9_look_16 : decode cX9_look 16 = .ok (.ifCond .eq 43, 3) := by decide +kernel
theorem dX9_look_19 : decode cX9_look 19 = .ok (.iload_n 3, 1) := by decide +kernel
theorem dX9_look_20 : decode cX9_look 20 = .ok (.iconst 0, 1) := by decide +kernel
theorem dX9_look_21 : decode cX9_look 21 = .ok (.sipush 200, 3) := by decide +kernel
theorem dX9_look_24 : decode cX9_look 24 = .ok (.invokestatic 85, 3) := by decide +kernel
theorem dX9_look_27 : decode cX9_look 27 = .ok (.ifCond .eq 32, 3) := by decide +kernel
theorem dX9_look_30 : decode cX9_look 30 = .ok (.iload 4, 2) := by decide +kernel
theorem dX9_look_32 : decode cX9_look 32 = .ok (.iconst 0, 1) := by decide +kernel
theorem dX9_look_33 : decode cX9_look 33 = .ok (.bipush 50, 2) := by decide +kernel
theorem dX9_look_35 : decode cX9_look 35 = .ok (.invokestatic 85, 3) := by decide +kernel
theorem dX9_look_38 : decode cX9_look 38 = .ok (.ifCond .eq 21, 3) := by decide +kernel
theorem dX9_look_41 : decode cX9_look 41 = .ok (.iload 5, 2) := by decide +kernel
theorem dX9_look_43 : decode cX9_look 43 = .ok (.invokestatic 81, 3) := by decide +kernel
theorem dX9_look_46 : decode cX9_look 46 = .ok (.ifCond .eq 13, 3) := by decide +kernel
theorem dX9_look_49 : decode cX9_look 49 = .ok (.iload 5, 2) := by decide +kernel
theorem dX9_look_51 : decode cX9_look 51 = .ok (.iload_n 2, 1) := by decide +kernel
theorem dX9_look_52 : decode cX9_look 52 = .ok (.if_icmp .lt 7, 3) := by decide +kernel
theorem dX9_look_55 : decode cX9_look 55 = .ok (.iconst 1, 1) := by decide +kernel
theorem dX9_look_56 : decode cX9_look 56 = .ok (.goto 4, 3) := by decide +kernel
theorem dX9_look_59 : decode cX9_look 59 = .ok (.iconst 0, 1) := by decide +kernel
theorem dX9_look_60 : decode cX9_look 60 = .ok (.istore 7, 2) := by decide +kernel
theorem dX9_look_62 : decode cX9_look 62 = .ok (.iload 7, 2) := by decide +kernel
theorem dX9_look_64 : decode cX9_look 64 = .ok (.ifCond .eq 15, 3) := by decide +kernel
theorem dX9_look_67 : decode cX9_look 67 = .ok (.aload_n 0, 1) := by decide +kernel
theorem dX9_look_68 : decode cX9_look 68 = .ok (.getfield 25, 3) := by decide +kernel
theorem dX9_look_71 : decode cX9_look 71 = .ok (.invokevirtual 105, 3) := by decide +kernel
theorem dX9_look_74 : decode cX9_look 74 = .ok (.bipush 40, 2) := by decide +kernel
theorem dX9_look_76 : decode cX9_look 76 = .ok (.if_icmp .lt 5, 3) := by decide +kernel
theorem dX9_look_79 : decode cX9_look 79 = .ok (.iconst (-1), 1) := by decide +kernel
theorem dX9_look_80 : decode cX9_look 80 = .ok (.ireturn, 1) := by decide +kernel
theorem dX9_look_81 : decode cX9_look 81 = .ok (.aload_n 0, 1) := by decide +kernel
theorem dX9_look_82 : decode cX9_look 82 = .ok (.getfield 25, 3) := by decide +kernel
theorem dX9_look_85 : decode cX9_look 85 = .ok (.new 116, 3) := by decide +kernel
theorem dX9_look_88 : decode cX9_look 88 = .ok (.dup, 1) := by decide +kernel
theorem dX9_look_89 : decode cX9_look 89 = .ok (.aload 6, 2) := by decide +kernel
theorem dX9_look_91 : decode cX9_look 91 = .ok (.iload_n 2, 1) := by decide +kernel
theorem dX9_look_92 : decode cX9_look 92 = .ok (.iload_n 3, 1) := by decide +kernel
theorem dX9_look_93 : decode cX9_look 93 = .ok (.iload 4, 2) := by decide +kernel
theorem dX9_look_95 : decode cX9_look 95 = .ok (.iload 5, 2) := by decide +kernel
theorem dX9_look_97 : decode cX9_look 97 = .ok (.invokespecial 219, 3) := by decide +kernel
theorem dX9_look_100 : decode cX9_look 100 = .ok (.invokevirtual 122, 3) := by decide +kernel
theorem dX9_look_103 : decode cX9_look 103 = .ok (.pop, 1) := by decide +kernel
theorem dX9_look_104 : decode cX9_look 104 = .ok (.aload_n 0, 1) := by decide +kernel
theorem dX9_look_105 : decode cX9_look 105 = .ok (.getfield 25, 3) := by decide +kernel
theorem dX9_look_108 : decode cX9_look 108 = .ok (.invokevirtual 105, 3) := by decide +kernel
theorem dX9_look_111 : decode cX9_look 111 = .ok (.iconst 1, 1) := by decide +kernel
theorem dX9_look_112 : decode cX9_look 112 = .ok (.isub, 1) := by decide +kernel
theorem dX9_look_113 : decode cX9_look 113 = .ok (.ireturn, 1) := by decide +kernel
theorem dX9_back_0 : decode cX9_back 0 = .ok (.aload_n 0, 1) := by decide +kernel
theorem dX9_back_1 : decode cX9_back 1 = .ok (.iload_n 1, 1) := by decide +kernel
theorem dX9_back_2 : decode cX9_back 2 = .ok (.invokevirtual 222, 3) := by decide +kernel
theorem dX9_back_5 : decode cX9_back 5 = .ok (.astore_n 3, 1) := by decide +kernel
theorem dX9_back_6 : decode cX9_back 6 = .ok (.aload_n 3, 1) := by decide +kernel
theorem dX9_back_7 : decode cX9_back 7 = .ok (.ifnull 10, 3) := by decide +kernel
theorem dX9_back_10 : decode cX9_back 10 = .ok (.iload_n 2, 1) := by decide +kernel
theorem dX9_back_11 : decode cX9_back 11 = .ok (.invokestatic 81, 3) := by decide +kernel
theorem dX9_back_14 : decode cX9_back 14 = .ok (.ifCond .ne 5, 3) := by decide +kernel
theorem dX9_back_17 : decode cX9_back 17 = .ok (.iconst 0, 1) := by decide +kernel
theorem dX9_back_18 : decode cX9_back 18 = .ok (.ireturn, 1) := by decide +kernel
theorem dX9_back_19 : decode cX9_back 19 = .ok (.aload_n 3, 1) := by decide +kernel
theorem dX9_back_20 : decode cX9_back 20 = .ok (.iload_n 2, 1) := by decide +kernel
theorem dX9_back_21 : decode cX9_back 21 = .ok (.putfield 226, 3) := by decide +kernel
theorem dX9_back_24 : decode cX9_back 24 = .ok (.iconst 1, 1) := by decide +kernel
theorem dX9_back_25 : decode cX9_back 25 = .ok (.ireturn, 1) := by decide +kernel
theorem dX9_as_0 : decode cX9_as 0 = .ok (.iload_n 1, 1) := by decide +kernel
theorem dX9_as_1 : decode cX9_as 1 = .ok (.invokestatic 81, 3) := by decide +kernel
theorem dX9_as_4 : decode cX9_as 4 = .ok (.ifCond .ne 5, 3) := by decide +kernel
theorem dX9_as_7 : decode cX9_as 7 = .ok (.iconst (-1), 1) := by decide +kernel
theorem dX9_as_8 : decode cX9_as 8 = .ok (.ireturn, 1) := by decide +kernel
theorem dX9_as_9 : decode cX9_as 9 = .ok (.aload_n 0, 1) := by decide +kernel
theorem dX9_as_10 : decode cX9_as 10 = .ok (.getfield 78, 3) := by decide +kernel
theorem dX9_as_13 : decode cX9_as 13 = .ok (.istore_n 2, 1) := by decide +kernel
theorem dX9_as_14 : decode cX9_as 14 = .ok (.aload_n 0, 1) := by decide +kernel
theorem dX9_as_15 : decode cX9_as 15 = .ok (.iload_n 1, 1) := by decide +kernel
theorem dX9_as_16 : decode cX9_as 16 = .ok (.putfield 78, 3) := by decide +kernel
theorem dX9_as_19 : decode cX9_as 19 = .ok (.iload_n 2, 1) := by decide +kernel
theorem dX9_as_20 : decode cX9_as 20 = .ok (.ireturn, 1) := by decide +kernel
theorem dX9_bars_0 : decode cX9_bars 0 = .ok (.aload_n 0, 1) := by decide +kernel
theorem dX9_bars_1 : decode cX9_bars 1 = .ok (.iload_n 1, 1) := by decide +kernel
theorem dX9_bars_2 : decode cX9_bars 2 = .ok (.invokevirtual 222, 3) := by decide +kernel
theorem dX9_bars_5 : decode cX9_bars 5 = .ok (.astore_n 2, 1) := by decide +kernel
theorem dX9_bars_6 : decode cX9_bars 6 = .ok (.aload_n 2, 1) := by decide +kernel
theorem dX9_bars_7 : decode cX9_bars 7 = .ok (.ifnonnull 5, 3) := by decide +kernel
theorem dX9_bars_10 : decode cX9_bars 10 = .ok (.iconst (-1), 1) := by decide +kernel
theorem dX9_bars_11 : decode cX9_bars 11 = .ok (.ireturn, 1) := by decide +kernel
theorem dX9_bars_12 : decode cX9_bars 12 = .ok (.aload_n 2, 1) := by decide +kernel
theorem dX9_bars_13 : decode cX9_bars 13 = .ok (.invokevirtual 188, 3) := by decide +kernel
theorem dX9_bars_16 : decode cX9_bars 16 = .ok (.aload_n 2, 1) := by decide +kernel
theorem dX9_bars_17 : decode cX9_bars 17 = .ok (.getfield 198, 3) := by decide +kernel
theorem dX9_bars_20 : decode cX9_bars 20 = .ok (.invokestatic 180, 3) := by decide +kernel
theorem dX9_bars_23 : decode cX9_bars 23 = .ok (.ireturn, 1) := by decide +kernel
theorem dX9_weighs_0 : decode cX9_weighs 0 = .ok (.aload_n 0, 1) := by decide +kernel
theorem dX9_weighs_1 : decode cX9_weighs 1 = .ok (.iload_n 1, 1) := by decide +kernel
theorem dX9_weighs_2 : decode cX9_weighs 2 = .ok (.invokevirtual 222, 3) := by decide +kernel
theorem dX9_weighs_5 : decode cX9_weighs 5 = .ok (.astore_n 2, 1) := by decide +kernel
theorem dX9_weighs_6 : decode cX9_weighs 6 = .ok (.aload_n 2, 1) := by decide +kernel
theorem dX9_weighs_7 : decode cX9_weighs 7 = .ok (.ifnull 14, 3) := by decide +kernel
theorem dX9_weighs_10 : decode cX9_weighs 10 = .ok (.aload_n 2, 1) := by decide +kernel
theorem dX9_weighs_11 : decode cX9_weighs 11 = .ok (.aload_n 0, 1) := by decide +kernel
theorem dX9_weighs_12 : decode cX9_weighs 12 = .ok (.getfield 78, 3) := by decide +kernel
theorem dX9_weighs_15 : decode cX9_weighs 15 = .ok (.invokevirtual 191, 3) := by decide +kernel
theorem dX9_weighs_18 : decode cX9_weighs 18 = .ok (.ifCond .ne 5, 3) := by decide +kernel
theorem dX9_weighs_21 : decode cX9_weighs 21 = .ok (.iconst (-1), 1) := by decide +kernel
theorem dX9_weighs_22 : decode cX9_weighs 22 = .ok (.ireturn, 1) := by decide +kernel
theorem dX9_weighs_23 : decode cX9_weighs 23 = .ok (.aload_n 0, 1) := by decide +kernel
theorem dX9_weighs_24 : decode cX9_weighs 24 = .ok (.aload_n 0, 1) := by decide +kernel
theorem dX9_weighs_25 : decode cX9_weighs 25 = .ok (.getfield 78, 3) := by decide +kernel
theorem dX9_weighs_28 : decode cX9_weighs 28 = .ok (.invokevirtual 160, 3) := by decide +kernel
theorem dX9_weighs_31 : decode cX9_weighs 31 = .ok (.lconst 0, 1) := by decide +kernel
theorem dX9_weighs_32 : decode cX9_weighs 32 = .ok (.lstore_n 3, 1) := by decide +kernel
theorem dX9_weighs_33 : decode cX9_weighs 33 = .ok (.iconst 0, 1) := by decide +kernel
theorem dX9_weighs_34 : decode cX9_weighs 34 = .ok (.istore 5, 2) := by decide +kernel
theorem dX9_weighs_36 : decode cX9_weighs 36 = .ok (.iload 5, 2) := by decide +kernel
theorem dX9_weighs_38 : decode cX9_weighs 38 = .ok (.aload_n 0, 1) := by decide +kernel
theorem dX9_weighs_39 : decode cX9_weighs 39 = .ok (.getfield 25, 3) := by decide +kernel
theorem dX9_weighs_42 : decode cX9_weighs 42 = .ok (.invokevirtual 105, 3) := by decide +kernel
theorem dX9_weighs_45 : decode cX9_weighs 45 = .ok (.if_icmp .ge 61, 3) := by decide +kernel
theorem dX9_weighs_48 : decode cX9_weighs 48 = .ok (.aload_n 0, 1) := by decide +kernel
theorem dX9_weighs_49 : decode cX9_weighs 49 = .ok (.getfield 25, 3) := by decide +kernel
theorem dX9_weighs_52 : decode cX9_weighs 52 = .ok (.iload 5, 2) := by decide +kernel
theorem dX9_weighs_54 : decode cX9_weighs 54 = .ok (.invokevirtual 109, 3) := by decide +kernel
theorem dX9_weighs_57 : decode cX9_weighs 57 = .ok (.checkcast 116, 3) := by decide +kernel
theorem dX9_weighs_60 : decode cX9_weighs 60 = .ok (.astore 6, 2) := by decide +kernel
theorem dX9_weighs_62 : decode cX9_weighs 62 = .ok (.aload 6, 2) := by decide +kernel
theorem dX9_weighs_64 : decode cX9_weighs 64 = .ok (.aload_n 2, 1) := by decide +kernel
theorem dX9_weighs_65 : decode cX9_weighs 65 = .ok (.if_acmp .eq 35, 3) := by decide +kernel
theorem dX9_weighs_68 : decode cX9_weighs 68 = .ok (.aload 6, 2) := by decide +kernel
theorem dX9_weighs_70 : decode cX9_weighs 70 = .ok (.getfield 194, 3) := by decide +kernel
theorem dX9_weighs_73 : decode cX9_weighs 73 = .ok (.aload_n 2, 1) := by decide +kernel
theorem dX9_weighs_74 : decode cX9_weighs 74 = .ok (.getfield 194, 3) := by decide +kernel
theorem dX9_weighs_77 : decode cX9_weighs 77 = .ok (.if_acmp .ne 23, 3) := by decide +kernel
theorem dX9_weighs_80 : decode cX9_weighs 80 = .ok (.aload 6, 2) := by decide +kernel
theorem dX9_weighs_82 : decode cX9_weighs 82 = .ok (.aload_n 0, 1) := by decide +kernel
theorem dX9_weighs_83 : decode cX9_weighs 83 = .ok (.getfield 78, 3) := by decide +kernel
theorem dX9_weighs_86 : decode cX9_weighs 86 = .ok (.invokevirtual 191, 3) := by decide +kernel
theorem dX9_weighs_89 : decode cX9_weighs 89 = .ok (.ifCond .eq 11, 3) := by decide +kernel
theorem dX9_weighs_92 : decode cX9_weighs 92 = .ok (.lload_n 3, 1) := by decide +kernel
theorem dX9_weighs_93 : decode cX9_weighs 93 = .ok (.aload 6, 2) := by decide +kernel
theorem dX9_weighs_95 : decode cX9_weighs 95 = .ok (.getfield 198, 3) := by decide +kernel
theorem dX9_weighs_98 : decode cX9_weighs 98 = .ok (.lor, 1) := by decide +kernel
theorem dX9_weighs_99 : decode cX9_weighs 99 = .ok (.lstore_n 3, 1) := by decide +kernel
theorem dX9_weighs_100 : decode cX9_weighs 100 = .ok (.iinc 5 1, 3) := by decide +kernel
theorem dX9_weighs_103 : decode cX9_weighs 103 = .ok (.goto (-67), 3) := by decide +kernel
theorem dX9_weighs_106 : decode cX9_weighs 106 = .ok (.aload_n 2, 1) := by decide +kernel
theorem dX9_weighs_107 : decode cX9_weighs 107 = .ok (.getfield 198, 3) := by decide +kernel
theorem dX9_weighs_110 : decode cX9_weighs 110 = .ok (.lload_n 3, 1) := by decide +kernel
theorem dX9_weighs_111 : decode cX9_weighs 111 = .ok (.ldc2_w 186, 3) := by decide +kernel
theorem dX9_weighs_114 : decode cX9_weighs 114 = .ok (.lxor, 1) := by decide +kernel
theorem dX9_weighs_115 : decode cX9_weighs 115 = .ok (.land, 1) := by decide +kernel
theorem dX9_weighs_116 : decode cX9_weighs 116 = .ok (.invokestatic 180, 3) := by decide +kernel
theorem dX9_weighs_119 : decode cX9_weighs 119 = .ok (.ireturn, 1) := by decide +kernel
theorem dX9_blame_0 : decode cX9_blame 0 = .ok (.aload_n 0, 1) := by decide +kernel
theorem dX9_blame_1 : decode cX9_blame 1 = .ok (.iload_n 1, 1) := by decide +kernel
theorem dX9_blame_2 : decode cX9_blame 2 = .ok (.invokevirtual 126, 3) := by decide +kernel
theorem dX9_blame_5 : decode cX9_blame 5 = .ok (.astore_n 2, 1) := by decide +kernel
theorem dX9_blame_6 : decode cX9_blame 6 = .ok (.aload_n 2, 1) := by decide +kernel
theorem dX9_blame_7 : decode cX9_blame 7 = .ok (.ifnonnull 5, 3) := by decide +kernel
theorem dX9_blame_10 : decode cX9_blame 10 = .ok (.iconst (-1), 1) := by decide +kernel
theorem dX9_blame_11 : decode cX9_blame 11 = .ok (.ireturn, 1) := by decide +kernel
theorem dX9_blame_12 : decode cX9_blame 12 = .ok (.aload_n 0, 1) := by decide +kernel
theorem dX9_blame_13 : decode cX9_blame 13 = .ok (.aload_n 0, 1) := by decide +kernel
theorem dX9_blame_14 : decode cX9_blame 14 = .ok (.getfield 78, 3) := by decide +kernel
theorem dX9_blame_17 : decode cX9_blame 17 = .ok (.invokevirtual 160, 3) := by decide +kernel
theorem dX9_blame_20 : decode cX9_blame 20 = .ok (.bipush 41, 2) := by decide +kernel
theorem dX9_blame_22 : decode cX9_blame 22 = .ok (.istore_n 3, 1) := by decide +kernel
theorem dX9_blame_23 : decode cX9_blame 23 = .ok (.iconst 0, 1) := by decide +kernel
theorem dX9_blame_24 : decode cX9_blame 24 = .ok (.istore 4, 2) := by decide +kernel
theorem dX9_blame_26 : decode cX9_blame 26 = .ok (.iconst 0, 1) := by decide +kernel
theorem dX9_blame_27 : decode cX9_blame 27 = .ok (.istore 5, 2) := by decide +kernel
theorem dX9_blame_29 : decode cX9_blame 29 = .ok (.iload 5, 2) := by decide +kernel
theorem dX9_blame_31 : decode cX9_blame 31 = .ok (.bipush 64, 2) := by decide +kernel
theorem dX9_blame_33 : decode cX9_blame 33 = .ok (.if_icmp .ge 31, 3) := by decide +kernel
theorem dX9_blame_36 : decode cX9_blame 36 = .ok (.aload_n 0, 1) := by decide +kernel
theorem dX9_blame_37 : decode cX9_blame 37 = .ok (.aload_n 2, 1) := by decide +kernel
theorem dX9_blame_38 : decode cX9_blame 38 = .ok (.iload 5, 2) := by decide +kernel
theorem dX9_blame_40 : decode cX9_blame 40 = .ok (.invokevirtual 229, 3) := by decide +kernel
theorem dX9_blame_43 : decode cX9_blame 43 = .ok (.istore 6, 2) := by decide +kernel
theorem dX9_blame_45 : decode cX9_blame 45 = .ok (.iload 6, 2) := by decide +kernel
theorem dX9_blame_47 : decode cX9_blame 47 = .ok (.iload_n 3, 1) := by decide +kernel
theorem dX9_blame_48 : decode cX9_blame 48 = .ok (.if_icmp .ge 10, 3) := by decide +kernel
theorem dX9_blame_51 : decode cX9_blame 51 = .ok (.iload 6, 2) := by decide +kernel
theorem dX9_blame_53 : decode cX9_blame 53 = .ok (.istore_n 3, 1) := by decide +kernel
theorem dX9_blame_54 : decode cX9_blame 54 = .ok (.iload 5, 2) := by decide +kernel
theorem dX9_blame_56 : decode cX9_blame 56 = .ok (.istore 4, 2) := by decide +kernel
theorem dX9_blame_58 : decode cX9_blame 58 = .ok (.iinc 5 1, 3) := by decide +kernel
theorem dX9_blame_61 : decode cX9_blame 61 = .ok (.goto (-32), 3) := by decide +kernel
theorem dX9_blame_64 : decode cX9_blame 64 = .ok (.aload_n 0, 1) := by decide +kernel
theorem dX9_blame_65 : decode cX9_blame 65 = .ok (.getfield 37, 3) := by decide +kernel
theorem dX9_blame_68 : decode cX9_blame 68 = .ok (.invokevirtual 174, 3) := by decide +kernel
theorem dX9_blame_71 : decode cX9_blame 71 = .ok (.aload_n 0, 1) := by decide +kernel
theorem dX9_blame_72 : decode cX9_blame 72 = .ok (.getfield 37, 3) := by decide +kernel
theorem dX9_blame_75 : decode cX9_blame 75 = .ok (.iload 4, 2) := by decide +kernel
theorem dX9_blame_77 : decode cX9_blame 77 = .ok (.invokevirtual 177, 3) := by decide +kernel
theorem dX9_blame_80 : decode cX9_blame 80 = .ok (.iconst 0, 1) := by decide +kernel
theorem dX9_blame_81 : decode cX9_blame 81 = .ok (.istore 5, 2) := by decide +kernel
theorem dX9_blame_83 : decode cX9_blame 83 = .ok (.iload 5, 2) := by decide +kernel
theorem dX9_blame_85 : decode cX9_blame 85 = .ok (.aload_n 0, 1) := by decide +kernel
theorem dX9_blame_86 : decode cX9_blame 86 = .ok (.getfield 25, 3) := by decide +kernel
theorem dX9_blame_89 : decode cX9_blame 89 = .ok (.invokevirtual 105, 3) := by decide +kernel
theorem dX9_blame_92 : decode cX9_blame 92 = .ok (.if_icmp .ge 43, 3) := by decide +kernel
theorem dX9_blame_95 : decode cX9_blame 95 = .ok (.aload_n 0, 1) := by decide +kernel
theorem dX9_blame_96 : decode cX9_blame 96 = .ok (.getfield 25, 3) := by decide +kernel
theorem dX9_blame_99 : decode cX9_blame 99 = .ok (.iload 5, 2) := by decide +kernel
theorem dX9_blame_101 : decode cX9_blame 101 = .ok (.invokevirtual 109, 3) := by decide +kernel
theorem dX9_blame_104 : decode cX9_blame 104 = .ok (.checkcast 116, 3) := by decide +kernel
theorem dX9_blame_107 : decode cX9_blame 107 = .ok (.aload_n 2, 1) := by decide +kernel
theorem dX9_blame_108 : decode cX9_blame 108 = .ok (.iload 4, 2) := by decide +kernel
theorem dX9_blame_110 : decode cX9_blame 110 = .ok (.aload_n 0, 1) := by decide +kernel
theorem dX9_blame_111 : decode cX9_blame 111 = .ok (.getfield 78, 3) := by decide +kernel
theorem dX9_blame_114 : decode cX9_blame 114 = .ok (.invokevirtual 233, 3) := by decide +kernel
theorem dX9_blame_117 : decode cX9_blame 117 = .ok (.ifCond .eq 12, 3) := by decide +kernel
theorem dX9_blame_120 : decode cX9_blame 120 = .ok (.aload_n 0, 1) := by decide +kernel
theorem dX9_blame_121 : decode cX9_blame 121 = .ok (.getfield 37, 3) := by decide +kernel
theorem dX9_blame_124 : decode cX9_blame 124 = .ok (.iload 5, 2) := by decide +kernel
theorem dX9_blame_126 : decode cX9_blame 126 = .ok (.invokevirtual 177, 3) := by decide +kernel
theorem dX9_blame_129 : decode cX9_blame 129 = .ok (.iinc 5 1, 3) := by decide +kernel
theorem dX9_blame_132 : decode cX9_blame 132 = .ok (.goto (-49), 3) := by decide +kernel
theorem dX9_blame_135 : decode cX9_blame 135 = .ok (.iload_n 3, 1) := by decide +kernel
theorem dX9_blame_136 : decode cX9_blame 136 = .ok (.ireturn, 1) := by decide +kernel
theorem dX9_howManyBar_0 : decode cX9_howManyBar 0 = .ok (.iconst 0, 1) := by decide +kernel
theorem dX9_howManyBar_1 : decode cX9_howManyBar 1 = .ok (.istore_n 3, 1) := by decide +kernel
theorem dX9_howManyBar_2 : decode cX9_howManyBar 2 = .ok (.iconst 0, 1) := by decide +kernel
theorem dX9_howManyBar_3 : decode cX9_howManyBar 3 = .ok (.istore 4, 2) := by decide +kernel
theorem dX9_howManyBar_5 : decode cX9_howManyBar 5 = .ok (.iload 4, 2) := by decide +kernel
theorem dX9_howManyBar_7 : decode cX9_howManyBar 7 = .ok (.aload_n 0, 1) := by decide +kernel
theorem dX9_howManyBar_8 : decode cX9_howManyBar 8 = .ok (.getfield 25, 3) := by decide +kernel
theorem dX9_howManyBar_11 : decode cX9_howManyBar 11 = .ok (.invokevirtual 105, 3) := by decide +kernel
theorem dX9_howManyBar_14 : decode cX9_howManyBar 14 = .ok (.if_icmp .ge 36, 3) := by decide +kernel
theorem dX9_howManyBar_17 : decode cX9_howManyBar 17 = .ok (.aload_n 0, 1) := by decide +kernel
theorem dX9_howManyBar_18 : decode cX9_howManyBar 18 = .ok (.getfield 25, 3) := by decide +kernel
theorem dX9_howManyBar_21 : decode cX9_howManyBar 21 = .ok (.iload 4, 2) := by decide +kernel
theorem dX9_howManyBar_23 : decode cX9_howManyBar 23 = .ok (.invokevirtual 109, 3) := by decide +kernel
theorem dX9_howManyBar_26 : decode cX9_howManyBar 26 = .ok (.checkcast 116, 3) := by decide +kernel
theorem dX9_howManyBar_29 : decode cX9_howManyBar 29 = .ok (.aload_n 1, 1) := by decide +kernel
theorem dX9_howManyBar_30 : decode cX9_howManyBar 30 = .ok (.iload_n 2, 1) := by decide +kernel
theorem dX9_howManyBar_31 : decode cX9_howManyBar 31 = .ok (.aload_n 0, 1) := by decide +kernel
theorem dX9_howManyBar_32 : decode cX9_howManyBar 32 = .ok (.getfield 78, 3) := by decide +kernel
theorem dX9_howManyBar_35 : decode cX9_howManyBar 35 = .ok (.invokevirtual 233, 3) := by decide +kernel
theorem dX9_howManyBar_38 : decode cX9_howManyBar 38 = .ok (.ifCond .eq 6, 3) := by decide +kernel
theorem dX9_howManyBar_41 : decode cX9_howManyBar 41 = .ok (.iinc 3 1, 3) := by decide +kernel
theorem dX9_howManyBar_44 : decode cX9_howManyBar 44 = .ok (.iinc 4 1, 3) := by decide +kernel
theorem dX9_howManyBar_47 : decode cX9_howManyBar 47 = .ok (.goto (-42), 3) := by decide +kernel
theorem dX9_howManyBar_50 : decode cX9_howManyBar 50 = .ok (.iload_n 3, 1) := by decide +kernel
theorem dX9_howManyBar_51 : decode cX9_howManyBar 51 = .ok (.ireturn, 1) := by decide +kernel
theorem dX9_state_0 : decode cX9_state 0 = .ok (.aload_n 0, 1) := by decide +kernel
theorem dX9_state_1 : decode cX9_state 1 = .ok (.iload_n 1, 1) := by decide +kernel
theorem dX9_state_2 : decode cX9_state 2 = .ok (.invokevirtual 126, 3) := by decide +kernel
theorem dX9_state_5 : decode cX9_state 5 = .ok (.astore_n 3, 1) := by decide +kernel
theorem dX9_state_6 : decode cX9_state 6 = .ok (.aload_n 3, 1) := by decide +kernel
theorem dX9_state_7 : decode cX9_state 7 = .ok (.ifnull 10, 3) := by decide +kernel
theorem dX9_state_10 : decode cX9_state 10 = .ok (.iload_n 2, 1) := by decide +kernel
theorem dX9_state_11 : decode cX9_state 11 = .ok (.invokestatic 81, 3) := by decide +kernel
theorem dX9_state_14 : decode cX9_state 14 = .ok (.ifCond .ne 5, 3) := by decide +kernel
theorem dX9_state_17 : decode cX9_state 17 = .ok (.iconst (-1), 1) := by decide +kernel
theorem dX9_state_18 : decode cX9_state 18 = .ok (.ireturn, 1) := by decide +kernel
theorem dX9_state_19 : decode cX9_state 19 = .ok (.aload_n 0, 1) := by decide +kernel
theorem dX9_state_20 : decode cX9_state 20 = .ok (.aload_n 0, 1) := by decide +kernel
theorem dX9_state_21 : decode cX9_state 21 = .ok (.getfield 78, 3) := by decide +kernel
theorem dX9_state_24 : decode cX9_state 24 = .ok (.invokevirtual 160, 3) := by decide +kernel
theorem dX9_state_27 : decode cX9_state 27 = .ok (.aload_n 3, 1) := by decide +kernel
theorem dX9_state_28 : decode cX9_state 28 = .ok (.getfield 171, 3) := by decide +kernel
theorem dX9_state_31 : decode cX9_state 31 = .ok (.lconst 0, 1) := by decide +kernel
theorem dX9_state_32 : decode cX9_state 32 = .ok (.lcmp, 1) := by decide +kernel
theorem dX9_state_33 : decode cX9_state 33 = .ok (.ifCond .ne 5, 3) := by decide +kernel
theorem dX9_state_36 : decode cX9_state 36 = .ok (.iconst 4, 1) := by decide +kernel
theorem dX9_state_37 : decode cX9_state 37 = .ok (.ireturn, 1) := by decide +kernel
theorem dX9_state_38 : decode cX9_state 38 = .ok (.iconst 0, 1) := by decide +kernel
theorem dX9_state_39 : decode cX9_state 39 = .ok (.istore 4, 2) := by decide +kernel
theorem dX9_state_41 : decode cX9_state 41 = .ok (.iload 4, 2) := by decide +kernel
theorem dX9_state_43 : decode cX9_state 43 = .ok (.iconst 2, 1) := by decide +kernel
theorem dX9_state_44 : decode cX9_state 44 = .ok (.if_icmp .gt 27, 3) := by decide +kernel
theorem dX9_state_47 : decode cX9_state 47 = .ok (.aload_n 3, 1) := by decide +kernel
theorem dX9_state_48 : decode cX9_state 48 = .ok (.iload_n 2, 1) := by decide +kernel
theorem dX9_state_49 : decode cX9_state 49 = .ok (.iload 4, 2) := by decide +kernel
theorem dX9_state_51 : decode cX9_state 51 = .ok (.invokevirtual 237, 3) := by decide +kernel
theorem dX9_state_54 : decode cX9_state 54 = .ok (.aload_n 3, 1) := by decide +kernel
theorem dX9_state_55 : decode cX9_state 55 = .ok (.getfield 171, 3) := by decide +kernel
theorem dX9_state_58 : decode cX9_state 58 = .ok (.lcmp, 1) := by decide +kernel
theorem dX9_state_59 : decode cX9_state 59 = .ok (.ifCond .ne 6, 3) := by decide +kernel
theorem dX9_state_62 : decode cX9_state 62 = .ok (.iload 4, 2) := by decide +kernel
theorem dX9_state_64 : decode cX9_state 64 = .ok (.ireturn, 1) := by decide +kernel
theorem dX9_state_65 : decode cX9_state 65 = .ok (.iinc 4 1, 3) := by decide +kernel
theorem dX9_state_68 : decode cX9_state 68 = .ok (.goto (-27), 3) := by decide +kernel
theorem dX9_state_71 : decode cX9_state 71 = .ok (.iconst 3, 1) := by decide +kernel
theorem dX9_state_72 : decode cX9_state 72 = .ok (.ireturn, 1) := by decide +kernel
theorem dX9_ends_0 : decode cX9_ends 0 = .ok (.aload_n 0, 1) := by decide +kernel
theorem dX9_ends_1 : decode cX9_ends 1 = .ok (.iload_n 1, 1) := by decide +kernel
theorem dX9_ends_2 : decode cX9_ends 2 = .ok (.invokevirtual 126, 3) := by decide +kernel
theorem dX9_ends_5 : decode cX9_ends 5 = .ok (.astore_n 3, 1) := by decide +kernel
theorem dX9_ends_6 : decode cX9_ends 6 = .ok (.aload_n 3, 1) := by decide +kernel
theorem dX9_ends_7 : decode cX9_ends 7 = .ok (.ifnull 10, 3) := by decide +kernel
theorem dX9_ends_10 : decode cX9_ends 10 = .ok (.iload_n 2, 1) := by decide +kernel
theorem dX9_ends_11 : decode cX9_ends 11 = .ok (.invokestatic 81, 3) := by decide +kernel
theorem dX9_ends_14 : decode cX9_ends 14 = .ok (.ifCond .ne 5, 3) := by decide +kernel
theorem dX9_ends_17 : decode cX9_ends 17 = .ok (.iconst (-1), 1) := by decide +kernel
theorem dX9_ends_18 : decode cX9_ends 18 = .ok (.ireturn, 1) := by decide +kernel
theorem dX9_ends_19 : decode cX9_ends 19 = .ok (.aload_n 0, 1) := by decide +kernel
theorem dX9_ends_20 : decode cX9_ends 20 = .ok (.aload_n 0, 1) := by decide +kernel
theorem dX9_ends_21 : decode cX9_ends 21 = .ok (.getfield 78, 3) := by decide +kernel
theorem dX9_ends_24 : decode cX9_ends 24 = .ok (.invokevirtual 160, 3) := by decide +kernel
theorem dX9_ends_27 : decode cX9_ends 27 = .ok (.aload_n 3, 1) := by decide +kernel
theorem dX9_ends_28 : decode cX9_ends 28 = .ok (.getfield 171, 3) := by decide +kernel
theorem dX9_ends_31 : decode cX9_ends 31 = .ok (.lconst 0, 1) := by decide +kernel
theorem dX9_ends_32 : decode cX9_ends 32 = .ok (.lcmp, 1) := by decide +kernel
theorem dX9_ends_33 : decode cX9_ends 33 = .ok (.ifCond .ne 5, 3) := by decide +kernel
theorem dX9_ends_36 : decode cX9_ends 36 = .ok (.iconst (-1), 1) := by decide +kernel
theorem dX9_ends_37 : decode cX9_ends 37 = .ok (.ireturn, 1) := by decide +kernel
theorem dX9_ends_38 : decode cX9_ends 38 = .ok (.aload_n 0, 1) := by decide +kernel
theorem dX9_ends_39 : decode cX9_ends 39 = .ok (.aload_n 3, 1) := by decide +kernel
theorem dX9_ends_40 : decode cX9_ends 40 = .ok (.iload_n 2, 1) := by decide +kernel
theorem dX9_ends_41 : decode cX9_ends 41 = .ok (.invokevirtual 241, 3) := by decide +kernel
theorem dX9_ends_44 : decode cX9_ends 44 = .ok (.aload_n 3, 1) := by decide +kernel
theorem dX9_ends_45 : decode cX9_ends 45 = .ok (.getfield 171, 3) := by decide +kernel
theorem dX9_ends_48 : decode cX9_ends 48 = .ok (.invokestatic 180, 3) := by decide +kernel
theorem dX9_ends_51 : decode cX9_ends 51 = .ok (.ireturn, 1) := by decide +kernel
