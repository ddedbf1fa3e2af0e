theorem dX0_init_0 : decode cX0_init 0 = .ok (.aload_n 0, 1) := by decide +kernel
theorem dX0_init_1 : decode cX0_init 1 = .ok (.invokespecial 3, 3) := by decide +kernel
theorem dX0_init_4 : decode cX0_init 4 = .ok (.aload_n 0, 1) := by decide +kernel
theorem dX0_init_5 : decode cX0_init 5 = .ok (.bipush 16, 2) := by decide +kernel
theorem dX0_init_7 : decode cX0_init 7 = .ok (.newarray .int, 2) := by decide +kernel
theorem dX0_init_9 : decode cX0_init 9 = .ok (.putfield 9, 3) := by decide +kernel
theorem dX0_init_12 : decode cX0_init 12 = .ok (.aload_n 0, 1) := by decide +kernel
theorem dX0_init_13 : decode cX0_init 13 = .ok (.bipush 16, 2) := by decide +kernel
theorem dX0_init_15 : decode cX0_init 15 = .ok (.newarray .int, 2) := by decide +kernel
theorem dX0_init_17 : decode cX0_init 17 = .ok (.putfield 15, 3) := by decide +kernel
theorem dX0_init_20 : decode cX0_init 20 = .ok (.aload_n 0, 1) := by decide +kernel
theorem dX0_init_21 : decode cX0_init 21 = .ok (.bipush 16, 2) := by decide +kernel
theorem dX0_init_23 : decode cX0_init 23 = .ok (.newarray .int, 2) := by decide +kernel
theorem dX0_init_25 : decode cX0_init 25 = .ok (.putfield 18, 3) := by decide +kernel
theorem dX0_init_28 : decode cX0_init 28 = .ok (.aload_n 0, 1) := by decide +kernel
theorem dX0_init_29 : decode cX0_init 29 = .ok (.bipush 16, 2) := by decide +kernel
theorem dX0_init_31 : decode cX0_init 31 = .ok (.newarray .int, 2) := by decide +kernel
theorem dX0_init_33 : decode cX0_init 33 = .ok (.putfield 21, 3) := by decide +kernel
theorem dX0_init_36 : decode cX0_init 36 = .ok (.aload_n 0, 1) := by decide +kernel
theorem dX0_init_37 : decode cX0_init 37 = .ok (.bipush 16, 2) := by decide +kernel
theorem dX0_init_39 : decode cX0_init 39 = .ok (.newarray .int, 2) := by decide +kernel
theorem dX0_init_41 : decode cX0_init 41 = .ok (.putfield 24, 3) := by decide +kernel
theorem dX0_init_44 : decode cX0_init 44 = .ok (.aload_n 0, 1) := by decide +kernel
theorem dX0_init_45 : decode cX0_init 45 = .ok (.bipush 16, 2) := by decide +kernel
theorem dX0_init_47 : decode cX0_init 47 = .ok (.bipush 12, 2) := by decide +kernel
theorem dX0_init_49 : decode cX0_init 49 = .ok (.multianewarray 27 2, 4) := by decide +kernel
theorem dX0_init_53 : decode cX0_init 53 = .ok (.putfield 29, 3) := by decide +kernel
theorem dX0_init_56 : decode cX0_init 56 = .ok (.aload_n 0, 1) := by decide +kernel
theorem dX0_init_57 : decode cX0_init 57 = .ok (.bipush 16, 2) := by decide +kernel
theorem dX0_init_59 : decode cX0_init 59 = .ok (.newarray .boolean, 2) := by decide +kernel
theorem dX0_init_61 : decode cX0_init 61 = .ok (.putfield 32, 3) := by decide +kernel
theorem dX0_init_64 : decode cX0_init 64 = .ok (.aload_n 0, 1) := by decide +kernel
theorem dX0_init_65 : decode cX0_init 65 = .ok (.bipush 16, 2) := by decide +kernel
theorem dX0_init_67 : decode cX0_init 67 = .ok (.newarray .boolean, 2) := by decide +kernel
theorem dX0_init_69 : decode cX0_init 69 = .ok (.putfield 36, 3) := by decide +kernel
theorem dX0_init_72 : decode cX0_init 72 = .ok (.aload_n 0, 1) := by decide +kernel
theorem dX0_init_73 : decode cX0_init 73 = .ok (.bipush 16, 2) := by decide +kernel
theorem dX0_init_75 : decode cX0_init 75 = .ok (.newarray .int, 2) := by decide +kernel
theorem dX0_init_77 : decode cX0_init 77 = .ok (.putfield 39, 3) := by decide +kernel
theorem dX0_init_80 : decode cX0_init 80 = .ok (.aload_n 0, 1) := by decide +kernel
theorem dX0_init_81 : decode cX0_init 81 = .ok (.bipush 16, 2) := by decide +kernel
theorem dX0_init_83 : decode cX0_init 83 = .ok (.newarray .int, 2) := by decide +kernel
theorem dX0_init_85 : decode cX0_init 85 = .ok (.putfield 42, 3) := by decide +kernel
theorem dX0_init_88 : decode cX0_init 88 = .ok (.aload_n 0, 1) := by decide +kernel
theorem dX0_init_89 : decode cX0_init 89 = .ok (.bipush 32, 2) := by decide +kernel
theorem dX0_init_91 : decode cX0_init 91 = .ok (.newarray .int, 2) := by decide +kernel
theorem dX0_init_93 : decode cX0_init 93 = .ok (.putfield 45, 3) := by decide +kernel
theorem dX0_init_96 : decode cX0_init 96 = .ok (.aload_n 0, 1) := by decide +kernel
theorem dX0_init_97 : decode cX0_init 97 = .ok (.bipush 32, 2) := by decide +kernel
theorem dX0_init_99 : decode cX0_init 99 = .ok (.newarray .int, 2) := by decide +kernel
theorem dX0_init_101 : decode cX0_init 101 = .ok (.putfield 48, 3) := by decide +kernel
theorem dX0_init_104 : decode cX0_init 104 = .ok (.aload_n 0, 1) := by decide +kernel
theorem dX0_init_105 : decode cX0_init 105 = .ok (.aload_n 1, 1) := by decide +kernel
theorem dX0_init_106 : decode cX0_init 106 = .ok (.putfield 51, 3) := by decide +kernel
theorem dX0_init_109 : decode cX0_init 109 = .ok (.aload_n 0, 1) := by decide +kernel
theorem dX0_init_110 : decode cX0_init 110 = .ok (.aload_n 2, 1) := by decide +kernel
theorem dX0_init_111 : decode cX0_init 111 = .ok (.putfield 55, 3) := by decide +kernel
theorem dX0_init_114 : decode cX0_init 114 = .ok (.aload_n 0, 1) := by decide +kernel
theorem dX0_init_115 : decode cX0_init 115 = .ok (.aload_n 3, 1) := by decide +kernel
theorem dX0_init_116 : decode cX0_init 116 = .ok (.putfield 59, 3) := by decide +kernel
theorem dX0_init_119 : decode cX0_init 119 = .ok (.return_, 1) := by decide +kernel
theorem dX0_addCrowd_0 : decode cX0_addCrowd 0 = .ok (.iload_n 1, 1) := by decide +kernel
theorem dX0_addCrowd_1 : decode cX0_addCrowd 1 = .ok (.iconst 0, 1) := by decide +kernel
theorem dX0_addCrowd_2 : decode cX0_addCrowd 2 = .ok (.iconst 3, 1) := by decide +kernel
theorem dX0_addCrowd_3 : decode cX0_addCrowd 3 = .ok (.invokestatic 63, 3) := by decide +kernel
theorem dX0_addCrowd_6 : decode cX0_addCrowd 6 = .ok (.ifCond .eq 48, 3) := by decide +kernel
theorem dX0_addCrowd_9 : decode cX0_addCrowd 9 = .ok (.iload_n 2, 1) := by decide +kernel
theorem dX0_addCrowd_10 : decode cX0_addCrowd 10 = .ok (.iconst 0, 1) := by decide +kernel
theorem dX0_addCrowd_11 : decode cX0_addCrowd 11 = .ok (.iconst 4, 1) := by decide +kernel
theorem dX0_addCrowd_12 : decode cX0_addCrowd 12 = .ok (.invokestatic 63, 3) := by decide +kernel
theorem dX0_addCrowd_15 : decode cX0_addCrowd 15 = .ok (.ifCond .eq 39, 3) := by decide +kernel
theorem dX0_addCrowd_18 : decode cX0_addCrowd 18 = .ok (.iload_n 3, 1) := by decide +kernel
theorem dX0_addCrowd_19 : decode cX0_addCrowd 19 = .ok (.iconst 0, 1) := by decide +kernel
theorem dX0_addCrowd_20 : decode cX0_addCrowd 20 = .ok (.iconst 3, 1) := by decide +kernel
theorem dX0_addCrowd_21 : decode cX0_addCrowd 21 = .ok (.invokestatic 63, 3) := by decide +kernel
theorem dX0_addCrowd_24 : decode cX0_addCrowd 24 = .ok (.ifCond .eq 30, 3) := by decide +kernel
theorem dX0_addCrowd_27 : decode cX0_addCrowd 27 = .ok (.iload 4, 2) := by decide +kernel
theorem dX0_addCrowd_29 : decode cX0_addCrowd 29 = .ok (.iconst 0, 1) := by decide +kernel
theorem dX0_addCrowd_30 : decode cX0_addCrowd 30 = .ok (.sipush 9999, 3) := by decide +kernel
theorem dX0_addCrowd_33 : decode cX0_addCrowd 33 = .ok (.invokestatic 63, 3) := by decide +kernel
theorem dX0_addCrowd_36 : decode cX0_addCrowd 36 = .ok (.ifCond .eq 18, 3) := by decide +kernel
theorem dX0_addCrowd_39 : decode cX0_addCrowd 39 = .ok (.iload 5, 2) := by decide +kernel
theorem dX0_addCrowd_41 : decode cX0_addCrowd 41 = .ok (.iconst 0, 1) := by decide +kernel
theorem dX0_addCrowd_42 : decode cX0_addCrowd 42 = .ok (.bipush 99, 2) := by decide +kernel
theorem dX0_addCrowd_44 : decode cX0_addCrowd 44 = .ok (.invokestatic 63, 3) := by decide +kernel
theorem dX0_addCrowd_47 : decode cX0_addCrowd 47 = .ok (.ifCond .eq 7, 3) := by decide +kernel
theorem dX0_addCrowd_50 : decode cX0_addCrowd 50 = .ok (.iconst 1, 1) := by decide +kernel
theorem dX0_addCrowd_51 : decode cX0_addCrowd 51 = .ok (.goto 4, 3) := by decide +kernel
theorem dX0_addCrowd_54 : decode cX0_addCrowd 54 = .ok (.iconst 0, 1) := by decide +kernel
theorem dX0_addCrowd_55 : decode cX0_addCrowd 55 = .ok (.istore 6, 2) := by decide +kernel
theorem dX0_addCrowd_57 : decode cX0_addCrowd 57 = .ok (.iload 6, 2) := by decide +kernel
theorem dX0_addCrowd_59 : decode cX0_addCrowd 59 = .ok (.ifCond .eq 12, 3) := by decide +kernel
theorem dX0_addCrowd_62 : decode cX0_addCrowd 62 = .ok (.aload_n 0, 1) := by decide +kernel
theorem dX0_addCrowd_63 : decode cX0_addCrowd 63 = .ok (.getfield 67, 3) := by decide +kernel
theorem dX0_addCrowd_66 : decode cX0_addCrowd 66 = .ok (.bipush 16, 2) := by decide +kernel
theorem dX0_addCrowd_68 : decode cX0_addCrowd 68 = .ok (.if_icmp .lt 5, 3) := by decide +kernel
theorem dX0_addCrowd_71 : decode cX0_addCrowd 71 = .ok (.iconst (-1), 1) := by decide +kernel
theorem dX0_addCrowd_72 : decode cX0_addCrowd 72 = .ok (.ireturn, 1) := by decide +kernel
theorem dX0_addCrowd_73 : decode cX0_addCrowd 73 = .ok (.aload_n 0, 1) := by decide +kernel
theorem dX0_addCrowd_74 : decode cX0_addCrowd 74 = .ok (.getfield 9, 3) := by decide +kernel
theorem dX0_addCrowd_77 : decode cX0_addCrowd 77 = .ok (.aload_n 0, 1) := by decide +kernel
theorem dX0_addCrowd_78 : decode cX0_addCrowd 78 = .ok (.getfield 67, 3) := by decide +kernel
theorem dX0_addCrowd_81 : decode cX0_addCrowd 81 = .ok (.iload_n 1, 1) := by decide +kernel
theorem dX0_addCrowd_82 : decode cX0_addCrowd 82 = .ok (.iastore, 1) := by decide +kernel
theorem dX0_addCrowd_83 : decode cX0_addCrowd 83 = .ok (.aload_n 0, 1) := by decide +kernel
theorem dX0_addCrowd_84 : decode cX0_addCrowd 84 = .ok (.getfield 15, 3) := by decide +kernel
theorem dX0_addCrowd_87 : decode cX0_addCrowd 87 = .ok (.aload_n 0, 1) := by decide +kernel
theorem dX0_addCrowd_88 : decode cX0_addCrowd 88 = .ok (.getfield 67, 3) := by decide +kernel
theorem dX0_addCrowd_91 : decode cX0_addCrowd 91 = .ok (.iload_n 2, 1) := by decide +kernel
theorem dX0_addCrowd_92 : decode cX0_addCrowd 92 = .ok (.iastore, 1) := by decide +kernel
theorem dX0_addCrowd_93 : decode cX0_addCrowd 93 = .ok (.aload_n 0, 1) := by decide +kernel
theorem dX0_addCrowd_94 : decode cX0_addCrowd 94 = .ok (.getfield 18, 3) := by decide +kernel
theorem dX0_addCrowd_97 : decode cX0_addCrowd 97 = .ok (.aload_n 0, 1) := by decide +kernel
theorem dX0_addCrowd_98 : decode cX0_addCrowd 98 = .ok (.getfield 67, 3) := by decide +kernel
theorem dX0_addCrowd_101 : decode cX0_addCrowd 101 = .ok (.iload_n 3, 1) := by decide +kernel
theorem dX0_addCrowd_102 : decode cX0_addCrowd 102 = .ok (.iastore, 1) := by decide +kernel
theorem dX0_addCrowd_103 : decode cX0_addCrowd 103 = .ok (.aload_n 0, 1) := by decide +kernel
theorem dX0_addCrowd_104 : decode cX0_addCrowd 104 = .ok (.getfield 21, 3) := by decide +kernel
theorem dX0_addCrowd_107 : decode cX0_addCrowd 107 = .ok (.aload_n 0, 1) := by decide +kernel
theorem dX0_addCrowd_108 : decode cX0_addCrowd 108 = .ok (.getfield 67, 3) := by decide +kernel
theorem dX0_addCrowd_111 : decode cX0_addCrowd 111 = .ok (.iload 4, 2) := by decide +kernel
theorem dX0_addCrowd_113 : decode cX0_addCrowd 113 = .ok (.iastore, 1) := by decide +kernel
theorem dX0_addCrowd_114 : decode cX0_addCrowd 114 = .ok (.aload_n 0, 1) := by decide +kernel
theorem dX0_addCrowd_115 : decode cX0_addCrowd 115 = .ok (.getfield 24, 3) := by decide +kernel
theorem dX0_addCrowd_118 : decode cX0_addCrowd 118 = .ok (.aload_n 0, 1) := by decide +kernel
theorem dX0_addCrowd_119 : decode cX0_addCrowd 119 = .ok (.getfield 67, 3) := by decide +kernel
theorem dX0_addCrowd_122 : decode cX0_addCrowd 122 = .ok (.iload 5, 2) := by decide +kernel
theorem dX0_addCrowd_124 : decode cX0_addCrowd 124 = .ok (.iastore, 1) := by decide +kernel
theorem dX0_addCrowd_125 : decode cX0_addCrowd 125 = .ok (.aload_n 0, 1) := by decide +kernel
theorem dX0_addCrowd_126 : decode cX0_addCrowd 126 = .ok (.dup, 1) := by decide +kernel
theorem dX0_addCrowd_127 : decode cX0_addCrowd 127 = .ok (.getfield 67, 3) := by decide +kernel
theorem dX0_addCrowd_130 : decode cX0_addCrowd 130 = .ok (.iconst 1, 1) := by decide +kernel
theorem dX0_addCrowd_131 : decode cX0_addCrowd 131 = .ok (.iadd, 1) := by decide +kernel
theorem dX0_addCrowd_132 : decode cX0_addCrowd 132 = .ok (.putfield 67, 3) := by decide +kernel
theorem dX0_addCrowd_135 : decode cX0_addCrowd 135 = .ok (.aload_n 0, 1) := by decide +kernel
theorem dX0_addCrowd_136 : decode cX0_addCrowd 136 = .ok (.getfield 67, 3) := by decide +kernel
theorem dX0_addCrowd_139 : decode cX0_addCrowd 139 = .ok (.iconst 1, 1) := by decide +kernel
theorem dX0_addCrowd_140 : decode cX0_addCrowd 140 = .ok (.isub, 1) := by decide +kernel
theorem dX0_addCrowd_141 : decode cX0_addCrowd 141 = .ok (.ireturn, 1) := by decide +kernel
theorem dX0_hasCrowd_0 : decode cX0_hasCrowd 0 = .ok (.iload_n 1, 1) := by decide +kernel
theorem dX0_hasCrowd_1 : decode cX0_hasCrowd 1 = .ok (.ifCond .lt 15, 3) := by decide +kernel
theorem dX0_hasCrowd_4 : decode cX0_hasCrowd 4 = .ok (.iload_n 1, 1) := by decide +kernel
theorem dX0_hasCrowd_5 : decode cX0_hasCrowd 5 = .ok (.aload_n 0, 1) := by decide +kernel
theorem dX0_hasCrowd_6 : decode cX0_hasCrowd 6 = .ok (.getfield 67, 3) := by decide +kernel
theorem dX0_hasCrowd_9 : decode cX0_hasCrowd 9 = .ok (.if_icmp .ge 7, 3) := by decide +kernel
theorem dX0_hasCrowd_12 : decode cX0_hasCrowd 12 = .ok (.iconst 1, 1) := by decide +kernel
theorem dX0_hasCrowd_13 : decode cX0_hasCrowd 13 = .ok (.goto 4, 3) := by decide +kernel
theorem dX0_hasCrowd_16 : decode cX0_hasCrowd 16 = .ok (.iconst 0, 1) := by decide +kernel
theorem dX0_hasCrowd_17 : decode cX0_hasCrowd 17 = .ok (.ireturn, 1) := by decide +kernel
theorem dX0_inspect_0 : decode cX0_inspect 0 = .ok (.aload_n 0, 1) := by decide +kernel
theorem dX0_inspect_1 : decode cX0_inspect 1 = .ok (.getfield 55, 3) := by decide +kernel
theorem dX0_inspect_4 : decode cX0_inspect 4 = .ok (.getfield 71, 3) := by decide +kernel
theorem dX0_inspect_7 : decode cX0_inspect 7 = .ok (.iload_n 1, 1) := by decide +kernel
theorem dX0_inspect_8 : decode cX0_inspect 8 = .ok (.iaload, 1) := by decide +kernel
theorem dX0_inspect_9 : decode cX0_inspect 9 = .ok (.istore_n 3, 1) := by decide +kernel
theorem dX0_inspect_10 : decode cX0_inspect 10 = .ok (.aload_n 0, 1) := by decide +kernel
theorem dX0_inspect_11 : decode cX0_inspect 11 = .ok (.getfield 32, 3) := by decide +kernel
theorem dX0_inspect_14 : decode cX0_inspect 14 = .ok (.iload_n 1, 1) := by decide +kernel
theorem dX0_inspect_15 : decode cX0_inspect 15 = .ok (.iconst 0, 1) := by decide +kernel
theorem dX0_inspect_16 : decode cX0_inspect 16 = .ok (.bastore, 1) := by decide +kernel
theorem dX0_inspect_17 : decode cX0_inspect 17 = .ok (.aload_n 0, 1) := by decide +kernel
theorem dX0_inspect_18 : decode cX0_inspect 18 = .ok (.getfield 36, 3) := by decide +kernel
theorem dX0_inspect_21 : decode cX0_inspect 21 = .ok (.iload_n 1, 1) := by decide +kernel
theorem dX0_inspect_22 : decode cX0_inspect 22 = .ok (.iconst 0, 1) := by decide +kernel
theorem dX0_inspect_23 : decode cX0_inspect 23 = .ok (.bastore, 1) := by decide +kernel
theorem dX0_inspect_24 : decode cX0_inspect 24 = .ok (.aload_n 0, 1) := by decide +kernel
theorem dX0_inspect_25 : decode cX0_inspect 25 = .ok (.getfield 39, 3) := by decide +kernel
theorem dX0_inspect_28 : decode cX0_inspect 28 = .ok (.iload_n 1, 1) := by decide +kernel
theorem dX0_inspect_29 : decode cX0_inspect 29 = .ok (.iconst 0, 1) := by decide +kernel
theorem dX0_inspect_30 : decode cX0_inspect 30 = .ok (.iastore, 1) := by decide +kernel
theorem dX0_inspect_31 : decode cX0_inspect 31 = .ok (.aload_n 0, 1) := by decide +kernel
theorem dX0_inspect_32 : decode cX0_inspect 32 = .ok (.getfield 42, 3) := by decide +kernel
theorem dX0_inspect_35 : decode cX0_inspect 35 = .ok (.iload_n 1, 1) := by decide +kernel
theorem dX0_inspect_36 : decode cX0_inspect 36 = .ok (.iconst 0, 1) := by decide +kernel
theorem dX0_inspect_37 : decode cX0_inspect 37 = .ok (.iastore, 1) := by decide +kernel
theorem dX0_inspect_38 : decode cX0_inspect 38 = .ok (.aload_n 0, 1) := by decide +kernel
theorem dX0_inspect_39 : decode cX0_inspect 39 = .ok (.getfield 51, 3) := by decide +kernel
theorem dX0_inspect_42 : decode cX0_inspect 42 = .ok (.iload_n 3, 1) := by decide +kernel
theorem dX0_inspect_43 : decode cX0_inspect 43 = .ok (.invokevirtual 76, 3) := by decide +kernel
theorem dX0_inspect_46 : decode cX0_inspect 46 = .ok (.ifCond .eq 86, 3) := by decide +kernel
theorem dX0_inspect_49 : decode cX0_inspect 49 = .ok (.aload_n 0, 1) := by decide +kernel
theorem dX0_inspect_50 : decode cX0_inspect 50 = .ok (.getfield 59, 3) := by decide +kernel
theorem dX0_inspect_53 : decode cX0_inspect 53 = .ok (.iload_n 3, 1) := by decide +kernel
theorem dX0_inspect_54 : decode cX0_inspect 54 = .ok (.iload_n 1, 1) := by decide +kernel
theorem dX0_inspect_55 : decode cX0_inspect 55 = .ok (.iload_n 2, 1) := by decide +kernel
theorem dX0_inspect_56 : decode cX0_inspect 56 = .ok (.invokevirtual 82, 3) := by decide +kernel
theorem dX0_inspect_59 : decode cX0_inspect 59 = .ok (.aload_n 0, 1) := by decide +kernel
theorem dX0_inspect_60 : decode cX0_inspect 60 = .ok (.getfield 32, 3) := by decide +kernel
theorem dX0_inspect_63 : decode cX0_inspect 63 = .ok (.iload_n 1, 1) := by decide +kernel
theorem dX0_inspect_64 : decode cX0_inspect 64 = .ok (.aload_n 0, 1) := by decide +kernel
theorem dX0_inspect_65 : decode cX0_inspect 65 = .ok (.getfield 59, 3) := by decide +kernel
theorem dX0_inspect_68 : decode cX0_inspect 68 = .ok (.iload_n 3, 1) := by decide +kernel
theorem dX0_inspect_69 : decode cX0_inspect 69 = .ok (.iload_n 1, 1) := by decide +kernel
theorem dX0_inspect_70 : decode cX0_inspect 70 = .ok (.invokevirtual 88, 3) := by decide +kernel
theorem dX0_inspect_73 : decode cX0_inspect 73 = .ok (.ifCond .ne 7, 3) := by decide +kernel
theorem dX0_inspect_76 : decode cX0_inspect 76 = .ok (.iconst 1, 1) := by decide +kernel
theorem dX0_inspect_77 : decode cX0_inspect 77 = .ok (.goto 4, 3) := by decide +kernel
theorem dX0_inspect_80 : decode cX0_inspect 80 = .ok (.iconst 0, 1) := by decide +kernel
theorem dX0_inspect_81 : decode cX0_inspect 81 = .ok (.bastore, 1) := by decide +kernel
theorem dX0_inspect_82 : decode cX0_inspect 82 = .ok (.aload_n 0, 1) := by decide +kernel
theorem dX0_inspect_83 : decode cX0_inspect 83 = .ok (.getfield 36, 3) := by decide +kernel
theorem dX0_inspect_86 : decode cX0_inspect 86 = .ok (.iload_n 1, 1) := by decide +kernel
theorem dX0_inspect_87 : decode cX0_inspect 87 = .ok (.aload_n 0, 1) := by decide +kernel
theorem dX0_inspect_88 : decode cX0_inspect 88 = .ok (.getfield 51, 3) := by decide +kernel
theorem dX0_inspect_91 : decode cX0_inspect 91 = .ok (.iload_n 3, 1) := by decide +kernel
theorem dX0_inspect_92 : decode cX0_inspect 92 = .ok (.iload_n 2, 1) := by decide +kernel
theorem dX0_inspect_93 : decode cX0_inspect 93 = .ok (.invokevirtual 92, 3) := by decide +kernel
theorem dX0_inspect_96 : decode cX0_inspect 96 = .ok (.iconst (-1), 1) := by decide +kernel
theorem dX0_inspect_97 : decode cX0_inspect 97 = .ok (.if_icmp .eq 7, 3) := by decide +kernel
theorem dX0_inspect_100 : decode cX0_inspect 100 = .ok (.iconst 1, 1) := by decide +kernel
theorem dX0_inspect_101 : decode cX0_inspect 101 = .ok (.goto 4, 3) := by decide +kernel
theorem dX0_inspect_104 : decode cX0_inspect 104 = .ok (.iconst 0, 1) := by decide +kernel
theorem dX0_inspect_105 : decode cX0_inspect 105 = .ok (.bastore, 1) := by decide +kernel
theorem dX0_inspect_106 : decode cX0_inspect 106 = .ok (.aload_n 0, 1) := by decide +kernel
theorem dX0_inspect_107 : decode cX0_inspect 107 = .ok (.getfield 39, 3) := by decide +kernel
theorem dX0_inspect_110 : decode cX0_inspect 110 = .ok (.iload_n 1, 1) := by decide +kernel
theorem dX0_inspect_111 : decode cX0_inspect 111 = .ok (.aload_n 0, 1) := by decide +kernel
theorem dX0_inspect_112 : decode cX0_inspect 112 = .ok (.getfield 59, 3) := by decide +kernel
theorem dX0_inspect_115 : decode cX0_inspect 115 = .ok (.getfield 95, 3) := by decide +kernel
theorem dX0_inspect_118 : decode cX0_inspect 118 = .ok (.iastore, 1) := by decide +kernel
theorem dX0_inspect_119 : decode cX0_inspect 119 = .ok (.aload_n 0, 1) := by decide +kernel
theorem dX0_inspect_120 : decode cX0_inspect 120 = .ok (.getfield 42, 3) := by decide +kernel
theorem dX0_inspect_123 : decode cX0_inspect 123 = .ok (.iload_n 1, 1) := by decide +kernel
theorem dX0_inspect_124 : decode cX0_inspect 124 = .ok (.aload_n 0, 1) := by decide +kernel
theorem dX0_inspect_125 : decode cX0_inspect 125 = .ok (.getfield 59, 3) := by decide +kernel
theorem dX0_inspect_128 : decode cX0_inspect 128 = .ok (.getfield 97, 3) := by decide +kernel
theorem dX0_inspect_131 : decode cX0_inspect 131 = .ok (.iastore, 1) := by decide +kernel
theorem dX0_inspect_132 : decode cX0_inspect 132 = .ok (.return_, 1) := by decide +kernel
theorem dX0_worthOf_0 : decode cX0_worthOf 0 = .ok (.aload_n 0, 1) := by decide +kernel
theorem dX0_worthOf_1 : decode cX0_worthOf 1 = .ok (.getfield 55, 3) := by decide +kernel
theorem dX0_worthOf_4 : decode cX0_worthOf 4 = .ok (.getfield 71, 3) := by decide +kernel
theorem dX0_worthOf_7 : decode cX0_worthOf 7 = .ok (.iload_n 2, 1) := by decide +kernel
theorem dX0_worthOf_8 : decode cX0_worthOf 8 = .ok (.iaload, 1) := by decide +kernel
theorem dX0_worthOf_9 : decode cX0_worthOf 9 = .ok (.istore_n 3, 1) := by decide +kernel
theorem dX0_worthOf_10 : decode cX0_worthOf 10 = .ok (.aload_n 0, 1) := by decide +kernel
theorem dX0_worthOf_11 : decode cX0_worthOf 11 = .ok (.getfield 32, 3) := by decide +kernel
theorem dX0_worthOf_14 : decode cX0_worthOf 14 = .ok (.iload_n 2, 1) := by decide +kernel
theorem dX0_worthOf_15 : decode cX0_worthOf 15 = .ok (.baload, 1) := by decide +kernel
theorem dX0_worthOf_16 : decode cX0_worthOf 16 = .ok (.ifCond .eq 43, 3) := by decide +kernel
theorem dX0_worthOf_19 : decode cX0_worthOf 19 = .ok (.aload_n 0, 1) := by decide +kernel
theorem dX0_worthOf_20 : decode cX0_worthOf 20 = .ok (.getfield 9, 3) := by decide +kernel
theorem dX0_worthOf_23 : decode cX0_worthOf 23 = .ok (.iload_n 1, 1) := by decide +kernel
theorem dX0_worthOf_24 : decode cX0_worthOf 24 = .ok (.iaload, 1) := by decide +kernel
theorem dX0_worthOf_25 : decode cX0_worthOf 25 = .ok (.aload_n 0, 1) := by decide +kernel
theorem dX0_worthOf_26 : decode cX0_worthOf 26 = .ok (.getfield 55, 3) := by decide +kernel
theorem dX0_worthOf_29 : decode cX0_worthOf 29 = .ok (.getfield 99, 3) := by decide +kernel
theorem dX0_worthOf_32 : decode cX0_worthOf 32 = .ok (.iload_n 2, 1) := by decide +kernel
theorem dX0_worthOf_33 : decode cX0_worthOf 33 = .ok (.iaload, 1) := by decide +kernel
theorem dX0_worthOf_34 : decode cX0_worthOf 34 = .ok (.if_icmp .ne 25, 3) := by decide +kernel
theorem dX0_worthOf_37 : decode cX0_worthOf 37 = .ok (.aload_n 0, 1) := by decide +kernel
theorem dX0_worthOf_38 : decode cX0_worthOf 38 = .ok (.getfield 24, 3) := by decide +kernel
theorem dX0_worthOf_41 : decode cX0_worthOf 41 = .ok (.iload_n 1, 1) := by decide +kernel
theorem dX0_worthOf_42 : decode cX0_worthOf 42 = .ok (.iaload, 1) := by decide +kernel
theorem dX0_worthOf_43 : decode cX0_worthOf 43 = .ok (.aload_n 0, 1) := by decide +kernel
theorem dX0_worthOf_44 : decode cX0_worthOf 44 = .ok (.getfield 55, 3) := by decide +kernel
theorem dX0_worthOf_47 : decode cX0_worthOf 47 = .ok (.getfield 100, 3) := by decide +kernel
theorem dX0_worthOf_50 : decode cX0_worthOf 50 = .ok (.iload_n 2, 1) := by decide +kernel
theorem dX0_worthOf_51 : decode cX0_worthOf 51 = .ok (.iaload, 1) := by decide +kernel
theorem dX0_worthOf_52 : decode cX0_worthOf 52 = .ok (.if_icmp .lt 7, 3) := by decide +kernel
theorem dX0_worthOf_55 : decode cX0_worthOf 55 = .ok (.iconst 1, 1) := by decide +kernel
theorem dX0_worthOf_56 : decode cX0_worthOf 56 = .ok (.goto 4, 3) := by decide +kernel
theorem dX0_worthOf_59 : decode cX0_worthOf 59 = .ok (.iconst 0, 1) := by decide +kernel
theorem dX0_worthOf_60 : decode cX0_worthOf 60 = .ok (.istore 4, 2) := by decide +kernel
theorem dX0_worthOf_62 : decode cX0_worthOf 62 = .ok (.iload 4, 2) := by decide +kernel
theorem dX0_worthOf_64 : decode cX0_worthOf 64 = .ok (.ifCond .eq 14, 3) := by decide +kernel
theorem dX0_worthOf_67 : decode cX0_worthOf 67 = .ok (.aload_n 0, 1) := by decide +kernel
theorem dX0_worthOf_68 : decode cX0_worthOf 68 = .ok (.getfield 51, 3) := by decide +kernel
theorem dX0_worthOf_71 : decode cX0_worthOf 71 = .ok (.iload_n 3, 1) := by decide +kernel
theorem dX0_worthOf_72 : decode cX0_worthOf 72 = .ok (.invokevirtual 76, 3) := by decide +kernel
theorem dX0_worthOf_75 : decode cX0_worthOf 75 = .ok (.ifCond .ne 6, 3) := by decide +kernel
theorem dX0_worthOf_78 : decode cX0_worthOf 78 = .ok (.bipush (-99), 2) := by decide +kernel
theorem dX0_worthOf_80 : decode cX0_worthOf 80 = .ok (.ireturn, 1) := by decide +kernel
theorem dX0_worthOf_81 : decode cX0_worthOf 81 = .ok (.aload_n 0, 1) := by decide +kernel
theorem dX0_worthOf_82 : decode cX0_worthOf 82 = .ok (.getfield 51, 3) := by decide +kernel
theorem dX0_worthOf_85 : decode cX0_worthOf 85 = .ok (.getfield 103, 3) := by decide +kernel
theorem dX0_worthOf_88 : decode cX0_worthOf 88 = .ok (.iload_n 3, 1) := by decide +kernel
theorem dX0_worthOf_89 : decode cX0_worthOf 89 = .ok (.iaload, 1) := by decide +kernel
theorem dX0_worthOf_90 : decode cX0_worthOf 90 = .ok (.istore 5, 2) := by decide +kernel
theorem dX0_worthOf_92 : decode cX0_worthOf 92 = .ok (.aload_n 0, 1) := by decide +kernel
theorem dX0_worthOf_93 : decode cX0_worthOf 93 = .ok (.getfield 29, 3) := by decide +kernel
theorem dX0_worthOf_96 : decode cX0_worthOf 96 = .ok (.iload_n 1, 1) := by decide +kernel
theorem dX0_worthOf_97 : decode cX0_worthOf 97 = .ok (.aaload, 1) := by decide +kernel
theorem dX0_worthOf_98 : decode cX0_worthOf 98 = .ok (.iload 5, 2) := by decide +kernel
theorem dX0_worthOf_100 : decode cX0_worthOf 100 = .ok (.iaload, 1) := by decide +kernel
theorem dX0_worthOf_101 : decode cX0_worthOf 101 = .ok (.istore 6, 2) := by decide +kernel
theorem dX0_worthOf_103 : decode cX0_worthOf 103 = .ok (.aload_n 0, 1) := by decide +kernel
theorem dX0_worthOf_104 : decode cX0_worthOf 104 = .ok (.getfield 51, 3) := by decide +kernel
theorem dX0_worthOf_107 : decode cX0_worthOf 107 = .ok (.getfield 106, 3) := by decide +kernel
theorem dX0_worthOf_110 : decode cX0_worthOf 110 = .ok (.iload 5, 2) := by decide +kernel
theorem dX0_worthOf_112 : decode cX0_worthOf 112 = .ok (.iaload, 1) := by decide +kernel
theorem dX0_worthOf_113 : decode cX0_worthOf 113 = .ok (.aload_n 0, 1) := by decide +kernel
theorem dX0_worthOf_114 : decode cX0_worthOf 114 = .ok (.getfield 15, 3) := by decide +kernel
theorem dX0_worthOf_117 : decode cX0_worthOf 117 = .ok (.iload_n 1, 1) := by decide +kernel
theorem dX0_worthOf_118 : decode cX0_worthOf 118 = .ok (.iaload, 1) := by decide +kernel
theorem dX0_worthOf_119 : decode cX0_worthOf 119 = .ok (.if_icmp .ne 9, 3) := by decide +kernel
theorem dX0_worthOf_122 : decode cX0_worthOf 122 = .ok (.iinc 6 4, 3) := by decide +kernel
theorem dX0_worthOf_125 : decode cX0_worthOf 125 = .ok (.goto 20, 3) := by decide +kernel
theorem dX0_worthOf_128 : decode cX0_worthOf 128 = .ok (.aload_n 0, 1) := by decide +kernel
theorem dX0_worthOf_129 : decode cX0_worthOf 129 = .ok (.getfield 51, 3) := by decide +kernel
theorem dX0_worthOf_132 : decode cX0_worthOf 132 = .ok (.getfield 106, 3) := by decide +kernel
theorem dX0_worthOf_135 : decode cX0_worthOf 135 = .ok (.iload 5, 2) := by decide +kernel
theorem dX0_worthOf_137 : decode cX0_worthOf 137 = .ok (.iaload, 1) := by decide +kernel
theorem dX0_worthOf_138 : decode cX0_worthOf 138 = .ok (.iconst 5, 1) := by decide +kernel
theorem dX0_worthOf_139 : decode cX0_worthOf 139 = .ok (.if_icmp .ne 6, 3) := by decide +kernel
theorem dX0_worthOf_142 : decode cX0_worthOf 142 = .ok (.iinc 6 2, 3) := by decide +kernel
theorem dX0_worthOf_145 : decode cX0_worthOf 145 = .ok (.aload_n 0, 1) := by decide +kernel
theorem dX0_worthOf_146 : decode cX0_worthOf 146 = .ok (.getfield 51, 3) := by decide +kernel
theorem dX0_worthOf_149 : decode cX0_worthOf 149 = .ok (.getfield 107, 3) := by decide +kernel
theorem dX0_worthOf_152 : decode cX0_worthOf 152 = .ok (.iload 5, 2) := by decide +kernel
theorem dX0_worthOf_154 : decode cX0_worthOf 154 = .ok (.iaload, 1) := by decide +kernel
theorem dX0_worthOf_155 : decode cX0_worthOf 155 = .ok (.aload_n 0, 1) := by decide +kernel
theorem dX0_worthOf_156 : decode cX0_worthOf 156 = .ok (.getfield 18, 3) := by decide +kernel
theorem dX0_worthOf_159 : decode cX0_worthOf 159 = .ok (.iload_n 1, 1) := by decide +kernel
theorem dX0_worthOf_160 : decode cX0_worthOf 160 = .ok (.iaload, 1) := by decide +kernel
theorem dX0_worthOf_161 : decode cX0_worthOf 161 = .ok (.if_icmp .ne 6, 3) := by decide +kernel
theorem dX0_worthOf_164 : decode cX0_worthOf 164 = .ok (.iinc 6 3, 3) := by decide +kernel
theorem dX0_worthOf_167 : decode cX0_worthOf 167 = .ok (.aload_n 0, 1) := by decide +kernel
theorem dX0_worthOf_168 : decode cX0_worthOf 168 = .ok (.getfield 36, 3) := by decide +kernel
theorem dX0_worthOf_171 : decode cX0_worthOf 171 = .ok (.iload_n 2, 1) := by decide +kernel
theorem dX0_worthOf_172 : decode cX0_worthOf 172 = .ok (.baload, 1) := by decide +kernel
theorem dX0_worthOf_173 : decode cX0_worthOf 173 = .ok (.ifCond .eq 10, 3) := by decide +kernel
theorem dX0_worthOf_176 : decode cX0_worthOf 176 = .ok (.iload 6, 2) := by decide +kernel
theorem dX0_worthOf_178 : decode cX0_worthOf 178 = .ok (.iconst 4, 1) := by decide +kernel
theorem dX0_worthOf_179 : decode cX0_worthOf 179 = .ok (.isub, 1) := by decide +kernel
theorem dX0_worthOf_180 : decode cX0_worthOf 180 = .ok (.goto 5, 3) := by decide +kernel
theorem dX0_worthOf_183 : decode cX0_worthOf 183 = .ok (.iload 6, 2) := by decide +kernel
theorem dX0_worthOf_185 : decode cX0_worthOf 185 = .ok (.ireturn, 1) := by decide +kernel
theorem dX0_pass_0 : decode cX0_pass 0 = .ok (.aload_n 0, 1) := by decide +kernel
theorem dX0_pass_1 : decode cX0_pass 1 = .ok (.iconst 0, 1) := by decide +kernel
theorem dX0_pass_2 : decode cX0_pass 2 = .ok (.putfield 108, 3) := by decide +kernel
theorem dX0_pass_5 : decode cX0_pass 5 = .ok (.iconst 0, 1) := by decide +kernel
theorem dX0_pass_6 : decode cX0_pass 6 = .ok (.istore_n 2, 1) := by decide +kernel
theorem dX0_pass_7 : decode cX0_pass 7 = .ok (.iload_n 2, 1) := by decide +kernel
theorem dX0_pass_8 : decode cX0_pass 8 = .ok (.aload_n 0, 1) := by decide +kernel
theorem dX0_pass_9 : decode cX0_pass 9 = .ok (.getfield 55, 3) := by decide +kernel
theorem dX0_pass_12 : decode cX0_pass 12 = .ok (.getfield 111, 3) := by decide +kernel
theorem dX0_pass_15 : decode cX0_pass 15 = .ok (.if_icmp .ge 25, 3) := by decide +kernel
theorem dX0_pass_18 : decode cX0_pass 18 = .ok (.aload_n 0, 1) := by decide +kernel
theorem dX0_pass_19 : decode cX0_pass 19 = .ok (.iload_n 2, 1) := by decide +kernel
theorem dX0_pass_20 : decode cX0_pass 20 = .ok (.iload_n 1, 1) := by decide +kernel
theorem dX0_pass_21 : decode cX0_pass 21 = .ok (.invokevirtual 114, 3) := by decide +kernel
theorem dX0_pass_24 : decode cX0_pass 24 = .ok (.aload_n 0, 1) := by decide +kernel
theorem dX0_pass_25 : decode cX0_pass 25 = .ok (.getfield 55, 3) := by decide +kernel
theorem dX0_pass_28 : decode cX0_pass 28 = .ok (.getfield 118, 3) := by decide +kernel
theorem dX0_pass_31 : decode cX0_pass 31 = .ok (.iload_n 2, 1) := by decide +kernel
theorem dX0_pass_32 : decode cX0_pass 32 = .ok (.iconst 0, 1) := by decide +kernel
theorem dX0_pass_33 : decode cX0_pass 33 = .ok (.iastore, 1) := by decide +kernel
theorem dX0_pass_34 : decode cX0_pass 34 = .ok (.iinc 2 1, 3) := by decide +kernel
theorem dX0_pass_37 : decode cX0_pass 37 = .ok (.goto (-30), 3) := by decide +kernel
theorem dX0_pass_40 : decode cX0_pass 40 = .ok (.iconst 0, 1) := by decide +kernel
theorem dX0_pass_41 : decode cX0_pass 41 = .ok (.istore_n 2, 1) := by decide +kernel
theorem dX0_pass_42 : decode cX0_pass 42 = .ok (.iload_n 2, 1) := by decide +kernel
theorem dX0_pass_43 : decode cX0_pass 43 = .ok (.aload_n 0, 1) := by decide +kernel
theorem dX0_pass_44 : decode cX0_pass 44 = .ok (.getfield 67, 3) := by decide +kernel
theorem dX0_pass_47 : decode cX0_pass 47 = .ok (.if_icmp .ge 14, 3) := by decide +kernel
theorem dX0_pass_50 : decode cX0_pass 50 = .ok (.aload_n 0, 1) := by decide +kernel
theorem dX0_pass_51 : decode cX0_pass 51 = .ok (.iload_n 2, 1) := by decide +kernel
theorem dX0_pass_52 : decode cX0_pass 52 = .ok (.invokevirtual 121, 3) := by decide +kernel
theorem dX0_pass_55 : decode cX0_pass 55 = .ok (.iinc 2 1, 3) := by decide +kernel
theorem dX0_pass_58 : decode cX0_pass 58 = .ok (.goto (-16), 3) := by decide +kernel
theorem dX0_pass_61 : decode cX0_pass 61 = .ok (.iconst 0, 1) := by decide +kernel
theorem dX0_pass_62 : decode cX0_pass 62 = .ok (.istore_n 2, 1) := by decide +kernel
theorem dX0_pass_63 : decode cX0_pass 63 = .ok (.iload_n 2, 1) := by decide +kernel
theorem dX0_pass_64 : decode cX0_pass 64 = .ok (.aload_n 0, 1) := by decide +kernel
theorem dX0_pass_65 : decode cX0_pass 65 = .ok (.getfield 55, 3) := by decide +kernel
theorem dX0_pass_68 : decode cX0_pass 68 = .ok (.getfield 111, 3) := by decide +kernel
theorem dX0_pass_71 : decode cX0_pass 71 = .ok (.if_icmp .ge 14, 3) := by decide +kernel
theorem dX0_pass_74 : decode cX0_pass 74 = .ok (.aload_n 0, 1) := by decide +kernel
theorem dX0_pass_75 : decode cX0_pass 75 = .ok (.iload_n 2, 1) := by decide +kernel
theorem dX0_pass_76 : decode cX0_pass 76 = .ok (.invokevirtual 125, 3) := by decide +kernel
theorem dX0_pass_79 : decode cX0_pass 79 = .ok (.iinc 2 1, 3) := by decide +kernel
theorem dX0_pass_82 : decode cX0_pass 82 = .ok (.goto (-19), 3) := by decide +kernel
theorem dX0_pass_85 : decode cX0_pass 85 = .ok (.iconst 0, 1) := by decide +kernel
theorem dX0_pass_86 : decode cX0_pass 86 = .ok (.istore_n 2, 1) := by decide +kernel
theorem dX0_pass_87 : decode cX0_pass 87 = .ok (.iload_n 2, 1) := by decide +kernel
theorem dX0_pass_88 : decode cX0_pass 88 = .ok (.aload_n 0, 1) := by decide +kernel
theorem dX0_pass_89 : decode cX0_pass 89 = .ok (.getfield 108, 3) := by decide +kernel
theorem dX0_pass_92 : decode cX0_pass 92 = .ok (.if_icmp .ge 25, 3) := by decide +kernel
theorem dX0_pass_95 : decode cX0_pass 95 = .ok (.aload_n 0, 1) := by decide +kernel
theorem dX0_pass_96 : decode cX0_pass 96 = .ok (.aload_n 0, 1) := by decide +kernel
theorem dX0_pass_97 : decode cX0_pass 97 = .ok (.getfield 45, 3) := by decide +kernel
theorem dX0_pass_100 : decode cX0_pass 100 = .ok (.iload_n 2, 1) := by decide +kernel
theorem dX0_pass_101 : decode cX0_pass 101 = .ok (.iaload, 1) := by decide +kernel
theorem dX0_pass_102 : decode cX0_pass 102 = .ok (.aload_n 0, 1) := by decide +kernel
theorem dX0_pass_103 : decode cX0_pass 103 = .ok (.getfield 48, 3) := by decide +kernel
theorem dX0_pass_106 : decode cX0_pass 106 = .ok (.iload_n 2, 1) := by decide +kernel
theorem dX0_pass_107 : decode cX0_pass 107 = .ok (.iaload, 1) := by decide +kernel
theorem dX0_pass_108 : decode cX0_pass 108 = .ok (.invokevirtual 128, 3) := by decide +kernel
theorem dX0_pass_111 : decode cX0_pass 111 = .ok (.iinc 2 1, 3) := by decide +kernel
theorem dX0_pass_114 : decode cX0_pass 114 = .ok (.goto (-27), 3) := by decide +kernel
theorem dX0_pass_117 : decode cX0_pass 117 = .ok (.return_, 1) := by decide +kernel
theorem dX0_send_0 : decode cX0_send 0 = .ok (.aload_n 0, 1) := by decide +kernel
theorem dX0_send_1 : decode cX0_send 1 = .ok (.getfield 21, 3) := by decide +kernel
theorem dX0_send_4 : decode cX0_send 4 = .ok (.iload_n 1, 1) := by decide +kernel
theorem dX0_send_5 : decode cX0_send 5 = .ok (.iaload, 1) := by decide +kernel
theorem dX0_send_6 : decode cX0_send 6 = .ok (.istore_n 2, 1) := by decide +kernel
theorem dX0_send_7 : decode cX0_send 7 = .ok (.iconst 0, 1) := by decide +kernel
theorem dX0_send_8 : decode cX0_send 8 = .ok (.istore_n 3, 1) := by decide +kernel
theorem dX0_send_9 : decode cX0_send 9 = .ok (.iload_n 3, 1) := by decide +kernel
theorem dX0_send_10 : decode cX0_send 10 = .ok (.aload_n 0, 1) := by decide +kernel
theorem dX0_send_11 : decode cX0_send 11 = .ok (.getfield 55, 3) := by decide +kernel
theorem dX0_send_14 : decode cX0_send 14 = .ok (.getfield 111, 3) := by decide +kernel
theorem dX0_send_17 : decode cX0_send 17 = .ok (.if_icmp .ge 69, 3) := by decide +kernel
theorem dX0_send_20 : decode cX0_send 20 = .ok (.iload_n 2, 1) := by decide +kernel
theorem dX0_send_21 : decode cX0_send 21 = .ok (.ifCond .le 65, 3) := by decide +kernel
theorem dX0_send_24 : decode cX0_send 24 = .ok (.aload_n 0, 1) := by decide +kernel
theorem dX0_send_25 : decode cX0_send 25 = .ok (.iload_n 1, 1) := by decide +kernel
theorem dX0_send_26 : decode cX0_send 26 = .ok (.invokevirtual 131, 3) := by decide +kernel
theorem dX0_send_29 : decode cX0_send 29 = .ok (.istore 4, 2) := by decide +kernel
theorem dX0_send_31 : decode cX0_send 31 = .ok (.iload 4, 2) := by decide +kernel
theorem dX0_send_33 : decode cX0_send 33 = .ok (.iconst (-1), 1) := by decide +kernel
theorem dX0_send_34 : decode cX0_send 34 = .ok (.if_icmp .ne 4, 3) := by decide +kernel
theorem dX0_send_37 : decode cX0_send 37 = .ok (.return_, 1) := by decide +kernel
theorem dX0_send_38 : decode cX0_send 38 = .ok (.iload_n 2, 1) := by decide +kernel
theorem dX0_send_39 : decode cX0_send 39 = .ok (.aload_n 0, 1) := by decide +kernel
theorem dX0_send_40 : decode cX0_send 40 = .ok (.getfield 55, 3) := by decide +kernel
theorem dX0_send_43 : decode cX0_send 43 = .ok (.iload 4, 2) := by decide +kernel
theorem dX0_send_45 : decode cX0_send 45 = .ok (.invokevirtual 135, 3) := by decide +kernel
theorem dX0_send_48 : decode cX0_send 48 = .ok (.invokestatic 138, 3) := by decide +kernel
theorem dX0_send_51 : decode cX0_send 51 = .ok (.istore 5, 2) := by decide +kernel
theorem dX0_send_53 : decode cX0_send 53 = .ok (.aload_n 0, 1) := by decide +kernel
theorem dX0_send_54 : decode cX0_send 54 = .ok (.getfield 55, 3) := by decide +kernel
theorem dX0_send_57 : decode cX0_send 57 = .ok (.getfield 118, 3) := by decide +kernel
theorem dX0_send_60 : decode cX0_send 60 = .ok (.iload 4, 2) := by decide +kernel
theorem dX0_send_62 : decode cX0_send 62 = .ok (.dup2, 1) := by decide +kernel
theorem dX0_send_63 : decode cX0_send 63 = .ok (.iaload, 1) := by decide +kernel
theorem dX0_send_64 : decode cX0_send 64 = .ok (.iload 5, 2) := by decide +kernel
theorem dX0_send_66 : decode cX0_send 66 = .ok (.iadd, 1) := by decide +kernel
theorem dX0_send_67 : decode cX0_send 67 = .ok (.iastore, 1) := by decide +kernel
theorem dX0_send_68 : decode cX0_send 68 = .ok (.iload_n 2, 1) := by decide +kernel
theorem dX0_send_69 : decode cX0_send 69 = .ok (.iload 5, 2) := by decide +kernel
theorem dX0_send_71 : decode cX0_send 71 = .ok (.isub, 1) := by decide +kernel
theorem dX0_send_72 : decode cX0_send 72 = .ok (.istore_n 2, 1) := by decide +kernel
theorem dX0_send_73 : decode cX0_send 73 = .ok (.aload_n 0, 1) := by decide +kernel
theorem dX0_send_74 : decode cX0_send 74 = .ok (.iload_n 1, 1) := by decide +kernel
theorem dX0_send_75 : decode cX0_send 75 = .ok (.iload 4, 2) := by decide +kernel
theorem dX0_send_77 : decode cX0_send 77 = .ok (.invokevirtual 143, 3) := by decide +kernel
theorem dX0_send_80 : decode cX0_send 80 = .ok (.iinc 3 1, 3) := by decide +kernel
theorem dX0_send_83 : decode cX0_send 83 = .ok (.goto (-74), 3) := by decide +kernel
theorem dX0_send_86 : decode cX0_send 86 = .ok (.return_, 1) := by decide +kernel
theorem dX0_bestHall_0 : decode cX0_bestHall 0 = .ok (.iconst (-1), 1) := by decide +kernel
theorem dX0_bestHall_1 : decode cX0_bestHall 1 = .ok (.istore_n 2, 1) := by decide +kernel
theorem dX0_bestHall_2 : decode cX0_bestHall 2 = .ok (.iconst 0, 1) := by decide +kernel
theorem dX0_bestHall_3 : decode cX0_bestHall 3 = .ok (.istore_n 3, 1) := by decide +kernel
theorem dX0_bestHall_4 : decode cX0_bestHall 4 = .ok (.iconst 0, 1) := by decide +kernel
theorem dX0_bestHall_5 : decode cX0_bestHall 5 = .ok (.istore 4, 2) := by decide +kernel
theorem dX0_bestHall_7 : decode cX0_bestHall 7 = .ok (.iload 4, 2) := by decide +kernel
theorem dX0_bestHall_9 : decode cX0_bestHall 9 = .ok (.aload_n 0, 1) := by decide +kernel
theorem dX0_bestHall_10 : decode cX0_bestHall 10 = .ok (.getfield 55, 3) := by decide +kernel
theorem dX0_bestHall_13 : decode cX0_bestHall 13 = .ok (.getfield 111, 3) := by decide +kernel
theorem dX0_bestHall_16 : decode cX0_bestHall 16 = .ok (.if_icmp .ge 92, 3) := by decide +kernel
theorem dX0_bestHall_19 : decode cX0_bestHall 19 = .ok (.aload_n 0, 1) := by decide +kernel
theorem dX0_bestHall_20 : decode cX0_bestHall 20 = .ok (.getfield 55, 3) := by decide +kernel
theorem dX0_bestHall_23 : decode cX0_bestHall 23 = .ok (.iload 4, 2) := by decide +kernel
theorem dX0_bestHall_25 : decode cX0_bestHall 25 = .ok (.invokevirtual 135, 3) := by decide +kernel
theorem dX0_bestHall_28 : decode cX0_bestHall 28 = .ok (.ifCond .le 13, 3) := by decide +kernel
theorem dX0_bestHall_31 : decode cX0_bestHall 31 = .ok (.aload_n 0, 1) := by decide +kernel
theorem dX0_bestHall_32 : decode cX0_bestHall 32 = .ok (.iload_n 1, 1) := by decide +kernel
theorem dX0_bestHall_33 : decode cX0_bestHall 33 = .ok (.iload 4, 2) := by decide +kernel
theorem dX0_bestHall_35 : decode cX0_bestHall 35 = .ok (.invokevirtual 146, 3) := by decide +kernel
theorem dX0_bestHall_38 : decode cX0_bestHall 38 = .ok (.goto 5, 3) := by decide +kernel
theorem dX0_bestHall_41 : decode cX0_bestHall 41 = .ok (.bipush (-99), 2) := by decide +kernel
theorem dX0_bestHall_43 : decode cX0_bestHall 43 = .ok (.istore 5, 2) := by decide +kernel
theorem dX0_bestHall_45 : decode cX0_bestHall 45 = .ok (.iload_n 2, 1) := by decide +kernel
theorem dX0_bestHall_46 : decode cX0_bestHall 46 = .ok (.iconst (-1), 1) := by decide +kernel
theorem dX0_bestHall_47 : decode cX0_bestHall 47 = .ok (.if_icmp .eq 35, 3) := by decide +kernel
theorem dX0_bestHall_50 : decode cX0_bestHall 50 = .ok (.iload 5, 2) := by decide +kernel
theorem dX0_bestHall_52 : decode cX0_bestHall 52 = .ok (.iload_n 3, 1) := by decide +kernel
theorem dX0_bestHall_53 : decode cX0_bestHall 53 = .ok (.if_icmp .ne 29, 3) := by decide +kernel
theorem dX0_bestHall_56 : decode cX0_bestHall 56 = .ok (.aload_n 0, 1) := by decide +kernel
theorem dX0_bestHall_57 : decode cX0_bestHall 57 = .ok (.getfield 55, 3) := by decide +kernel
theorem dX0_bestHall_60 : decode cX0_bestHall 60 = .ok (.getfield 100, 3) := by decide +kernel
theorem dX0_bestHall_63 : decode cX0_bestHall 63 = .ok (.iload 4, 2) := by decide +kernel
theorem dX0_bestHall_65 : decode cX0_bestHall 65 = .ok (.iaload, 1) := by decide +kernel
theorem dX0_bestHall_66 : decode cX0_bestHall 66 = .ok (.aload_n 0, 1) := by decide +kernel
theorem dX0_bestHall_67 : decode cX0_bestHall 67 = .ok (.getfield 55, 3) := by decide +kernel
theorem dX0_bestHall_70 : decode cX0_bestHall 70 = .ok (.getfield 100, 3) := by decide +kernel
theorem dX0_bestHall_73 : decode cX0_bestHall 73 = .ok (.iload_n 2, 1) := by decide +kernel
theorem dX0_bestHall_74 : decode cX0_bestHall 74 = .ok (.iaload, 1) := by decide +kernel
theorem dX0_bestHall_75 : decode cX0_bestHall 75 = .ok (.if_icmp .ge 7, 3) := by decide +kernel
theorem dX0_bestHall_78 : decode cX0_bestHall 78 = .ok (.iconst 1, 1) := by decide +kernel
theorem dX0_bestHall_79 : decode cX0_bestHall 79 = .ok (.goto 4, 3) := by decide +kernel
theorem dX0_bestHall_82 : decode cX0_bestHall 82 = .ok (.iconst 0, 1) := by decide +kernel
theorem dX0_bestHall_83 : decode cX0_bestHall 83 = .ok (.istore 6, 2) := by decide +kernel
theorem dX0_bestHall_85 : decode cX0_bestHall 85 = .ok (.iload 5, 2) := by decide +kernel
theorem dX0_bestHall_87 : decode cX0_bestHall 87 = .ok (.iload_n 3, 1) := by decide +kernel
theorem dX0_bestHall_88 : decode cX0_bestHall 88 = .ok (.if_icmp .gt 8, 3) := by decide +kernel
theorem dX0_bestHall_91 : decode cX0_bestHall 91 = .ok (.iload 6, 2) := by decide +kernel
theorem dX0_bestHall_93 : decode cX0_bestHall 93 = .ok (.ifCond .eq 9, 3) := by decide +kernel
theorem dX0_bestHall_96 : decode cX0_bestHall 96 = .ok (.iload 4, 2) := by decide +kernel
theorem dX0_bestHall_98 : decode cX0_bestHall 98 = .ok (.istore_n 2, 1) := by decide +kernel
theorem dX0_bestHall_99 : decode cX0_bestHall 99 = .ok (.iload 5, 2) := by decide +kernel
theorem dX0_bestHall_101 : decode cX0_bestHall 101 = .ok (.istore_n 3, 1) := by decide +kernel
theorem dX0_bestHall_102 : decode cX0_bestHall 102 = .ok (.iinc 4 1, 3) := by decide +kernel
theorem dX0_bestHall_105 : decode cX0_bestHall 105 = .ok (.goto (-98), 3) := by decide +kernel
theorem dX0_bestHall_108 : decode cX0_bestHall 108 = .ok (.iload_n 2, 1) := by decide +kernel
theorem dX0_bestHall_109 : decode cX0_bestHall 109 = .ok (.ireturn, 1) := by decide +kernel
theorem dX0_note_0 : decode cX0_note 0 = .ok (.aload_n 0, 1) := by decide +kernel
theorem dX0_note_1 : decode cX0_note 1 = .ok (.getfield 108, 3) := by decide +kernel
theorem dX0_note_4 : decode cX0_note 4 = .ok (.aload_n 0, 1) := by decide +kernel
theorem dX0_note_5 : decode cX0_note 5 = .ok (.getfield 45, 3) := by decide +kernel
theorem dX0_note_8 : decode cX0_note 8 = .ok (.arraylength, 1) := by decide +kernel
theorem dX0_note_9 : decode cX0_note 9 = .ok (.if_icmp .ge 33, 3) := by decide +kernel
theorem dX0_note_12 : decode cX0_note 12 = .ok (.aload_n 0, 1) := by decide +kernel
theorem dX0_note_13 : decode cX0_note 13 = .ok (.getfield 45, 3) := by decide +kernel
theorem dX0_note_16 : decode cX0_note 16 = .ok (.aload_n 0, 1) := by decide +kernel
theorem dX0_note_17 : decode cX0_note 17 = .ok (.getfield 108, 3) := by decide +kernel
theorem dX0_note_20 : decode cX0_note 20 = .ok (.iload_n 1, 1) := by decide +kernel
theorem dX0_note_21 : decode cX0_note 21 = .ok (.iastore, 1) := by decide +kernel
theorem dX0_note_22 : decode cX0_note 22 = .ok (.aload_n 0, 1) := by decide +kernel
theorem dX0_note_23 : decode cX0_note 23 = .ok (.getfield 48, 3) := by decide +kernel
theorem dX0_note_26 : decode cX0_note 26 = .ok (.aload_n 0, 1) := by decide +kernel
theorem dX0_note_27 : decode cX0_note 27 = .ok (.getfield 108, 3) := by decide +kernel
theorem dX0_note_30 : decode cX0_note 30 = .ok (.iload_n 2, 1) := by decide +kernel
theorem dX0_note_31 : decode cX0_note 31 = .ok (.iastore, 1) := by decide +kernel
theorem dX0_note_32 : decode cX0_note 32 = .ok (.aload_n 0, 1) := by decide +kernel
theorem dX0_note_33 : decode cX0_note 33 = .ok (.dup, 1) := by decide +kernel
theorem dX0_note_34 : decode cX0_note 34 = .ok (.getfield 108, 3) := by decide +kernel
theorem dX0_note_37 : decode cX0_note 37 = .ok (.iconst 1, 1) := by decide +kernel
theorem dX0_note_38 : decode cX0_note 38 = .ok (.iadd, 1) := by decide +kernel
theorem dX0_note_39 : decode cX0_note 39 = .ok (.putfield 108, 3) := by decide +kernel
theorem dX0_note_42 : decode cX0_note 42 = .ok (.return_, 1) := by decide +kernel
theorem dX0_account_0 : decode cX0_account 0 = .ok (.aload_n 0, 1) := by decide +kernel
theorem dX0_account_1 : decode cX0_account 1 = .ok (.getfield 55, 3) := by decide +kernel
theorem dX0_account_4 : decode cX0_account 4 = .ok (.getfield 71, 3) := by decide +kernel
theorem dX0_account_7 : decode cX0_account 7 = .ok (.iload_n 1, 1) := by decide +kernel
theorem dX0_account_8 : decode cX0_account 8 = .ok (.iaload, 1) := by decide +kernel
theorem dX0_account_9 : decode cX0_account 9 = .ok (.istore_n 2, 1) := by decide +kernel
theorem dX0_account_10 : decode cX0_account 10 = .ok (.aload_n 0, 1) := by decide +kernel
theorem dX0_account_11 : decode cX0_account 11 = .ok (.getfield 55, 3) := by decide +kernel
theorem dX0_account_14 : decode cX0_account 14 = .ok (.getfield 149, 3) := by decide +kernel
theorem dX0_account_17 : decode cX0_account 17 = .ok (.iload_n 1, 1) := by decide +kernel
theorem dX0_account_18 : decode cX0_account 18 = .ok (.iaload, 1) := by decide +kernel
theorem dX0_account_19 : decode cX0_account 19 = .ok (.istore_n 3, 1) := by decide +kernel
theorem dX0_account_20 : decode cX0_account 20 = .ok (.aload_n 0, 1) := by decide +kernel
theorem dX0_account_21 : decode cX0_account 21 = .ok (.getfield 55, 3) := by decide +kernel
theorem dX0_account_24 : decode cX0_account 24 = .ok (.getfield 118, 3) := by decide +kernel
theorem dX0_account_27 : decode cX0_account 27 = .ok (.iload_n 1, 1) := by decide +kernel
theorem dX0_account_28 : decode cX0_account 28 = .ok (.iaload, 1) := by decide +kernel
theorem dX0_account_29 : decode cX0_account 29 = .ok (.istore 4, 2) := by decide +kernel
theorem dX0_account_31 : decode cX0_account 31 = .ok (.aload_n 0, 1) := by decide +kernel
theorem dX0_account_32 : decode cX0_account 32 = .ok (.getfield 55, 3) := by decide +kernel
theorem dX0_account_35 : decode cX0_account 35 = .ok (.getfield 152, 3) := by decide +kernel
theorem dX0_account_38 : decode cX0_account 38 = .ok (.iload_n 1, 1) := by decide +kernel
theorem dX0_account_39 : decode cX0_account 39 = .ok (.iload 4, 2) := by decide +kernel
theorem dX0_account_41 : decode cX0_account 41 = .ok (.aload_n 0, 1) := by decide +kernel
theorem dX0_account_42 : decode cX0_account 42 = .ok (.getfield 55, 3) := by decide +kernel
theorem dX0_account_45 : decode cX0_account 45 = .ok (.getfield 100, 3) := by decide +kernel
theorem dX0_account_48 : decode cX0_account 48 = .ok (.iload_n 1, 1) := by decide +kernel
theorem dX0_account_49 : decode cX0_account 49 = .ok (.iaload, 1) := by decide +kernel
theorem dX0_account_50 : decode cX0_account 50 = .ok (.imul, 1) := by decide +kernel
theorem dX0_account_51 : decode cX0_account 51 = .ok (.iastore, 1) := by decide +kernel
theorem dX0_account_52 : decode cX0_account 52 = .ok (.aload_n 0, 1) := by decide +kernel
theorem dX0_account_53 : decode cX0_account 53 = .ok (.getfield 55, 3) := by decide +kernel
theorem dX0_account_56 : decode cX0_account 56 = .ok (.getfield 155, 3) := by decide +kernel
theorem dX0_account_59 : decode cX0_account 59 = .ok (.iload_n 1, 1) := by decide +kernel
theorem dX0_account_60 : decode cX0_account 60 = .ok (.dup2, 1) := by decide +kernel
theorem dX0_account_61 : decode cX0_account 61 = .ok (.iaload, 1) := by decide +kernel
theorem dX0_account_62 : decode cX0_account 62 = .ok (.iload 4, 2) := by decide +kernel
theorem dX0_account_64 : decode cX0_account 64 = .ok (.iadd, 1) := by decide +kernel
theorem dX0_account_65 : decode cX0_account 65 = .ok (.iastore, 1) := by decide +kernel
theorem dX0_account_66 : decode cX0_account 66 = .ok (.aload_n 0, 1) := by decide +kernel
theorem dX0_account_67 : decode cX0_account 67 = .ok (.getfield 55, 3) := by decide +kernel
theorem dX0_account_70 : decode cX0_account 70 = .ok (.getfield 158, 3) := by decide +kernel
theorem dX0_account_73 : decode cX0_account 73 = .ok (.iload_n 1, 1) := by decide +kernel
theorem dX0_account_74 : decode cX0_account 74 = .ok (.dup2, 1) := by decide +kernel
theorem dX0_account_75 : decode cX0_account 75 = .ok (.laload, 1) := by decide +kernel
theorem dX0_account_76 : decode cX0_account 76 = .ok (.aload_n 0, 1) := by decide +kernel
theorem dX0_account_77 : decode cX0_account 77 = .ok (.getfield 55, 3) := by decide +kernel
theorem dX0_account_80 : decode cX0_account 80 = .ok (.getfield 152, 3) := by decide +kernel
theorem dX0_account_83 : decode cX0_account 83 = .ok (.iload_n 1, 1) := by decide +kernel
theorem dX0_account_84 : decode cX0_account 84 = .ok (.iaload, 1) := by decide +kernel
theorem dX0_account_85 : decode cX0_account 85 = .ok (.iconst 3, 1) := by decide +kernel
theorem dX0_account_86 : decode cX0_account 86 = .ok (.aload_n 0, 1) := by decide +kernel
theorem dX0_account_87 : decode cX0_account 87 = .ok (.getfield 55, 3) := by decide +kernel
theorem dX0_account_90 : decode cX0_account 90 = .ok (.getfield 162, 3) := by decide +kernel
theorem dX0_account_93 : decode cX0_account 93 = .ok (.iload_n 1, 1) := by decide +kernel
theorem dX0_account_94 : decode cX0_account 94 = .ok (.iaload, 1) := by decide +kernel
theorem dX0_account_95 : decode cX0_account 95 = .ok (.imul, 1) := by decide +kernel
theorem dX0_account_96 : decode cX0_account 96 = .ok (.isub, 1) := by decide +kernel
theorem dX0_account_97 : decode cX0_account 97 = .ok (.i2l, 1) := by decide +kernel
theorem dX0_account_98 : decode cX0_account 98 = .ok (.ladd, 1) := by decide +kernel
theorem dX0_account_99 : decode cX0_account 99 = .ok (.lastore, 1) := by decide +kernel
theorem dX0_account_100 : decode cX0_account 100 = .ok (.aload_n 0, 1) := by decide +kernel
theorem dX0_account_101 : decode cX0_account 101 = .ok (.getfield 55, 3) := by decide +kernel
theorem dX0_account_104 : decode cX0_account 104 = .ok (.iload_n 3, 1) := by decide +kernel
theorem dX0_account_105 : decode cX0_account 105 = .ok (.invokevirtual 165, 3) := by decide +kernel
theorem dX0_account_108 : decode cX0_account 108 = .ok (.ifCond .eq 25, 3) := by decide +kernel
theorem dX0_account_111 : decode cX0_account 111 = .ok (.aload_n 0, 1) := by decide +kernel
theorem dX0_account_112 : decode cX0_account 112 = .ok (.getfield 55, 3) := by decide +kernel
theorem dX0_account_115 : decode cX0_account 115 = .ok (.getfield 158, 3) := by decide +kernel
theorem dX0_account_118 : decode cX0_account 118 = .ok (.iload_n 1, 1) := by decide +kernel
theorem dX0_account_119 : decode cX0_account 119 = .ok (.dup2, 1) := by decide +kernel
theorem dX0_account_120 : decode cX0_account 120 = .ok (.laload, 1) := by decide +kernel
theorem dX0_account_121 : decode cX0_account 121 = .ok (.aload_n 0, 1) := by decide +kernel
theorem dX0_account_122 : decode cX0_account 122 = .ok (.getfield 55, 3) := by decide +kernel
theorem dX0_account_125 : decode cX0_account 125 = .ok (.getfield 168, 3) := by decide +kernel
theorem dX0_account_128 : decode cX0_account 128 = .ok (.iload_n 3, 1) := by decide +kernel
theorem dX0_account_129 : decode cX0_account 129 = .ok (.iaload, 1) := by decide +kernel
theorem dX0_account_130 : decode cX0_account 130 = .ok (.i2l, 1) := by decide +kernel
theorem dX0_account_131 : decode cX0_account 131 = .ok (.lsub, 1) := by decide +kernel
theorem dX0_account_132 : decode cX0_account 132 = .ok (.lastore, 1) := by decide +kernel
theorem dX0_account_133 : decode cX0_account 133 = .ok (.aload_n 0, 1) := by decide +kernel
theorem dX0_account_134 : decode cX0_account 134 = .ok (.getfield 51, 3) := by decide +kernel
theorem dX0_account_137 : decode cX0_account 137 = .ok (.iload_n 2, 1) := by decide +kernel
theorem dX0_account_138 : decode cX0_account 138 = .ok (.invokevirtual 76, 3) := by decide +kernel
theorem dX0_account_141 : decode cX0_account 141 = .ok (.ifCond .eq 39, 3) := by decide +kernel
theorem dX0_account_144 : decode cX0_account 144 = .ok (.aload_n 0, 1) := by decide +kernel
theorem dX0_account_145 : decode cX0_account 145 = .ok (.getfield 55, 3) := by decide +kernel
theorem dX0_account_148 : decode cX0_account 148 = .ok (.getfield 158, 3) := by decide +kernel
theorem dX0_account_151 : decode cX0_account 151 = .ok (.iload_n 1, 1) := by decide +kernel
theorem dX0_account_152 : decode cX0_account 152 = .ok (.dup2, 1) := by decide +kernel
theorem dX0_account_153 : decode cX0_account 153 = .ok (.laload, 1) := by decide +kernel
theorem dX0_account_154 : decode cX0_account 154 = .ok (.bipush 9, 2) := by decide +kernel
theorem dX0_account_156 : decode cX0_account 156 = .ok (.iconst 0, 1) := by decide +kernel
theorem dX0_account_157 : decode cX0_account 157 = .ok (.aload_n 0, 1) := by decide +kernel
theorem dX0_account_158 : decode cX0_account 158 = .ok (.getfield 42, 3) := by decide +kernel
theorem dX0_account_161 : decode cX0_account 161 = .ok (.iload_n 1, 1) := by decide +kernel
theorem dX0_account_162 : decode cX0_account 162 = .ok (.iaload, 1) := by decide +kernel
theorem dX0_account_163 : decode cX0_account 163 = .ok (.aload_n 0, 1) := by decide +kernel
theorem dX0_account_164 : decode cX0_account 164 = .ok (.getfield 55, 3) := by decide +kernel
theorem dX0_account_167 : decode cX0_account 167 = .ok (.getfield 162, 3) := by decide +kernel
theorem dX0_account_170 : decode cX0_account 170 = .ok (.iload_n 1, 1) := by decide +kernel
theorem dX0_account_171 : decode cX0_account 171 = .ok (.iaload, 1) := by decide +kernel
theorem dX0_account_172 : decode cX0_account 172 = .ok (.isub, 1) := by decide +kernel
theorem dX0_account_173 : decode cX0_account 173 = .ok (.invokestatic 171, 3) := by decide +kernel
theorem dX0_account_176 : decode cX0_account 176 = .ok (.imul, 1) := by decide +kernel
theorem dX0_account_177 : decode cX0_account 177 = .ok (.i2l, 1) := by decide +kernel
theorem dX0_account_178 : decode cX0_account 178 = .ok (.lsub, 1) := by decide +kernel
theorem dX0_account_179 : decode cX0_account 179 = .ok (.lastore, 1) := by decide +kernel
theorem dX0_account_180 : decode cX0_account 180 = .ok (.aload_n 0, 1) := by decide +kernel
theorem dX0_account_181 : decode cX0_account 181 = .ok (.getfield 32, 3) := by decide +kernel
theorem dX0_account_184 : decode cX0_account 184 = .ok (.iload_n 1, 1) := by decide +kernel
theorem dX0_account_185 : decode cX0_account 185 = .ok (.baload, 1) := by decide +kernel
theorem dX0_account_186 : decode cX0_account 186 = .ok (.ifCond .eq 46, 3) := by decide +kernel
theorem dX0_account_189 : decode cX0_account 189 = .ok (.aload_n 0, 1) := by decide +kernel
theorem dX0_account_190 : decode cX0_account 190 = .ok (.getfield 51, 3) := by decide +kernel
theorem dX0_account_193 : decode cX0_account 193 = .ok (.iload_n 2, 1) := by decide +kernel
theorem dX0_account_194 : decode cX0_account 194 = .ok (.invokevirtual 76, 3) := by decide +kernel
theorem dX0_account_197 : decode cX0_account 197 = .ok (.ifCond .eq 35, 3) := by decide +kernel
theorem dX0_account_200 : decode cX0_account 200 = .ok (.aload_n 0, 1) := by decide +kernel
theorem dX0_account_201 : decode cX0_account 201 = .ok (.getfield 55, 3) := by decide +kernel
theorem dX0_account_204 : decode cX0_account 204 = .ok (.getfield 158, 3) := by decide +kernel
theorem dX0_account_207 : decode cX0_account 207 = .ok (.iload_n 1, 1) := by decide +kernel
theorem dX0_account_208 : decode cX0_account 208 = .ok (.dup2, 1) := by decide +kernel
theorem dX0_account_209 : decode cX0_account 209 = .ok (.laload, 1) := by decide +kernel
theorem dX0_account_210 : decode cX0_account 210 = .ok (.aload_n 0, 1) := by decide +kernel
theorem dX0_account_211 : decode cX0_account 211 = .ok (.getfield 39, 3) := by decide +kernel
theorem dX0_account_214 : decode cX0_account 214 = .ok (.iload_n 1, 1) := by decide +kernel
theorem dX0_account_215 : decode cX0_account 215 = .ok (.iaload, 1) := by decide +kernel
theorem dX0_account_216 : decode cX0_account 216 = .ok (.i2l, 1) := by decide +kernel
theorem dX0_account_217 : decode cX0_account 217 = .ok (.lsub, 1) := by decide +kernel
theorem dX0_account_218 : decode cX0_account 218 = .ok (.lastore, 1) := by decide +kernel
theorem dX0_account_219 : decode cX0_account 219 = .ok (.aload_n 0, 1) := by decide +kernel
theorem dX0_account_220 : decode cX0_account 220 = .ok (.getfield 51, 3) := by decide +kernel
theorem dX0_account_223 : decode cX0_account 223 = .ok (.getfield 174, 3) := by decide +kernel
theorem dX0_account_226 : decode cX0_account 226 = .ok (.iload_n 2, 1) := by decide +kernel
theorem dX0_account_227 : decode cX0_account 227 = .ok (.dup2, 1) := by decide +kernel
theorem dX0_account_228 : decode cX0_account 228 = .ok (.iaload, 1) := by decide +kernel
theorem dX0_account_229 : decode cX0_account 229 = .ok (.iconst 1, 1) := by decide +kernel
theorem dX0_account_230 : decode cX0_account 230 = .ok (.iadd, 1) := by decide +kernel
theorem dX0_account_231 : decode cX0_account 231 = .ok (.iastore, 1) := by decide +kernel
theorem dX0_account_232 : decode cX0_account 232 = .ok (.return_, 1) := by decide +kernel
theorem dX0_spread_0 : decode cX0_spread 0 = .ok (.aload_n 0, 1) := by decide +kernel
theorem dX0_spread_1 : decode cX0_spread 1 = .ok (.getfield 55, 3) := by decide +kernel
theorem dX0_spread_4 : decode cX0_spread 4 = .ok (.getfield 71, 3) := by decide +kernel
theorem dX0_spread_7 : decode cX0_spread 7 = .ok (.iload_n 2, 1) := by decide +kernel
theorem dX0_spread_8 : decode cX0_spread 8 = .ok (.iaload, 1) := by decide +kernel
theorem dX0_spread_9 : decode cX0_spread 9 = .ok (.istore_n 3, 1) := by decide +kernel
theorem dX0_spread_10 : decode cX0_spread 10 = .ok (.aload_n 0, 1) := by decide +kernel
theorem dX0_spread_11 : decode cX0_spread 11 = .ok (.getfield 51, 3) := by decide +kernel
theorem dX0_spread_14 : decode cX0_spread 14 = .ok (.iload_n 3, 1) := by decide +kernel
theorem dX0_spread_15 : decode cX0_spread 15 = .ok (.invokevirtual 76, 3) := by decide +kernel
theorem dX0_spread_18 : decode cX0_spread 18 = .ok (.ifCond .ne 4, 3) := by decide +kernel
theorem dX0_spread_21 : decode cX0_spread 21 = .ok (.return_, 1) := by decide +kernel
theorem dX0_spread_22 : decode cX0_spread 22 = .ok (.aload_n 0, 1) := by decide +kernel
theorem dX0_spread_23 : decode cX0_spread 23 = .ok (.getfield 51, 3) := by decide +kernel
theorem dX0_spread_26 : decode cX0_spread 26 = .ok (.getfield 103, 3) := by decide +kernel
theorem dX0_spread_29 : decode cX0_spread 29 = .ok (.iload_n 3, 1) := by decide +kernel
theorem dX0_spread_30 : decode cX0_spread 30 = .ok (.iaload, 1) := by decide +kernel
theorem dX0_spread_31 : decode cX0_spread 31 = .ok (.istore 4, 2) := by decide +kernel
theorem dX0_spread_33 : decode cX0_spread 33 = .ok (.aload_n 0, 1) := by decide +kernel
theorem dX0_spread_34 : decode cX0_spread 34 = .ok (.getfield 51, 3) := by decide +kernel
theorem dX0_spread_37 : decode cX0_spread 37 = .ok (.getfield 107, 3) := by decide +kernel
theorem dX0_spread_40 : decode cX0_spread 40 = .ok (.iload 4, 2) := by decide +kernel
theorem dX0_spread_42 : decode cX0_spread 42 = .ok (.iaload, 1) := by decide +kernel
theorem dX0_spread_43 : decode cX0_spread 43 = .ok (.aload_n 0, 1) := by decide +kernel
theorem dX0_spread_44 : decode cX0_spread 44 = .ok (.getfield 18, 3) := by decide +kernel
theorem dX0_spread_47 : decode cX0_spread 47 = .ok (.iload_n 1, 1) := by decide +kernel
theorem dX0_spread_48 : decode cX0_spread 48 = .ok (.iaload, 1) := by decide +kernel
theorem dX0_spread_49 : decode cX0_spread 49 = .ok (.if_icmp .ne 16, 3) := by decide +kernel
theorem dX0_spread_52 : decode cX0_spread 52 = .ok (.aload_n 0, 1) := by decide +kernel
theorem dX0_spread_53 : decode cX0_spread 53 = .ok (.getfield 36, 3) := by decide +kernel
theorem dX0_spread_56 : decode cX0_spread 56 = .ok (.iload_n 2, 1) := by decide +kernel
theorem dX0_spread_57 : decode cX0_spread 57 = .ok (.baload, 1) := by decide +kernel
theorem dX0_spread_58 : decode cX0_spread 58 = .ok (.ifCond .ne 7, 3) := by decide +kernel
theorem dX0_spread_61 : decode cX0_spread 61 = .ok (.iconst 1, 1) := by decide +kernel
theorem dX0_spread_62 : decode cX0_spread 62 = .ok (.goto 4, 3) := by decide +kernel
theorem dX0_spread_65 : decode cX0_spread 65 = .ok (.iconst 0, 1) := by decide +kernel
theorem dX0_spread_66 : decode cX0_spread 66 = .ok (.istore 5, 2) := by decide +kernel
theorem dX0_spread_68 : decode cX0_spread 68 = .ok (.iconst 0, 1) := by decide +kernel
theorem dX0_spread_69 : decode cX0_spread 69 = .ok (.istore 6, 2) := by decide +kernel
theorem dX0_spread_71 : decode cX0_spread 71 = .ok (.iload 6, 2) := by decide +kernel
theorem dX0_spread_73 : decode cX0_spread 73 = .ok (.aload_n 0, 1) := by decide +kernel
theorem dX0_spread_74 : decode cX0_spread 74 = .ok (.getfield 67, 3) := by decide +kernel
theorem dX0_spread_77 : decode cX0_spread 77 = .ok (.if_icmp .ge 69, 3) := by decide +kernel
theorem dX0_spread_80 : decode cX0_spread 80 = .ok (.aload_n 0, 1) := by decide +kernel
theorem dX0_spread_81 : decode cX0_spread 81 = .ok (.getfield 15, 3) := by decide +kernel
theorem dX0_spread_84 : decode cX0_spread 84 = .ok (.iload 6, 2) := by decide +kernel
theorem dX0_spread_86 : decode cX0_spread 86 = .ok (.iaload, 1) := by decide +kernel
theorem dX0_spread_87 : decode cX0_spread 87 = .ok (.aload_n 0, 1) := by decide +kernel
theorem dX0_spread_88 : decode cX0_spread 88 = .ok (.getfield 15, 3) := by decide +kernel
theorem dX0_spread_91 : decode cX0_spread 91 = .ok (.iload_n 1, 1) := by decide +kernel
theorem dX0_spread_92 : decode cX0_spread 92 = .ok (.iaload, 1) := by decide +kernel
theorem dX0_spread_93 : decode cX0_spread 93 = .ok (.if_icmp .ne 47, 3) := by decide +kernel
theorem dX0_spread_96 : decode cX0_spread 96 = .ok (.aload_n 0, 1) := by decide +kernel
theorem dX0_spread_97 : decode cX0_spread 97 = .ok (.getfield 29, 3) := by decide +kernel
theorem dX0_spread_100 : decode cX0_spread 100 = .ok (.iload 6, 2) := by decide +kernel
theorem dX0_spread_102 : decode cX0_spread 102 = .ok (.aaload, 1) := by decide +kernel
theorem dX0_spread_103 : decode cX0_spread 103 = .ok (.iload 4, 2) := by decide +kernel
theorem dX0_spread_105 : decode cX0_spread 105 = .ok (.iaload, 1) := by decide +kernel
theorem dX0_spread_106 : decode cX0_spread 106 = .ok (.iload 5, 2) := by decide +kernel
theorem dX0_spread_108 : decode cX0_spread 108 = .ok (.ifCond .eq 7, 3) := by decide +kernel
theorem dX0_spread_111 : decode cX0_spread 111 = .ok (.iconst 1, 1) := by decide +kernel
theorem dX0_spread_112 : decode cX0_spread 112 = .ok (.goto 4, 3) := by decide +kernel
theorem dX0_spread_115 : decode cX0_spread 115 = .ok (.iconst (-1), 1) := by decide +kernel
theorem dX0_spread_116 : decode cX0_spread 116 = .ok (.iadd, 1) := by decide +kernel
theorem dX0_spread_117 : decode cX0_spread 117 = .ok (.istore 7, 2) := by decide +kernel
theorem dX0_spread_119 : decode cX0_spread 119 = .ok (.aload_n 0, 1) := by decide +kernel
theorem dX0_spread_120 : decode cX0_spread 120 = .ok (.getfield 29, 3) := by decide +kernel
theorem dX0_spread_123 : decode cX0_spread 123 = .ok (.iload 6, 2) := by decide +kernel
theorem dX0_spread_125 : decode cX0_spread 125 = .ok (.aaload, 1) := by decide +kernel
theorem dX0_spread_126 : decode cX0_spread 126 = .ok (.iload 4, 2) := by decide +kernel
theorem dX0_spread_128 : decode cX0_spread 128 = .ok (.bipush (-3), 2) := by decide +kernel
theorem dX0_spread_130 : decode cX0_spread 130 = .ok (.iconst 3, 1) := by decide +kernel
theorem dX0_spread_131 : decode cX0_spread 131 = .ok (.iload 7, 2) := by decide +kernel
theorem dX0_spread_133 : decode cX0_spread 133 = .ok (.invokestatic 138, 3) := by decide +kernel
theorem dX0_spread_136 : decode cX0_spread 136 = .ok (.invokestatic 171, 3) := by decide +kernel
theorem dX0_spread_139 : decode cX0_spread 139 = .ok (.iastore, 1) := by decide +kernel
theorem dX0_spread_140 : decode cX0_spread 140 = .ok (.iinc 6 1, 3) := by decide +kernel
theorem dX0_spread_143 : decode cX0_spread 143 = .ok (.goto (-72), 3) := by decide +kernel
theorem dX0_spread_146 : decode cX0_spread 146 = .ok (.return_, 1) := by decide +kernel
theorem dX1_init_0 : decode cX1_init 0 = .ok (.aload_n 0, 1) := by decide +kernel
theorem dX1_init_1 : decode cX1_init 1 = .ok (.invokespecial 3, 3) := by decide +kernel
theorem dX1_init_4 : decode cX1_init 4 = .ok (.aload_n 0, 1) := by decide +kernel
theorem dX1_init_5 : decode cX1_init 5 = .ok (.bipush 20, 2) := by decide +kernel
theorem dX1_init_7 : decode cX1_init 7 = .ok (.bipush 20, 2) := by decide +kernel
theorem dX1_init_9 : decode cX1_init 9 = .ok (.multianewarray 9 2, 4) := by decide +kernel
theorem dX1_init_13 : decode cX1_init 13 = .ok (.putfield 11, 3) := by decide +kernel
theorem dX1_init_16 : decode cX1_init 16 = .ok (.aload_n 0, 1) := by decide +kernel
theorem dX1_init_17 : decode cX1_init 17 = .ok (.iconst 4, 1) := by decide +kernel
theorem dX1_init_18 : decode cX1_init 18 = .ok (.newarray .int, 2) := by decide +kernel
theorem dX1_init_20 : decode cX1_init 20 = .ok (.putfield 16, 3) := by decide +kernel
theorem dX1_init_23 : decode cX1_init 23 = .ok (.aload_n 0, 1) := by decide +kernel
theorem dX1_init_24 : decode cX1_init 24 = .ok (.bipush 20, 2) := by decide +kernel
theorem dX1_init_26 : decode cX1_init 26 = .ok (.newarray .long, 2) := by decide +kernel
theorem dX1_init_28 : decode cX1_init 28 = .ok (.putfield 20, 3) := by decide +kernel
theorem dX1_init_31 : decode cX1_init 31 = .ok (.aload_n 0, 1) := by decide +kernel
theorem dX1_init_32 : decode cX1_init 32 = .ok (.bipush 20, 2) := by decide +kernel
theorem dX1_init_34 : decode cX1_init 34 = .ok (.newarray .long, 2) := by decide +kernel
theorem dX1_init_36 : decode cX1_init 36 = .ok (.putfield 24, 3) := by decide +kernel
theorem dX1_init_39 : decode cX1_init 39 = .ok (.aload_n 0, 1) := by decide +kernel
theorem dX1_init_40 : decode cX1_init 40 = .ok (.bipush 20, 2) := by decide +kernel
theorem dX1_init_42 : decode cX1_init 42 = .ok (.newarray .long, 2) := by decide +kernel
theorem dX1_init_44 : decode cX1_init 44 = .ok (.putfield 27, 3) := by decide +kernel
theorem dX1_init_47 : decode cX1_init 47 = .ok (.aload_n 0, 1) := by decide +kernel
theorem dX1_init_48 : decode cX1_init 48 = .ok (.aload_n 1, 1) := by decide +kernel
theorem dX1_init_49 : decode cX1_init 49 = .ok (.putfield 30, 3) := by decide +kernel
theorem dX1_init_52 : decode cX1_init 52 = .ok (.return_, 1) := by decide +kernel
theorem dX1_lend_0 : decode cX1_lend 0 = .ok (.iload_n 1, 1) := by decide +kernel
theorem dX1_lend_1 : decode cX1_lend 1 = .ok (.iconst 0, 1) := by decide +kernel
theorem dX1_lend_2 : decode cX1_lend 2 = .ok (.bipush 19, 2) := by decide +kernel
theorem dX1_lend_4 : decode cX1_lend 4 = .ok (.invokestatic 34, 3) := by decide +kernel
theorem dX1_lend_7 : decode cX1_lend 7 = .ok (.ifCond .eq 22, 3) := by decide +kernel
theorem dX1_lend_10 : decode cX1_lend 10 = .ok (.iload_n 2, 1) := by decide +kernel
theorem dX1_lend_11 : decode cX1_lend 11 = .ok (.iconst 0, 1) := by decide +kernel
theorem dX1_lend_12 : decode cX1_lend 12 = .ok (.bipush 19, 2) := by decide +kernel
theorem dX1_lend_14 : decode cX1_lend 14 = .ok (.invokestatic 34, 3) := by decide +kernel
theorem dX1_lend_17 : decode cX1_lend 17 = .ok (.ifCond .eq 12, 3) := by decide +kernel
theorem dX1_lend_20 : decode cX1_lend 20 = .ok (.iload_n 1, 1) := by decide +kernel
theorem dX1_lend_21 : decode cX1_lend 21 = .ok (.iload_n 2, 1) := by decide +kernel
theorem dX1_lend_22 : decode cX1_lend 22 = .ok (.if_icmp .eq 7, 3) := by decide +kernel
theorem dX1_lend_25 : decode cX1_lend 25 = .ok (.iconst 1, 1) := by decide +kernel
theorem dX1_lend_26 : decode cX1_lend 26 = .ok (.goto 4, 3) := by decide +kernel
theorem dX1_lend_29 : decode cX1_lend 29 = .ok (.iconst 0, 1) := by decide +kernel
theorem dX1_lend_30 : decode cX1_lend 30 = .ok (.istore 4, 2) := by decide +kernel
theorem dX1_lend_32 : decode cX1_lend 32 = .ok (.iload 4, 2) := by decide +kernel
theorem dX1_lend_34 : decode cX1_lend 34 = .ok (.ifCond .eq 13, 3) := by decide +kernel
theorem dX1_lend_37 : decode cX1_lend 37 = .ok (.iload_n 3, 1) := by decide +kernel
theorem dX1_lend_38 : decode cX1_lend 38 = .ok (.iconst 0, 1) := by decide +kernel
theorem dX1_lend_39 : decode cX1_lend 39 = .ok (.ldc 38, 2) := by decide +kernel
theorem dX1_lend_41 : decode cX1_lend 41 = .ok (.invokestatic 34, 3) := by decide +kernel
theorem dX1_lend_44 : decode cX1_lend 44 = .ok (.ifCond .ne 5, 3) := by decide +kernel
theorem dX1_lend_47 : decode cX1_lend 47 = .ok (.iconst 0, 1) := by decide +kernel
theorem dX1_lend_48 : decode cX1_lend 48 = .ok (.ireturn, 1) := by decide +kernel
theorem dX1_lend_49 : decode cX1_lend 49 = .ok (.aload_n 0, 1) := by decide +kernel
theorem dX1_lend_50 : decode cX1_lend 50 = .ok (.getfield 20, 3) := by decide +kernel
theorem dX1_lend_53 : decode cX1_lend 53 = .ok (.iload_n 1, 1) := by decide +kernel
theorem dX1_lend_54 : decode cX1_lend 54 = .ok (.dup2, 1) := by decide +kernel
theorem dX1_lend_55 : decode cX1_lend 55 = .ok (.laload, 1) := by decide +kernel
theorem dX1_lend_56 : decode cX1_lend 56 = .ok (.iload_n 3, 1) := by decide +kernel
theorem dX1_lend_57 : decode cX1_lend 57 = .ok (.aload_n 0, 1) := by decide +kernel
theorem dX1_lend_58 : decode cX1_lend 58 = .ok (.getfield 11, 3) := by decide +kernel
theorem dX1_lend_61 : decode cX1_lend 61 = .ok (.iload_n 1, 1) := by decide +kernel
theorem dX1_lend_62 : decode cX1_lend 62 = .ok (.aaload, 1) := by decide +kernel
theorem dX1_lend_63 : decode cX1_lend 63 = .ok (.iload_n 2, 1) := by decide +kernel
theorem dX1_lend_64 : decode cX1_lend 64 = .ok (.iaload, 1) := by decide +kernel
theorem dX1_lend_65 : decode cX1_lend 65 = .ok (.isub, 1) := by decide +kernel
theorem dX1_lend_66 : decode cX1_lend 66 = .ok (.i2l, 1) := by decide +kernel
theorem dX1_lend_67 : decode cX1_lend 67 = .ok (.ladd, 1) := by decide +kernel
theorem dX1_lend_68 : decode cX1_lend 68 = .ok (.lastore, 1) := by decide +kernel
theorem dX1_lend_69 : decode cX1_lend 69 = .ok (.aload_n 0, 1) := by decide +kernel
theorem dX1_lend_70 : decode cX1_lend 70 = .ok (.getfield 11, 3) := by decide +kernel
theorem dX1_lend_73 : decode cX1_lend 73 = .ok (.iload_n 1, 1) := by decide +kernel
theorem dX1_lend_74 : decode cX1_lend 74 = .ok (.aaload, 1) := by decide +kernel
theorem dX1_lend_75 : decode cX1_lend 75 = .ok (.iload_n 2, 1) := by decide +kernel
theorem dX1_lend_76 : decode cX1_lend 76 = .ok (.iload_n 3, 1) := by decide +kernel
theorem dX1_lend_77 : decode cX1_lend 77 = .ok (.iastore, 1) := by decide +kernel
theorem dX1_lend_78 : decode cX1_lend 78 = .ok (.iconst 1, 1) := by decide +kernel
theorem dX1_lend_79 : decode cX1_lend 79 = .ok (.ireturn, 1) := by decide +kernel
theorem dX1_fill_0 : decode cX1_fill 0 = .ok (.iload_n 1, 1) := by decide +kernel
theorem dX1_fill_1 : decode cX1_fill 1 = .ok (.bipush 16, 2) := by decide +kernel
theorem dX1_fill_3 : decode cX1_fill 3 = .ok (.bipush 19, 2) := by decide +kernel
theorem dX1_fill_5 : decode cX1_fill 5 = .ok (.invokestatic 34, 3) := by decide +kernel
theorem dX1_fill_8 : decode cX1_fill 8 = .ok (.ifCond .eq 13, 3) := by decide +kernel
theorem dX1_fill_11 : decode cX1_fill 11 = .ok (.iload_n 2, 1) := by decide +kernel
theorem dX1_fill_12 : decode cX1_fill 12 = .ok (.iconst 0, 1) := by decide +kernel
theorem dX1_fill_13 : decode cX1_fill 13 = .ok (.ldc 38, 2) := by decide +kernel
theorem dX1_fill_15 : decode cX1_fill 15 = .ok (.invokestatic 34, 3) := by decide +kernel
theorem dX1_fill_18 : decode cX1_fill 18 = .ok (.ifCond .ne 5, 3) := by decide +kernel
theorem dX1_fill_21 : decode cX1_fill 21 = .ok (.iconst 0, 1) := by decide +kernel
theorem dX1_fill_22 : decode cX1_fill 22 = .ok (.ireturn, 1) := by decide +kernel
theorem dX1_fill_23 : decode cX1_fill 23 = .ok (.aload_n 0, 1) := by decide +kernel
theorem dX1_fill_24 : decode cX1_fill 24 = .ok (.getfield 16, 3) := by decide +kernel
theorem dX1_fill_27 : decode cX1_fill 27 = .ok (.iload_n 1, 1) := by decide +kernel
theorem dX1_fill_28 : decode cX1_fill 28 = .ok (.bipush 16, 2) := by decide +kernel
theorem dX1_fill_30 : decode cX1_fill 30 = .ok (.isub, 1) := by decide +kernel
theorem dX1_fill_31 : decode cX1_fill 31 = .ok (.iload_n 2, 1) := by decide +kernel
theorem dX1_fill_32 : decode cX1_fill 32 = .ok (.iastore, 1) := by decide +kernel
theorem dX1_fill_33 : decode cX1_fill 33 = .ok (.iconst 1, 1) := by decide +kernel
theorem dX1_fill_34 : decode cX1_fill 34 = .ok (.ireturn, 1) := by decide +kernel
theorem dX1_settle_0 : decode cX1_settle 0 = .ok (.iconst 1, 1) := by decide +kernel
theorem dX1_settle_1 : decode cX1_settle 1 = .ok (.istore_n 2, 1) := by decide +kernel
theorem dX1_settle_2 : decode cX1_settle 2 = .ok (.iconst 0, 1) := by decide +kernel
theorem dX1_settle_3 : decode cX1_settle 3 = .ok (.istore_n 3, 1) := by decide +kernel
theorem dX1_settle_4 : decode cX1_settle 4 = .ok (.iload_n 3, 1) := by decide +kernel
theorem dX1_settle_5 : decode cX1_settle 5 = .ok (.bipush 20, 2) := by decide +kernel
theorem dX1_settle_7 : decode cX1_settle 7 = .ok (.if_icmp .ge 21, 3) := by decide +kernel
theorem dX1_settle_10 : decode cX1_settle 10 = .ok (.aload_n 0, 1) := by decide +kernel
theorem dX1_settle_11 : decode cX1_settle 11 = .ok (.getfield 24, 3) := by decide +kernel
theorem dX1_settle_14 : decode cX1_settle 14 = .ok (.iload_n 3, 1) := by decide +kernel
theorem dX1_settle_15 : decode cX1_settle 15 = .ok (.aload_n 0, 1) := by decide +kernel
theorem dX1_settle_16 : decode cX1_settle 16 = .ok (.getfield 20, 3) := by decide +kernel
theorem dX1_settle_19 : decode cX1_settle 19 = .ok (.iload_n 3, 1) := by decide +kernel
theorem dX1_settle_20 : decode cX1_settle 20 = .ok (.laload, 1) := by decide +kernel
theorem dX1_settle_21 : decode cX1_settle 21 = .ok (.lastore, 1) := by decide +kernel
theorem dX1_settle_22 : decode cX1_settle 22 = .ok (.iinc 3 1, 3) := by decide +kernel
theorem dX1_settle_25 : decode cX1_settle 25 = .ok (.goto (-21), 3) := by decide +kernel
theorem dX1_settle_28 : decode cX1_settle 28 = .ok (.aload_n 0, 1) := by decide +kernel
theorem dX1_settle_29 : decode cX1_settle 29 = .ok (.iconst 0, 1) := by decide +kernel
theorem dX1_settle_30 : decode cX1_settle 30 = .ok (.putfield 39, 3) := by decide +kernel
theorem dX1_settle_33 : decode cX1_settle 33 = .ok (.iconst 0, 1) := by decide +kernel
theorem dX1_settle_34 : decode cX1_settle 34 = .ok (.istore_n 3, 1) := by decide +kernel
theorem dX1_settle_35 : decode cX1_settle 35 = .ok (.iload_n 3, 1) := by decide +kernel
theorem dX1_settle_36 : decode cX1_settle 36 = .ok (.sipush 300, 3) := by decide +kernel
theorem dX1_settle_39 : decode cX1_settle 39 = .ok (.if_icmp .ge 33, 3) := by decide +kernel
theorem dX1_settle_42 : decode cX1_settle 42 = .ok (.iload_n 2, 1) := by decide +kernel
theorem dX1_settle_43 : decode cX1_settle 43 = .ok (.ifCond .eq 29, 3) := by decide +kernel
theorem dX1_settle_46 : decode cX1_settle 46 = .ok (.aload_n 0, 1) := by decide +kernel
theorem dX1_settle_47 : decode cX1_settle 47 = .ok (.invokevirtual 43, 3) := by decide +kernel
theorem dX1_settle_50 : decode cX1_settle 50 = .ok (.aload_n 0, 1) := by decide +kernel
theorem dX1_settle_51 : decode cX1_settle 51 = .ok (.iload_n 1, 1) := by decide +kernel
theorem dX1_settle_52 : decode cX1_settle 52 = .ok (.invokevirtual 46, 3) := by decide +kernel
theorem dX1_settle_55 : decode cX1_settle 55 = .ok (.istore_n 2, 1) := by decide +kernel
theorem dX1_settle_56 : decode cX1_settle 56 = .ok (.aload_n 0, 1) := by decide +kernel
theorem dX1_settle_57 : decode cX1_settle 57 = .ok (.dup, 1) := by decide +kernel
theorem dX1_settle_58 : decode cX1_settle 58 = .ok (.getfield 39, 3) := by decide +kernel
theorem dX1_settle_61 : decode cX1_settle 61 = .ok (.iconst 1, 1) := by decide +kernel
theorem dX1_settle_62 : decode cX1_settle 62 = .ok (.iadd, 1) := by decide +kernel
theorem dX1_settle_63 : decode cX1_settle 63 = .ok (.putfield 39, 3) := by decide +kernel
theorem dX1_settle_66 : decode cX1_settle 66 = .ok (.iinc 3 1, 3) := by decide +kernel
theorem dX1_settle_69 : decode cX1_settle 69 = .ok (.goto (-34), 3) := by decide +kernel
theorem dX1_settle_72 : decode cX1_settle 72 = .ok (.aload_n 0, 1) := by decide +kernel
theorem dX1_settle_73 : decode cX1_settle 73 = .ok (.invokevirtual 43, 3) := by decide +kernel
theorem dX1_settle_76 : decode cX1_settle 76 = .ok (.return_, 1) := by decide +kernel
theorem dX1_share_0 : decode cX1_share 0 = .ok (.iconst 0, 1) := by decide +kernel
theorem dX1_share_1 : decode cX1_share 1 = .ok (.istore_n 1, 1) := by decide +kernel
theorem dX1_share_2 : decode cX1_share 2 = .ok (.iload_n 1, 1) := by decide +kernel
theorem dX1_share_3 : decode cX1_share 3 = .ok (.bipush 20, 2) := by decide +kernel
theorem dX1_share_5 : decode cX1_share 5 = .ok (.if_icmp .ge 16, 3) := by decide +kernel
theorem dX1_share_8 : decode cX1_share 8 = .ok (.aload_n 0, 1) := by decide +kernel
theorem dX1_share_9 : decode cX1_share 9 = .ok (.getfield 27, 3) := by decide +kernel
theorem dX1_share_12 : decode cX1_share 12 = .ok (.iload_n 1, 1) := by decide +kernel
theorem dX1_share_13 : decode cX1_share 13 = .ok (.lconst 0, 1) := by decide +kernel
theorem dX1_share_14 : decode cX1_share 14 = .ok (.lastore, 1) := by decide +kernel
theorem dX1_share_15 : decode cX1_share 15 = .ok (.iinc 1 1, 3) := by decide +kernel
theorem dX1_share_18 : decode cX1_share 18 = .ok (.goto (-16), 3) := by decide +kernel
theorem dX1_share_21 : decode cX1_share 21 = .ok (.iconst 0, 1) := by decide +kernel
theorem dX1_share_22 : decode cX1_share 22 = .ok (.istore_n 1, 1) := by decide +kernel
theorem dX1_share_23 : decode cX1_share 23 = .ok (.iload_n 1, 1) := by decide +kernel
theorem dX1_share_24 : decode cX1_share 24 = .ok (.bipush 20, 2) := by decide +kernel
theorem dX1_share_26 : decode cX1_share 26 = .ok (.if_icmp .ge 77, 3) := by decide +kernel
theorem dX1_share_29 : decode cX1_share 29 = .ok (.iconst 0, 1) := by decide +kernel
theorem dX1_share_30 : decode cX1_share 30 = .ok (.istore_n 2, 1) := by decide +kernel
theorem dX1_share_31 : decode cX1_share 31 = .ok (.iload_n 2, 1) := by decide +kernel
theorem dX1_share_32 : decode cX1_share 32 = .ok (.bipush 20, 2) := by decide +kernel
theorem dX1_share_34 : decode cX1_share 34 = .ok (.if_icmp .ge 63, 3) := by decide +kernel
theorem dX1_share_37 : decode cX1_share 37 = .ok (.aload_n 0, 1) := by decide +kernel
theorem dX1_share_38 : decode cX1_share 38 = .ok (.getfield 24, 3) := by decide +kernel
theorem dX1_share_41 : decode cX1_share 41 = .ok (.iload_n 1, 1) := by decide +kernel
theorem dX1_share_42 : decode cX1_share 42 = .ok (.laload, 1) := by decide +kernel
theorem dX1_share_43 : decode cX1_share 43 = .ok (.lconst 0, 1) := by decide +kernel
theorem dX1_share_44 : decode cX1_share 44 = .ok (.lcmp, 1) := by decide +kernel
theorem dX1_share_45 : decode cX1_share 45 = .ok (.ifCond .le 52, 3) := by decide +kernel
theorem dX1_share_48 : decode cX1_share 48 = .ok (.aload_n 0, 1) := by decide +kernel
theorem dX1_share_49 : decode cX1_share 49 = .ok (.getfield 20, 3) := by decide +kernel
theorem dX1_share_52 : decode cX1_share 52 = .ok (.iload_n 1, 1) := by decide +kernel
theorem dX1_share_53 : decode cX1_share 53 = .ok (.laload, 1) := by decide +kernel
theorem dX1_share_54 : decode cX1_share 54 = .ok (.lconst 0, 1) := by decide +kernel
theorem dX1_share_55 : decode cX1_share 55 = .ok (.lcmp, 1) := by decide +kernel
theorem dX1_share_56 : decode cX1_share 56 = .ok (.ifCond .le 41, 3) := by decide +kernel
theorem dX1_share_59 : decode cX1_share 59 = .ok (.aload_n 0, 1) := by decide +kernel
theorem dX1_share_60 : decode cX1_share 60 = .ok (.getfield 27, 3) := by decide +kernel
theorem dX1_share_63 : decode cX1_share 63 = .ok (.iload_n 2, 1) := by decide +kernel
theorem dX1_share_64 : decode cX1_share 64 = .ok (.dup2, 1) := by decide +kernel
theorem dX1_share_65 : decode cX1_share 65 = .ok (.laload, 1) := by decide +kernel
theorem dX1_share_66 : decode cX1_share 66 = .ok (.aload_n 0, 1) := by decide +kernel
theorem dX1_share_67 : decode cX1_share 67 = .ok (.getfield 11, 3) := by decide +kernel
theorem dX1_share_70 : decode cX1_share 70 = .ok (.iload_n 1, 1) := by decide +kernel
theorem dX1_share_71 : decode cX1_share 71 = .ok (.aaload, 1) := by decide +kernel
theorem dX1_share_72 : decode cX1_share 72 = .ok (.iload_n 2, 1) := by decide +kernel
theorem dX1_share_73 : decode cX1_share 73 = .ok (.iaload, 1) := by decide +kernel
theorem dX1_share_74 : decode cX1_share 74 = .ok (.i2l, 1) := by decide +kernel
theorem dX1_share_75 : decode cX1_share 75 = .ok (.aload_n 0, 1) := by decide +kernel
theorem dX1_share_76 : decode cX1_share 76 = .ok (.getfield 24, 3) := by decide +kernel
theorem dX1_share_79 : decode cX1_share 79 = .ok (.iload_n 1, 1) := by decide +kernel
theorem dX1_share_80 : decode cX1_share 80 = .ok (.laload, 1) := by decide +kernel
theorem dX1_share_81 : decode cX1_share 81 = .ok (.lmul, 1) := by decide +kernel
theorem dX1_share_82 : decode cX1_share 82 = .ok (.aload_n 0, 1) := by decide +kernel
theorem dX1_share_83 : decode cX1_share 83 = .ok (.getfield 20, 3) := by decide +kernel
theorem dX1_share_86 : decode cX1_share 86 = .ok (.iload_n 1, 1) := by decide +kernel
theorem dX1_share_87 : decode cX1_share 87 = .ok (.laload, 1) := by decide +kernel
theorem dX1_share_88 : decode cX1_share 88 = .ok (.ldiv, 1) := by decide +kernel
theorem dX1_share_89 : decode cX1_share 89 = .ok (.ladd, 1) := by decide +kernel
theorem dX1_share_90 : decode cX1_share 90 = .ok (.lastore, 1) := by decide +kernel
theorem dX1_share_91 : decode cX1_share 91 = .ok (.iinc 2 1, 3) := by decide +kernel
theorem dX1_share_94 : decode cX1_share 94 = .ok (.goto (-63), 3) := by decide +kernel
theorem dX1_share_97 : decode cX1_share 97 = .ok (.iinc 1 1, 3) := by decide +kernel
theorem dX1_share_100 : decode cX1_share 100 = .ok (.goto (-77), 3) := by decide +kernel
theorem dX1_share_103 : decode cX1_share 103 = .ok (.return_, 1) := by decide +kernel
theorem dX1_payAgain_0 : decode cX1_payAgain 0 = .ok (.iconst 0, 1) := by decide +kernel
theorem dX1_payAgain_1 : decode cX1_payAgain 1 = .ok (.istore_n 2, 1) := by decide +kernel
theorem dX1_payAgain_2 : decode cX1_payAgain 2 = .ok (.iconst 0, 1) := by decide +kernel
theorem dX1_payAgain_3 : decode cX1_payAgain 3 = .ok (.istore_n 3, 1) := by decide +kernel
theorem dX1_payAgain_4 : decode cX1_payAgain 4 = .ok (.iload_n 3, 1) := by decide +kernel
theorem dX1_payAgain_5 : decode cX1_payAgain 5 = .ok (.bipush 20, 2) := by decide +kernel
theorem dX1_payAgain_7 : decode cX1_payAgain 7 = .ok (.if_icmp .ge 76, 3) := by decide +kernel
theorem dX1_payAgain_10 : decode cX1_payAgain 10 = .ok (.aload_n 0, 1) := by decide +kernel
theorem dX1_payAgain_11 : decode cX1_payAgain 11 = .ok (.getfield 24, 3) := by decide +kernel
theorem dX1_payAgain_14 : decode cX1_payAgain 14 = .ok (.iload_n 3, 1) := by decide +kernel
theorem dX1_payAgain_15 : decode cX1_payAgain 15 = .ok (.laload, 1) := by decide +kernel
theorem dX1_payAgain_16 : decode cX1_payAgain 16 = .ok (.lstore 4, 2) := by decide +kernel
theorem dX1_payAgain_18 : decode cX1_payAgain 18 = .ok (.aload_n 0, 1) := by decide +kernel
theorem dX1_payAgain_19 : decode cX1_payAgain 19 = .ok (.getfield 24, 3) := by decide +kernel
theorem dX1_payAgain_22 : decode cX1_payAgain 22 = .ok (.iload_n 3, 1) := by decide +kernel
theorem dX1_payAgain_23 : decode cX1_payAgain 23 = .ok (.aload_n 0, 1) := by decide +kernel
theorem dX1_payAgain_24 : decode cX1_payAgain 24 = .ok (.getfield 20, 3) := by decide +kernel
theorem dX1_payAgain_27 : decode cX1_payAgain 27 = .ok (.iload_n 3, 1) := by decide +kernel
theorem dX1_payAgain_28 : decode cX1_payAgain 28 = .ok (.laload, 1) := by decide +kernel
theorem dX1_payAgain_29 : decode cX1_payAgain 29 = .ok (.aload_n 0, 1) := by decide +kernel
theorem dX1_payAgain_30 : decode cX1_payAgain 30 = .ok (.iload_n 3, 1) := by decide +kernel
theorem dX1_payAgain_31 : decode cX1_payAgain 31 = .ok (.invokevirtual 50, 3) := by decide +kernel
theorem dX1_payAgain_34 : decode cX1_payAgain 34 = .ok (.bipush 100, 2) := by decide +kernel
theorem dX1_payAgain_36 : decode cX1_payAgain 36 = .ok (.iload_n 1, 1) := by decide +kernel
theorem dX1_payAgain_37 : decode cX1_payAgain 37 = .ok (.isub, 1) := by decide +kernel
theorem dX1_payAgain_38 : decode cX1_payAgain 38 = .ok (.i2l, 1) := by decide +kernel
theorem dX1_payAgain_39 : decode cX1_payAgain 39 = .ok (.lmul, 1) := by decide +kernel
theorem dX1_payAgain_40 : decode cX1_payAgain 40 = .ok (.ldc2_w 54, 3) := by decide +kernel
theorem dX1_payAgain_43 : decode cX1_payAgain 43 = .ok (.ldiv, 1) := by decide +kernel
theorem dX1_payAgain_44 : decode cX1_payAgain 44 = .ok (.aload_n 0, 1) := by decide +kernel
theorem dX1_payAgain_45 : decode cX1_payAgain 45 = .ok (.getfield 27, 3) := by decide +kernel
theorem dX1_payAgain_48 : decode cX1_payAgain 48 = .ok (.iload_n 3, 1) := by decide +kernel
theorem dX1_payAgain_49 : decode cX1_payAgain 49 = .ok (.laload, 1) := by decide +kernel
theorem dX1_payAgain_50 : decode cX1_payAgain 50 = .ok (.ladd, 1) := by decide +kernel
theorem dX1_payAgain_51 : decode cX1_payAgain 51 = .ok (.invokestatic 56, 3) := by decide +kernel
theorem dX1_payAgain_54 : decode cX1_payAgain 54 = .ok (.lastore, 1) := by decide +kernel
theorem dX1_payAgain_55 : decode cX1_payAgain 55 = .ok (.iload_n 2, 1) := by decide +kernel
theorem dX1_payAgain_56 : decode cX1_payAgain 56 = .ok (.ifCond .ne 15, 3) := by decide +kernel
theorem dX1_payAgain_59 : decode cX1_payAgain 59 = .ok (.aload_n 0, 1) := by decide +kernel
theorem dX1_payAgain_60 : decode cX1_payAgain 60 = .ok (.getfield 24, 3) := by decide +kernel
theorem dX1_payAgain_63 : decode cX1_payAgain 63 = .ok (.iload_n 3, 1) := by decide +kernel
theorem dX1_payAgain_64 : decode cX1_payAgain 64 = .ok (.laload, 1) := by decide +kernel
theorem dX1_payAgain_65 : decode cX1_payAgain 65 = .ok (.lload 4, 2) := by decide +kernel
theorem dX1_payAgain_67 : decode cX1_payAgain 67 = .ok (.lcmp, 1) := by decide +kernel
theorem dX1_payAgain_68 : decode cX1_payAgain 68 = .ok (.ifCond .eq 7, 3) := by decide +kernel
theorem dX1_payAgain_71 : decode cX1_payAgain 71 = .ok (.iconst 1, 1) := by decide +kernel
theorem dX1_payAgain_72 : decode cX1_payAgain 72 = .ok (.goto 4, 3) := by decide +kernel
theorem dX1_payAgain_75 : decode cX1_payAgain 75 = .ok (.iconst 0, 1) := by decide +kernel
theorem dX1_payAgain_76 : decode cX1_payAgain 76 = .ok (.istore_n 2, 1) := by decide +kernel
theorem dX1_payAgain_77 : decode cX1_payAgain 77 = .ok (.iinc 3 1, 3) := by decide +kernel
theorem dX1_payAgain_80 : decode cX1_payAgain 80 = .ok (.goto (-76), 3) := by decide +kernel
theorem dX1_payAgain_83 : decode cX1_payAgain 83 = .ok (.iload_n 2, 1) := by decide +kernel
theorem dX1_payAgain_84 : decode cX1_payAgain 84 = .ok (.ireturn, 1) := by decide +kernel
theorem dX1_purseOf_0 : decode cX1_purseOf 0 = .ok (.iload_n 1, 1) := by decide +kernel
theorem dX1_purseOf_1 : decode cX1_purseOf 1 = .ok (.bipush 16, 2) := by decide +kernel
theorem dX1_purseOf_3 : decode cX1_purseOf 3 = .ok (.if_icmp .lt 14, 3) := by decide +kernel
theorem dX1_purseOf_6 : decode cX1_purseOf 6 = .ok (.aload_n 0, 1) := by decide +kernel
theorem dX1_purseOf_7 : decode cX1_purseOf 7 = .ok (.getfield 16, 3) := by decide +kernel
theorem dX1_purseOf_10 : decode cX1_purseOf 10 = .ok (.iload_n 1, 1) := by decide +kernel
theorem dX1_purseOf_11 : decode cX1_purseOf 11 = .ok (.bipush 16, 2) := by decide +kernel
theorem dX1_purseOf_13 : decode cX1_purseOf 13 = .ok (.isub, 1) := by decide +kernel
theorem dX1_purseOf_14 : decode cX1_purseOf 14 = .ok (.iaload, 1) := by decide +kernel
theorem dX1_purseOf_15 : decode cX1_purseOf 15 = .ok (.i2l, 1) := by decide +kernel
theorem dX1_purseOf_16 : decode cX1_purseOf 16 = .ok (.lreturn, 1) := by decide +kernel
theorem dX1_purseOf_17 : decode cX1_purseOf 17 = .ok (.aload_n 0, 1) := by decide +kernel
theorem dX1_purseOf_18 : decode cX1_purseOf 18 = .ok (.getfield 30, 3) := by decide +kernel
theorem dX1_purseOf_21 : decode cX1_purseOf 21 = .ok (.iload_n 1, 1) := by decide +kernel
theorem dX1_purseOf_22 : decode cX1_purseOf 22 = .ok (.invokevirtual 62, 3) := by decide +kernel
theorem dX1_purseOf_25 : decode cX1_purseOf 25 = .ok (.ifCond .eq 19, 3) := by decide +kernel
theorem dX1_purseOf_28 : decode cX1_purseOf 28 = .ok (.lconst 0, 1) := by decide +kernel
theorem dX1_purseOf_29 : decode cX1_purseOf 29 = .ok (.aload_n 0, 1) := by decide +kernel
theorem dX1_purseOf_30 : decode cX1_purseOf 30 = .ok (.getfield 30, 3) := by decide +kernel
theorem dX1_purseOf_33 : decode cX1_purseOf 33 = .ok (.getfield 67, 3) := by decide +kernel
theorem dX1_purseOf_36 : decode cX1_purseOf 36 = .ok (.iload_n 1, 1) := by decide +kernel
theorem dX1_purseOf_37 : decode cX1_purseOf 37 = .ok (.laload, 1) := by decide +kernel
theorem dX1_purseOf_38 : decode cX1_purseOf 38 = .ok (.invokestatic 70, 3) := by decide +kernel
theorem dX1_purseOf_41 : decode cX1_purseOf 41 = .ok (.goto 4, 3) := by decide +kernel
theorem dX1_purseOf_44 : decode cX1_purseOf 44 = .ok (.lconst 0, 1) := by decide +kernel
theorem dX1_purseOf_45 : decode cX1_purseOf 45 = .ok (.lreturn, 1) := by decide +kernel
theorem dX2_init_0 : decode cX2_init 0 = .ok (.aload_n 0, 1) := by decide +kernel
theorem dX2_init_1 : decode cX2_init 1 = .ok (.invokespecial 3, 3) := by decide +kernel
theorem dX2_init_4 : decode cX2_init 4 = .ok (.aload_n 0, 1) := by decide +kernel
theorem dX2_init_5 : decode cX2_init 5 = .ok (.iconst 3, 1) := by decide +kernel
theorem dX2_init_6 : decode cX2_init 6 = .ok (.anewarray 9, 3) := by decide +kernel
theorem dX2_init_9 : decode cX2_init 9 = .ok (.putfield 11, 3) := by decide +kernel
theorem dX2_init_12 : decode cX2_init 12 = .ok (.aload_n 0, 1) := by decide +kernel
theorem dX2_init_13 : decode cX2_init 13 = .ok (.bipush 10, 2) := by decide +kernel
theorem dX2_init_15 : decode cX2_init 15 = .ok (.newarray .int, 2) := by decide +kernel
theorem dX2_init_17 : decode cX2_init 17 = .ok (.putfield 17, 3) := by decide +kernel
theorem dX2_init_20 : decode cX2_init 20 = .ok (.aload_n 0, 1) := by decide +kernel
theorem dX2_init_21 : decode cX2_init 21 = .ok (.aload_n 1, 1) := by decide +kernel
theorem dX2_init_22 : decode cX2_init 22 = .ok (.putfield 21, 3) := by decide +kernel
theorem dX2_init_25 : decode cX2_init 25 = .ok (.aload_n 0, 1) := by decide +kernel
theorem dX2_init_26 : decode cX2_init 26 = .ok (.aload_n 2, 1) := by decide +kernel
theorem dX2_init_27 : decode cX2_init 27 = .ok (.putfield 25, 3) := by decide +kernel
theorem dX2_init_30 : decode cX2_init 30 = .ok (.iconst 0, 1) := by decide +kernel
theorem dX2_init_31 : decode cX2_init 31 = .ok (.istore_n 3, 1) := by decide +kernel
theorem dX2_init_32 : decode cX2_init 32 = .ok (.iload_n 3, 1) := by decide +kernel
theorem dX2_init_33 : decode cX2_init 33 = .ok (.iconst 3, 1) := by decide +kernel
theorem dX2_init_34 : decode cX2_init 34 = .ok (.if_icmp .ge 22, 3) := by decide +kernel
theorem dX2_init_37 : decode cX2_init 37 = .ok (.aload_n 0, 1) := by decide +kernel
theorem dX2_init_38 : decode cX2_init 38 = .ok (.getfield 11, 3) := by decide +kernel
theorem dX2_init_41 : decode cX2_init 41 = .ok (.iload_n 3, 1) := by decide +kernel
theorem dX2_init_42 : decode cX2_init 42 = .ok (.new 9, 3) := by decide +kernel
theorem dX2_init_45 : decode cX2_init 45 = .ok (.dup, 1) := by decide +kernel
theorem dX2_init_46 : decode cX2_init 46 = .ok (.invokespecial 29, 3) := by decide +kernel
theorem dX2_init_49 : decode cX2_init 49 = .ok (.aastore, 1) := by decide +kernel
theorem dX2_init_50 : decode cX2_init 50 = .ok (.iinc 3 1, 3) := by decide +kernel
theorem dX2_init_53 : decode cX2_init 53 = .ok (.goto (-21), 3) := by decide +kernel
theorem dX2_init_56 : decode cX2_init 56 = .ok (.return_, 1) := by decide +kernel
theorem dX2_adopt_0 : decode cX2_adopt 0 = .ok (.aload_n 0, 1) := by decide +kernel
theorem dX2_adopt_1 : decode cX2_adopt 1 = .ok (.getfield 11, 3) := by decide +kernel
theorem dX2_adopt_4 : decode cX2_adopt 4 = .ok (.iload_n 1, 1) := by decide +kernel
theorem dX2_adopt_5 : decode cX2_adopt 5 = .ok (.aaload, 1) := by decide +kernel
theorem dX2_adopt_6 : decode cX2_adopt 6 = .ok (.astore_n 3, 1) := by decide +kernel
theorem dX2_adopt_7 : decode cX2_adopt 7 = .ok (.aload_n 0, 1) := by decide +kernel
theorem dX2_adopt_8 : decode cX2_adopt 8 = .ok (.getfield 11, 3) := by decide +kernel
theorem dX2_adopt_11 : decode cX2_adopt 11 = .ok (.iload_n 1, 1) := by decide +kernel
theorem dX2_adopt_12 : decode cX2_adopt 12 = .ok (.aload_n 2, 1) := by decide +kernel
theorem dX2_adopt_13 : decode cX2_adopt 13 = .ok (.aastore, 1) := by decide +kernel
theorem dX2_adopt_14 : decode cX2_adopt 14 = .ok (.aload_n 3, 1) := by decide +kernel
theorem dX2_adopt_15 : decode cX2_adopt 15 = .ok (.areturn, 1) := by decide +kernel
theorem dX2_linesOf_0 : decode cX2_linesOf 0 = .ok (.aload_n 0, 1) := by decide +kernel
theorem dX2_linesOf_1 : decode cX2_linesOf 1 = .ok (.getfield 11, 3) := by decide +kernel
theorem dX2_linesOf_4 : decode cX2_linesOf 4 = .ok (.iload_n 1, 1) := by decide +kernel
theorem dX2_linesOf_5 : decode cX2_linesOf 5 = .ok (.aaload, 1) := by decide +kernel
theorem dX2_linesOf_6 : decode cX2_linesOf 6 = .ok (.getfield 30, 3) := by decide +kernel
theorem dX2_linesOf_9 : decode cX2_linesOf 9 = .ok (.ireturn, 1) := by decide +kernel
theorem dX2_linesInAll_0 : decode cX2_linesInAll 0 = .ok (.iconst 0, 1) := by decide +kernel
theorem dX2_linesInAll_1 : decode cX2_linesInAll 1 = .ok (.istore_n 1, 1) := by decide +kernel
theorem dX2_linesInAll_2 : decode cX2_linesInAll 2 = .ok (.iconst 0, 1) := by decide +kernel
theorem dX2_linesInAll_3 : decode cX2_linesInAll 3 = .ok (.istore_n 2, 1) := by decide +kernel
theorem dX2_linesInAll_4 : decode cX2_linesInAll 4 = .ok (.iload_n 2, 1) := by decide +kernel
theorem dX2_linesInAll_5 : decode cX2_linesInAll 5 = .ok (.iconst 3, 1) := by decide +kernel
theorem dX2_linesInAll_6 : decode cX2_linesInAll 6 = .ok (.if_icmp .ge 21, 3) := by decide +kernel
theorem dX2_linesInAll_9 : decode cX2_linesInAll 9 = .ok (.iload_n 1, 1) := by decide +kernel
theorem dX2_linesInAll_10 : decode cX2_linesInAll 10 = .ok (.aload_n 0, 1) := by decide +kernel
theorem dX2_linesInAll_11 : decode cX2_linesInAll 11 = .ok (.getfield 11, 3) := by decide +kernel
theorem dX2_linesInAll_14 : decode cX2_linesInAll 14 = .ok (.iload_n 2, 1) := by decide +kernel
theorem dX2_linesInAll_15 : decode cX2_linesInAll 15 = .ok (.aaload, 1) := by decide +kernel
theorem dX2_linesInAll_16 : decode cX2_linesInAll 16 = .ok (.getfield 30, 3) := by decide +kernel
theorem dX2_linesInAll_19 : decode cX2_linesInAll 19 = .ok (.iadd, 1) := by decide +kernel
theorem dX2_linesInAll_20 : decode cX2_linesInAll 20 = .ok (.istore_n 1, 1) := by decide +kernel
theorem dX2_linesInAll_21 : decode cX2_linesInAll 21 = .ok (.iinc 2 1, 3) := by decide +kernel
theorem dX2_linesInAll_24 : decode cX2_linesInAll 24 = .ok (.goto (-20), 3) := by decide +kernel
theorem dX2_linesInAll_27 : decode cX2_linesInAll 27 = .ok (.iload_n 1, 1) := by decide +kernel
theorem dX2_linesInAll_28 : decode cX2_linesInAll 28 = .ok (.ireturn, 1) := by decide +kernel
theorem dX2_judge_0 : decode cX2_judge 0 = .ok (.aload_n 0, 1) := by decide +kernel
theorem dX2_judge_1 : decode cX2_judge 1 = .ok (.iload_n 1, 1) := by decide +kernel
theorem dX2_judge_2 : decode cX2_judge 2 = .ok (.iload_n 2, 1) := by decide +kernel
theorem dX2_judge_3 : decode cX2_judge 3 = .ok (.iload_n 3, 1) := by decide +kernel
theorem dX2_judge_4 : decode cX2_judge 4 = .ok (.invokevirtual 34, 3) := by decide +kernel
theorem dX2_judge_7 : decode cX2_judge 7 = .ok (.aload_n 0, 1) := by decide +kernel
theorem dX2_judge_8 : decode cX2_judge 8 = .ok (.iconst (-1), 1) := by decide +kernel
theorem dX2_judge_9 : decode cX2_judge 9 = .ok (.putfield 38, 3) := by decide +kernel
theorem dX2_judge_12 : decode cX2_judge 12 = .ok (.aload_n 0, 1) := by decide +kernel
theorem dX2_judge_13 : decode cX2_judge 13 = .ok (.iconst (-1), 1) := by decide +kernel
theorem dX2_judge_14 : decode cX2_judge 14 = .ok (.putfield 41, 3) := by decide +kernel
theorem dX2_judge_17 : decode cX2_judge 17 = .ok (.aload_n 0, 1) := by decide +kernel
theorem dX2_judge_18 : decode cX2_judge 18 = .ok (.iconst 0, 1) := by decide +kernel
theorem dX2_judge_19 : decode cX2_judge 19 = .ok (.putfield 44, 3) := by decide +kernel
theorem dX2_judge_22 : decode cX2_judge 22 = .ok (.aload_n 0, 1) := by decide +kernel
theorem dX2_judge_23 : decode cX2_judge 23 = .ok (.iconst 0, 1) := by decide +kernel
theorem dX2_judge_24 : decode cX2_judge 24 = .ok (.putfield 47, 3) := by decide +kernel
theorem dX2_judge_27 : decode cX2_judge 27 = .ok (.iconst 0, 1) := by decide +kernel
theorem dX2_judge_28 : decode cX2_judge 28 = .ok (.istore 4, 2) := by decide +kernel
theorem dX2_judge_30 : decode cX2_judge 30 = .ok (.iload 4, 2) := by decide +kernel
theorem dX2_judge_32 : decode cX2_judge 32 = .ok (.iconst 3, 1) := by decide +kernel
theorem dX2_judge_33 : decode cX2_judge 33 = .ok (.if_icmp .ge 29, 3) := by decide +kernel
theorem dX2_judge_36 : decode cX2_judge 36 = .ok (.aload_n 0, 1) := by decide +kernel
theorem dX2_judge_37 : decode cX2_judge 37 = .ok (.dup, 1) := by decide +kernel
theorem dX2_judge_38 : decode cX2_judge 38 = .ok (.getfield 44, 3) := by decide +kernel
theorem dX2_judge_41 : decode cX2_judge 41 = .ok (.aload_n 0, 1) := by decide +kernel
theorem dX2_judge_42 : decode cX2_judge 42 = .ok (.iload 4, 2) := by decide +kernel
theorem dX2_judge_44 : decode cX2_judge 44 = .ok (.invokevirtual 50, 3) := by decide +kernel
theorem dX2_judge_47 : decode cX2_judge 47 = .ok (.ldc 54, 2) := by decide +kernel
theorem dX2_judge_49 : decode cX2_judge 49 = .ok (.invokestatic 55, 3) := by decide +kernel
theorem dX2_judge_52 : decode cX2_judge 52 = .ok (.iadd, 1) := by decide +kernel
theorem dX2_judge_53 : decode cX2_judge 53 = .ok (.putfield 44, 3) := by decide +kernel
theorem dX2_judge_56 : decode cX2_judge 56 = .ok (.iinc 4 1, 3) := by decide +kernel
theorem dX2_judge_59 : decode cX2_judge 59 = .ok (.goto (-29), 3) := by decide +kernel
theorem dX2_judge_62 : decode cX2_judge 62 = .ok (.aload_n 0, 1) := by decide +kernel
theorem dX2_judge_63 : decode cX2_judge 63 = .ok (.aload_n 0, 1) := by decide +kernel
theorem dX2_judge_64 : decode cX2_judge 64 = .ok (.getfield 47, 3) := by decide +kernel
theorem dX2_judge_67 : decode cX2_judge 67 = .ok (.bipush 40, 2) := by decide +kernel
theorem dX2_judge_69 : decode cX2_judge 69 = .ok (.invokestatic 55, 3) := by decide +kernel
theorem dX2_judge_72 : decode cX2_judge 72 = .ok (.putfield 47, 3) := by decide +kernel
theorem dX2_judge_75 : decode cX2_judge 75 = .ok (.return_, 1) := by decide +kernel
theorem dX2_gather_0 : decode cX2_gather 0 = .ok (.aload_n 0, 1) := by decide +kernel
theorem dX2_gather_1 : decode cX2_gather 1 = .ok (.getfield 21, 3) := by decide +kernel
theorem dX2_gather_4 : decode cX2_gather 4 = .ok (.getfield 61, 3) := by decide +kernel
theorem dX2_gather_7 : decode cX2_gather 7 = .ok (.iload_n 1, 1) := by decide +kernel
theorem dX2_gather_8 : decode cX2_gather 8 = .ok (.iaload, 1) := by decide +kernel
theorem dX2_gather_9 : decode cX2_gather 9 = .ok (.istore 4, 2) := by decide +kernel
theorem dX2_gather_11 : decode cX2_gather 11 = .ok (.aload_n 0, 1) := by decide +kernel
theorem dX2_gather_12 : decode cX2_gather 12 = .ok (.getfield 25, 3) := by decide +kernel
theorem dX2_gather_15 : decode cX2_gather 15 = .ok (.getfield 66, 3) := by decide +kernel
theorem dX2_gather_18 : decode cX2_gather 18 = .ok (.iload_n 2, 1) := by decide +kernel
theorem dX2_gather_19 : decode cX2_gather 19 = .ok (.iaload, 1) := by decide +kernel
theorem dX2_gather_20 : decode cX2_gather 20 = .ok (.istore 5, 2) := by decide +kernel
theorem dX2_gather_22 : decode cX2_gather 22 = .ok (.aload_n 0, 1) := by decide +kernel
theorem dX2_gather_23 : decode cX2_gather 23 = .ok (.getfield 17, 3) := by decide +kernel
theorem dX2_gather_26 : decode cX2_gather 26 = .ok (.iconst 0, 1) := by decide +kernel
theorem dX2_gather_27 : decode cX2_gather 27 = .ok (.aload_n 0, 1) := by decide +kernel
theorem dX2_gather_28 : decode cX2_gather 28 = .ok (.getfield 21, 3) := by decide +kernel
theorem dX2_gather_31 : decode cX2_gather 31 = .ok (.getfield 71, 3) := by decide +kernel
theorem dX2_gather_34 : decode cX2_gather 34 = .ok (.iload 4, 2) := by decide +kernel
theorem dX2_gather_36 : decode cX2_gather 36 = .ok (.iaload, 1) := by decide +kernel
theorem dX2_gather_37 : decode cX2_gather 37 = .ok (.iastore, 1) := by decide +kernel
theorem dX2_gather_38 : decode cX2_gather 38 = .ok (.aload_n 0, 1) := by decide +kernel
theorem dX2_gather_39 : decode cX2_gather 39 = .ok (.getfield 17, 3) := by decide +kernel
theorem dX2_gather_42 : decode cX2_gather 42 = .ok (.iconst 1, 1) := by decide +kernel
theorem dX2_gather_43 : decode cX2_gather 43 = .ok (.aload_n 0, 1) := by decide +kernel
theorem dX2_gather_44 : decode cX2_gather 44 = .ok (.getfield 21, 3) := by decide +kernel
theorem dX2_gather_47 : decode cX2_gather 47 = .ok (.getfield 74, 3) := by decide +kernel
theorem dX2_gather_50 : decode cX2_gather 50 = .ok (.iload 4, 2) := by decide +kernel
theorem dX2_gather_52 : decode cX2_gather 52 = .ok (.iaload, 1) := by decide +kernel
theorem dX2_gather_53 : decode cX2_gather 53 = .ok (.iastore, 1) := by decide +kernel
theorem dX2_gather_54 : decode cX2_gather 54 = .ok (.aload_n 0, 1) := by decide +kernel
theorem dX2_gather_55 : decode cX2_gather 55 = .ok (.getfield 17, 3) := by decide +kernel
theorem dX2_gather_58 : decode cX2_gather 58 = .ok (.iconst 2, 1) := by decide +kernel
theorem dX2_gather_59 : decode cX2_gather 59 = .ok (.aload_n 0, 1) := by decide +kernel
theorem dX2_gather_60 : decode cX2_gather 60 = .ok (.getfield 21, 3) := by decide +kernel
theorem dX2_gather_63 : decode cX2_gather 63 = .ok (.getfield 77, 3) := by decide +kernel
theorem dX2_gather_66 : decode cX2_gather 66 = .ok (.iload 4, 2) := by decide +kernel
theorem dX2_gather_68 : decode cX2_gather 68 = .ok (.iaload, 1) := by decide +kernel
theorem dX2_gather_69 : decode cX2_gather 69 = .ok (.iastore, 1) := by decide +kernel
theorem dX2_gather_70 : decode cX2_gather 70 = .ok (.aload_n 0, 1) := by decide +kernel
theorem dX2_gather_71 : decode cX2_gather 71 = .ok (.getfield 17, 3) := by decide +kernel
theorem dX2_gather_74 : decode cX2_gather 74 = .ok (.iconst 3, 1) := by decide +kernel
theorem dX2_gather_75 : decode cX2_gather 75 = .ok (.aload_n 0, 1) := by decide +kernel
theorem dX2_gather_76 : decode cX2_gather 76 = .ok (.getfield 21, 3) := by decide +kernel
theorem dX2_gather_79 : decode cX2_gather 79 = .ok (.getfield 80, 3) := by decide +kernel
theorem dX2_gather_82 : decode cX2_gather 82 = .ok (.iload 4, 2) := by decide +kernel
theorem dX2_gather_84 : decode cX2_gather 84 = .ok (.iaload, 1) := by decide +kernel
theorem dX2_gather_85 : decode cX2_gather 85 = .ok (.iastore, 1) := by decide +kernel
theorem dX2_gather_86 : decode cX2_gather 86 = .ok (.aload_n 0, 1) := by decide +kernel
theorem dX2_gather_87 : decode cX2_gather 87 = .ok (.getfield 17, 3) := by decide +kernel
theorem dX2_gather_90 : decode cX2_gather 90 = .ok (.iconst 4, 1) := by decide +kernel
theorem dX2_gather_91 : decode cX2_gather 91 = .ok (.aload_n 0, 1) := by decide +kernel
theorem dX2_gather_92 : decode cX2_gather 92 = .ok (.getfield 21, 3) := by decide +kernel
theorem dX2_gather_95 : decode cX2_gather 95 = .ok (.getfield 83, 3) := by decide +kernel
theorem dX2_gather_98 : decode cX2_gather 98 = .ok (.iload_n 1, 1) := by decide +kernel
theorem dX2_gather_99 : decode cX2_gather 99 = .ok (.iaload, 1) := by decide +kernel
theorem dX2_gather_100 : decode cX2_gather 100 = .ok (.iastore, 1) := by decide +kernel
theorem dX2_gather_101 : decode cX2_gather 101 = .ok (.aload_n 0, 1) := by decide +kernel
theorem dX2_gather_102 : decode cX2_gather 102 = .ok (.getfield 17, 3) := by decide +kernel
theorem dX2_gather_105 : decode cX2_gather 105 = .ok (.iconst 5, 1) := by decide +kernel
theorem dX2_gather_106 : decode cX2_gather 106 = .ok (.aload_n 0, 1) := by decide +kernel
theorem dX2_gather_107 : decode cX2_gather 107 = .ok (.getfield 25, 3) := by decide +kernel
theorem dX2_gather_110 : decode cX2_gather 110 = .ok (.iload 5, 2) := by decide +kernel
theorem dX2_gather_112 : decode cX2_gather 112 = .ok (.invokevirtual 86, 3) := by decide +kernel
theorem dX2_gather_115 : decode cX2_gather 115 = .ok (.ifCond .eq 16, 3) := by decide +kernel
theorem dX2_gather_118 : decode cX2_gather 118 = .ok (.aload_n 0, 1) := by decide +kernel
theorem dX2_gather_119 : decode cX2_gather 119 = .ok (.getfield 25, 3) := by decide +kernel
theorem dX2_gather_122 : decode cX2_gather 122 = .ok (.getfield 90, 3) := by decide +kernel
theorem dX2_gather_125 : decode cX2_gather 125 = .ok (.iload 5, 2) := by decide +kernel
theorem dX2_gather_127 : decode cX2_gather 127 = .ok (.iaload, 1) := by decide +kernel
theorem dX2_gather_128 : decode cX2_gather 128 = .ok (.goto 4, 3) := by decide +kernel
theorem dX2_gather_131 : decode cX2_gather 131 = .ok (.iconst 3, 1) := by decide +kernel
theorem dX2_gather_132 : decode cX2_gather 132 = .ok (.iastore, 1) := by decide +kernel
theorem dX2_gather_133 : decode cX2_gather 133 = .ok (.aload_n 0, 1) := by decide +kernel
theorem dX2_gather_134 : decode cX2_gather 134 = .ok (.getfield 17, 3) := by decide +kernel
theorem dX2_gather_137 : decode cX2_gather 137 = .ok (.bipush 6, 2) := by decide +kernel
theorem dX2_gather_139 : decode cX2_gather 139 = .ok (.aload_n 0, 1) := by decide +kernel
theorem dX2_gather_140 : decode cX2_gather 140 = .ok (.getfield 25, 3) := by decide +kernel
theorem dX2_gather_143 : decode cX2_gather 143 = .ok (.getfield 93, 3) := by decide +kernel
theorem dX2_gather_146 : decode cX2_gather 146 = .ok (.iload_n 2, 1) := by decide +kernel
theorem dX2_gather_147 : decode cX2_gather 147 = .ok (.iaload, 1) := by decide +kernel
theorem dX2_gather_148 : decode cX2_gather 148 = .ok (.iastore, 1) := by decide +kernel
theorem dX2_gather_149 : decode cX2_gather 149 = .ok (.aload_n 0, 1) := by decide +kernel
theorem dX2_gather_150 : decode cX2_gather 150 = .ok (.getfield 17, 3) := by decide +kernel
theorem dX2_gather_153 : decode cX2_gather 153 = .ok (.bipush 7, 2) := by decide +kernel
theorem dX2_gather_155 : decode cX2_gather 155 = .ok (.aload_n 0, 1) := by decide +kernel
theorem dX2_gather_156 : decode cX2_gather 156 = .ok (.getfield 25, 3) := by decide +kernel
theorem dX2_gather_159 : decode cX2_gather 159 = .ok (.getfield 96, 3) := by decide +kernel
theorem dX2_gather_162 : decode cX2_gather 162 = .ok (.iload_n 2, 1) := by decide +kernel
theorem dX2_gather_163 : decode cX2_gather 163 = .ok (.iaload, 1) := by decide +kernel
theorem dX2_gather_164 : decode cX2_gather 164 = .ok (.iastore, 1) := by decide +kernel
theorem dX2_gather_165 : decode cX2_gather 165 = .ok (.aload_n 0, 1) := by decide +kernel
theorem dX2_gather_166 : decode cX2_gather 166 = .ok (.getfield 17, 3) := by decide +kernel
theorem dX2_gather_169 : decode cX2_gather 169 = .ok (.bipush 8, 2) := by decide +kernel
theorem dX2_gather_171 : decode cX2_gather 171 = .ok (.aload_n 0, 1) := by decide +kernel
theorem dX2_gather_172 : decode cX2_gather 172 = .ok (.getfield 25, 3) := by decide +kernel
theorem dX2_gather_175 : decode cX2_gather 175 = .ok (.getfield 99, 3) := by decide +kernel
theorem dX2_gather_178 : decode cX2_gather 178 = .ok (.iload_n 2, 1) := by decide +kernel
theorem dX2_gather_179 : decode cX2_gather 179 = .ok (.iaload, 1) := by decide +kernel
theorem dX2_gather_180 : decode cX2_gather 180 = .ok (.iastore, 1) := by decide +kernel
theorem dX2_gather_181 : decode cX2_gather 181 = .ok (.aload_n 0, 1) := by decide +kernel
theorem dX2_gather_182 : decode cX2_gather 182 = .ok (.getfield 17, 3) := by decide +kernel
theorem dX2_gather_185 : decode cX2_gather 185 = .ok (.bipush 9, 2) := by decide +kernel
theorem dX2_gather_187 : decode cX2_gather 187 = .ok (.iload_n 3, 1) := by decide +kernel
theorem dX2_gather_188 : decode cX2_gather 188 = .ok (.iastore, 1) := by decide +kernel
theorem dX2_gather_189 : decode cX2_gather 189 = .ok (.return_, 1) := by decide +kernel
theorem dX2_ask_0 : decode cX2_ask 0 = .ok (.aload_n 0, 1) := by decide +kernel
theorem dX2_ask_1 : decode cX2_ask 1 = .ok (.getfield 11, 3) := by decide +kernel
theorem dX2_ask_4 : decode cX2_ask 4 = .ok (.iload_n 1, 1) := by decide +kernel
theorem dX2_ask_5 : decode cX2_ask 5 = .ok (.aaload, 1) := by decide +kernel
theorem dX2_ask_6 : decode cX2_ask 6 = .ok (.astore_n 2, 1) := by decide +kernel
theorem dX2_ask_7 : decode cX2_ask 7 = .ok (.iconst 0, 1) := by decide +kernel
theorem dX2_ask_8 : decode cX2_ask 8 = .ok (.istore_n 3, 1) := by decide +kernel
theorem dX2_ask_9 : decode cX2_ask 9 = .ok (.iconst 0, 1) := by decide +kernel
theorem dX2_ask_10 : decode cX2_ask 10 = .ok (.istore 4, 2) := by decide +kernel
theorem dX2_ask_12 : decode cX2_ask 12 = .ok (.iload 4, 2) := by decide +kernel
theorem dX2_ask_14 : decode cX2_ask 14 = .ok (.aload_n 2, 1) := by decide +kernel
theorem dX2_ask_15 : decode cX2_ask 15 = .ok (.getfield 30, 3) := by decide +kernel
theorem dX2_ask_18 : decode cX2_ask 18 = .ok (.if_icmp .ge 97, 3) := by decide +kernel
theorem dX2_ask_21 : decode cX2_ask 21 = .ok (.aload_n 2, 1) := by decide +kernel
theorem dX2_ask_22 : decode cX2_ask 22 = .ok (.iload 4, 2) := by decide +kernel
theorem dX2_ask_24 : decode cX2_ask 24 = .ok (.aload_n 0, 1) := by decide +kernel
theorem dX2_ask_25 : decode cX2_ask 25 = .ok (.getfield 17, 3) := by decide +kernel
theorem dX2_ask_28 : decode cX2_ask 28 = .ok (.invokevirtual 102, 3) := by decide +kernel
theorem dX2_ask_31 : decode cX2_ask 31 = .ok (.ifCond .ne 6, 3) := by decide +kernel
theorem dX2_ask_34 : decode cX2_ask 34 = .ok (.goto 75, 3) := by decide +kernel
theorem dX2_ask_37 : decode cX2_ask 37 = .ok (.aload_n 2, 1) := by decide +kernel
theorem dX2_ask_38 : decode cX2_ask 38 = .ok (.getfield 106, 3) := by decide +kernel
theorem dX2_ask_41 : decode cX2_ask 41 = .ok (.iload 4, 2) := by decide +kernel
theorem dX2_ask_43 : decode cX2_ask 43 = .ok (.iaload, 1) := by decide +kernel
theorem dX2_ask_44 : decode cX2_ask 44 = .ok (.lookupswitch 58 #[(257, 28), (258, 40)], 28) := by decide +kernel
theorem dX2_ask_72 : decode cX2_ask 72 = .ok (.iload_n 3, 1) := by decide +kernel
theorem dX2_ask_73 : decode cX2_ask 73 = .ok (.aload_n 2, 1) := by decide +kernel
theorem dX2_ask_74 : decode cX2_ask 74 = .ok (.invokevirtual 109, 3) := by decide +kernel
theorem dX2_ask_77 : decode cX2_ask 77 = .ok (.invokestatic 113, 3) := by decide +kernel
theorem dX2_ask_80 : decode cX2_ask 80 = .ok (.istore_n 3, 1) := by decide +kernel
theorem dX2_ask_81 : decode cX2_ask 81 = .ok (.goto 28, 3) := by decide +kernel
theorem dX2_ask_84 : decode cX2_ask 84 = .ok (.aload_n 0, 1) := by decide +kernel
theorem dX2_ask_85 : decode cX2_ask 85 = .ok (.aload_n 0, 1) := by decide +kernel
theorem dX2_ask_86 : decode cX2_ask 86 = .ok (.getfield 47, 3) := by decide +kernel
theorem dX2_ask_89 : decode cX2_ask 89 = .ok (.aload_n 2, 1) := by decide +kernel
theorem dX2_ask_90 : decode cX2_ask 90 = .ok (.invokevirtual 109, 3) := by decide +kernel
theorem dX2_ask_93 : decode cX2_ask 93 = .ok (.invokestatic 113, 3) := by decide +kernel
theorem dX2_ask_96 : decode cX2_ask 96 = .ok (.putfield 47, 3) := by decide +kernel
theorem dX2_ask_99 : decode cX2_ask 99 = .ok (.goto 10, 3) := by decide +kernel
theorem dX2_ask_102 : decode cX2_ask 102 = .ok (.aload_n 0, 1) := by decide +kernel
theorem dX2_ask_103 : decode cX2_ask 103 = .ok (.iload_n 1, 1) := by decide +kernel
theorem dX2_ask_104 : decode cX2_ask 104 = .ok (.iload 4, 2) := by decide +kernel
theorem dX2_ask_106 : decode cX2_ask 106 = .ok (.invokevirtual 116, 3) := by decide +kernel
theorem dX2_ask_109 : decode cX2_ask 109 = .ok (.iinc 4 1, 3) := by decide +kernel
theorem dX2_ask_112 : decode cX2_ask 112 = .ok (.goto (-100), 3) := by decide +kernel
theorem dX2_ask_115 : decode cX2_ask 115 = .ok (.iload_n 3, 1) := by decide +kernel
theorem dX2_ask_116 : decode cX2_ask 116 = .ok (.ireturn, 1) := by decide +kernel
theorem dX2_bar_0 : decode cX2_bar 0 = .ok (.aload_n 0, 1) := by decide +kernel
theorem dX2_bar_1 : decode cX2_bar 1 = .ok (.getfield 38, 3) := by decide +kernel
theorem dX2_bar_4 : decode cX2_bar 4 = .ok (.iconst (-1), 1) := by decide +kernel
theorem dX2_bar_5 : decode cX2_bar 5 = .ok (.if_icmp .ne 13, 3) := by decide +kernel
theorem dX2_bar_8 : decode cX2_bar 8 = .ok (.aload_n 0, 1) := by decide +kernel
theorem dX2_bar_9 : decode cX2_bar 9 = .ok (.iload_n 1, 1) := by decide +kernel
theorem dX2_bar_10 : decode cX2_bar 10 = .ok (.putfield 38, 3) := by decide +kernel
theorem dX2_bar_13 : decode cX2_bar 13 = .ok (.aload_n 0, 1) := by decide +kernel
theorem dX2_bar_14 : decode cX2_bar 14 = .ok (.iload_n 2, 1) := by decide +kernel
theorem dX2_bar_15 : decode cX2_bar 15 = .ok (.putfield 41, 3) := by decide +kernel
theorem dX2_bar_18 : decode cX2_bar 18 = .ok (.return_, 1) := by decide +kernel
theorem dX2_reason_0 : decode cX2_reason 0 = .ok (.aload_n 0, 1) := by decide +kernel
theorem dX2_reason_1 : decode cX2_reason 1 = .ok (.getfield 21, 3) := by decide +kernel
theorem dX2_reason_4 : decode cX2_reason 4 = .ok (.getfield 74, 3) := by decide +kernel
theorem dX2_reason_7 : decode cX2_reason 7 = .ok (.aload_n 0, 1) := by decide +kernel
theorem dX2_reason_8 : decode cX2_reason 8 = .ok (.getfield 21, 3) := by decide +kernel
theorem dX2_reason_11 : decode cX2_reason 11 = .ok (.getfield 61, 3) := by decide +kernel
theorem dX2_reason_14 : decode cX2_reason 14 = .ok (.iload_n 1, 1) := by decide +kernel
theorem dX2_reason_15 : decode cX2_reason 15 = .ok (.iaload, 1) := by decide +kernel
theorem dX2_reason_16 : decode cX2_reason 16 = .ok (.iaload, 1) := by decide +kernel
theorem dX2_reason_17 : decode cX2_reason 17 = .ok (.istore_n 3, 1) := by decide +kernel
theorem dX2_reason_18 : decode cX2_reason 18 = .ok (.aload_n 0, 1) := by decide +kernel
theorem dX2_reason_19 : decode cX2_reason 19 = .ok (.getfield 21, 3) := by decide +kernel
theorem dX2_reason_22 : decode cX2_reason 22 = .ok (.getfield 83, 3) := by decide +kernel
theorem dX2_reason_25 : decode cX2_reason 25 = .ok (.iload_n 1, 1) := by decide +kernel
theorem dX2_reason_26 : decode cX2_reason 26 = .ok (.iaload, 1) := by decide +kernel
theorem dX2_reason_27 : decode cX2_reason 27 = .ok (.bipush 12, 2) := by decide +kernel
theorem dX2_reason_29 : decode cX2_reason 29 = .ok (.if_icmp .lt 5, 3) := by decide +kernel
theorem dX2_reason_32 : decode cX2_reason 32 = .ok (.iconst 1, 1) := by decide +kernel
theorem dX2_reason_33 : decode cX2_reason 33 = .ok (.ireturn, 1) := by decide +kernel
theorem dX2_reason_34 : decode cX2_reason 34 = .ok (.iload_n 3, 1) := by decide +kernel
theorem dX2_reason_35 : decode cX2_reason 35 = .ok (.iconst 3, 1) := by decide +kernel
theorem dX2_reason_36 : decode cX2_reason 36 = .ok (.if_icmp .eq 17, 3) := by decide +kernel
theorem dX2_reason_39 : decode cX2_reason 39 = .ok (.aload_n 0, 1) := by decide +kernel
theorem dX2_reason_40 : decode cX2_reason 40 = .ok (.getfield 25, 3) := by decide +kernel
theorem dX2_reason_43 : decode cX2_reason 43 = .ok (.iload_n 2, 1) := by decide +kernel
theorem dX2_reason_44 : decode cX2_reason 44 = .ok (.iload_n 3, 1) := by decide +kernel
theorem dX2_reason_45 : decode cX2_reason 45 = .ok (.invokevirtual 120, 3) := by decide +kernel
theorem dX2_reason_48 : decode cX2_reason 48 = .ok (.ifCond .ne 5, 3) := by decide +kernel
theorem dX2_reason_51 : decode cX2_reason 51 = .ok (.iconst 2, 1) := by decide +kernel
theorem dX2_reason_52 : decode cX2_reason 52 = .ok (.ireturn, 1) := by decide +kernel
theorem dX2_reason_53 : decode cX2_reason 53 = .ok (.iload_n 3, 1) := by decide +kernel
theorem dX2_reason_54 : decode cX2_reason 54 = .ok (.iconst 3, 1) := by decide +kernel
theorem dX2_reason_55 : decode cX2_reason 55 = .ok (.if_icmp .ne 17, 3) := by decide +kernel
theorem dX2_reason_58 : decode cX2_reason 58 = .ok (.aload_n 0, 1) := by decide +kernel
theorem dX2_reason_59 : decode cX2_reason 59 = .ok (.getfield 25, 3) := by decide +kernel
theorem dX2_reason_62 : decode cX2_reason 62 = .ok (.getfield 96, 3) := by decide +kernel
theorem dX2_reason_65 : decode cX2_reason 65 = .ok (.iload_n 2, 1) := by decide +kernel
theorem dX2_reason_66 : decode cX2_reason 66 = .ok (.iaload, 1) := by decide +kernel
theorem dX2_reason_67 : decode cX2_reason 67 = .ok (.ifCond .ne 5, 3) := by decide +kernel
theorem dX2_reason_70 : decode cX2_reason 70 = .ok (.iconst 3, 1) := by decide +kernel
theorem dX2_reason_71 : decode cX2_reason 71 = .ok (.ireturn, 1) := by decide +kernel
theorem dX2_reason_72 : decode cX2_reason 72 = .ok (.aload_n 0, 1) := by decide +kernel
theorem dX2_reason_73 : decode cX2_reason 73 = .ok (.getfield 38, 3) := by decide +kernel
theorem dX2_reason_76 : decode cX2_reason 76 = .ok (.iconst (-1), 1) := by decide +kernel
theorem dX2_reason_77 : decode cX2_reason 77 = .ok (.if_icmp .ne 7, 3) := by decide +kernel
theorem dX2_reason_80 : decode cX2_reason 80 = .ok (.iconst 0, 1) := by decide +kernel
theorem dX2_reason_81 : decode cX2_reason 81 = .ok (.goto 4, 3) := by decide +kernel
theorem dX2_reason_84 : decode cX2_reason 84 = .ok (.iconst 4, 1) := by decide +kernel
theorem dX2_reason_85 : decode cX2_reason 85 = .ok (.ireturn, 1) := by decide +kernel
theorem dX3_init_0 : decode cX3_init 0 = .ok (.aload_n 0, 1) := by decide +kernel
theorem dX3_init_1 : decode cX3_init 1 = .ok (.invokespecial 3, 3) := by decide +kernel
theorem dX3_init_4 : decode cX3_init 4 = .ok (.aload_n 0, 1) := by decide +kernel
theorem dX3_init_5 : decode cX3_init 5 = .ok (.bipush 16, 2) := by decide +kernel
theorem dX3_init_7 : decode cX3_init 7 = .ok (.newarray .int, 2) := by decide +kernel
theorem dX3_init_9 : decode cX3_init 9 = .ok (.putfield 9, 3) := by decide +kernel
theorem dX3_init_12 : decode cX3_init 12 = .ok (.aload_n 0, 1) := by decide +kernel
theorem dX3_init_13 : decode cX3_init 13 = .ok (.bipush 16, 2) := by decide +kernel
theorem dX3_init_15 : decode cX3_init 15 = .ok (.newarray .int, 2) := by decide +kernel
theorem dX3_init_17 : decode cX3_init 17 = .ok (.putfield 15, 3) := by decide +kernel
theorem dX3_init_20 : decode cX3_init 20 = .ok (.aload_n 0, 1) := by decide +kernel
theorem dX3_init_21 : decode cX3_init 21 = .ok (.bipush 16, 2) := by decide +kernel
theorem dX3_init_23 : decode cX3_init 23 = .ok (.newarray .int, 2) := by decide +kernel
theorem dX3_init_25 : decode cX3_init 25 = .ok (.putfield 18, 3) := by decide +kernel
theorem dX3_init_28 : decode cX3_init 28 = .ok (.aload_n 0, 1) := by decide +kernel
theorem dX3_init_29 : decode cX3_init 29 = .ok (.bipush 16, 2) := by decide +kernel
theorem dX3_init_31 : decode cX3_init 31 = .ok (.newarray .int, 2) := by decide +kernel
theorem dX3_init_33 : decode cX3_init 33 = .ok (.putfield 21, 3) := by decide +kernel
theorem dX3_init_36 : decode cX3_init 36 = .ok (.aload_n 0, 1) := by decide +kernel
theorem dX3_init_37 : decode cX3_init 37 = .ok (.bipush 16, 2) := by decide +kernel
theorem dX3_init_39 : decode cX3_init 39 = .ok (.newarray .long, 2) := by decide +kernel
theorem dX3_init_41 : decode cX3_init 41 = .ok (.putfield 24, 3) := by decide +kernel
theorem dX3_init_44 : decode cX3_init 44 = .ok (.aload_n 0, 1) := by decide +kernel
theorem dX3_init_45 : decode cX3_init 45 = .ok (.bipush 16, 2) := by decide +kernel
theorem dX3_init_47 : decode cX3_init 47 = .ok (.newarray .int, 2) := by decide +kernel
theorem dX3_init_49 : decode cX3_init 49 = .ok (.putfield 28, 3) := by decide +kernel
theorem dX3_init_52 : decode cX3_init 52 = .ok (.aload_n 0, 1) := by decide +kernel
theorem dX3_init_53 : decode cX3_init 53 = .ok (.bipush 16, 2) := by decide +kernel
theorem dX3_init_55 : decode cX3_init 55 = .ok (.newarray .int, 2) := by decide +kernel
theorem dX3_init_57 : decode cX3_init 57 = .ok (.putfield 31, 3) := by decide +kernel
theorem dX3_init_60 : decode cX3_init 60 = .ok (.aload_n 0, 1) := by decide +kernel
theorem dX3_init_61 : decode cX3_init 61 = .ok (.bipush 16, 2) := by decide +kernel
theorem dX3_init_63 : decode cX3_init 63 = .ok (.newarray .int, 2) := by decide +kernel
theorem dX3_init_65 : decode cX3_init 65 = .ok (.putfield 34, 3) := by decide +kernel
theorem dX3_init_68 : decode cX3_init 68 = .ok (.aload_n 0, 1) := by decide +kernel
theorem dX3_init_69 : decode cX3_init 69 = .ok (.bipush 16, 2) := by decide +kernel
theorem dX3_init_71 : decode cX3_init 71 = .ok (.newarray .int, 2) := by decide +kernel
theorem dX3_init_73 : decode cX3_init 73 = .ok (.putfield 37, 3) := by decide +kernel
theorem dX3_init_76 : decode cX3_init 76 = .ok (.aload_n 0, 1) := by decide +kernel
theorem dX3_init_77 : decode cX3_init 77 = .ok (.bipush 16, 2) := by decide +kernel
theorem dX3_init_79 : decode cX3_init 79 = .ok (.newarray .int, 2) := by decide +kernel
theorem dX3_init_81 : decode cX3_init 81 = .ok (.putfield 40, 3) := by decide +kernel
theorem dX3_init_84 : decode cX3_init 84 = .ok (.aload_n 0, 1) := by decide +kernel
theorem dX3_init_85 : decode cX3_init 85 = .ok (.bipush 20, 2) := by decide +kernel
theorem dX3_init_87 : decode cX3_init 87 = .ok (.newarray .int, 2) := by decide +kernel
theorem dX3_init_89 : decode cX3_init 89 = .ok (.putfield 43, 3) := by decide +kernel
theorem dX3_init_92 : decode cX3_init 92 = .ok (.aload_n 0, 1) := by decide +kernel
theorem dX3_init_93 : decode cX3_init 93 = .ok (.bipush 20, 2) := by decide +kernel
theorem dX3_init_95 : decode cX3_init 95 = .ok (.newarray .int, 2) := by decide +kernel
theorem dX3_init_97 : decode cX3_init 97 = .ok (.putfield 46, 3) := by decide +kernel
theorem dX3_init_100 : decode cX3_init 100 = .ok (.aload_n 0, 1) := by decide +kernel
theorem dX3_init_101 : decode cX3_init 101 = .ok (.bipush 20, 2) := by decide +kernel
theorem dX3_init_103 : decode cX3_init 103 = .ok (.newarray .int, 2) := by decide +kernel
theorem dX3_init_105 : decode cX3_init 105 = .ok (.putfield 49, 3) := by decide +kernel
theorem dX3_init_108 : decode cX3_init 108 = .ok (.aload_n 0, 1) := by decide +kernel
theorem dX3_init_109 : decode cX3_init 109 = .ok (.bipush 20, 2) := by decide +kernel
theorem dX3_init_111 : decode cX3_init 111 = .ok (.newarray .int, 2) := by decide +kernel
theorem dX3_init_113 : decode cX3_init 113 = .ok (.putfield 52, 3) := by decide +kernel
theorem dX3_init_116 : decode cX3_init 116 = .ok (.return_, 1) := by decide +kernel
theorem dX3_addHall_0 : decode cX3_addHall 0 = .ok (.iload_n 1, 1) := by decide +kernel
theorem dX3_addHall_1 : decode cX3_addHall 1 = .ok (.iconst 0, 1) := by decide +kernel
theorem dX3_addHall_2 : decode cX3_addHall 2 = .ok (.iconst 3, 1) := by decide +kernel
theorem dX3_addHall_3 : decode cX3_addHall 3 = .ok (.invokestatic 55, 3) := by decide +kernel
theorem dX3_addHall_6 : decode cX3_addHall 6 = .ok (.ifCond .eq 28, 3) := by decide +kernel
theorem dX3_addHall_9 : decode cX3_addHall 9 = .ok (.iload_n 2, 1) := by decide +kernel
theorem dX3_addHall_10 : decode cX3_addHall 10 = .ok (.bipush 10, 2) := by decide +kernel
theorem dX3_addHall_12 : decode cX3_addHall 12 = .ok (.sipush 999, 3) := by decide +kernel
theorem dX3_addHall_15 : decode cX3_addHall 15 = .ok (.invokestatic 55, 3) := by decide +kernel
theorem dX3_addHall_18 : decode cX3_addHall 18 = .ok (.ifCond .eq 16, 3) := by decide +kernel
theorem dX3_addHall_21 : decode cX3_addHall 21 = .ok (.iload_n 3, 1) := by decide +kernel
theorem dX3_addHall_22 : decode cX3_addHall 22 = .ok (.iload 4, 2) := by decide +kernel
theorem dX3_addHall_24 : decode cX3_addHall 24 = .ok (.invokestatic 59, 3) := by decide +kernel
theorem dX3_addHall_27 : decode cX3_addHall 27 = .ok (.ifCond .eq 7, 3) := by decide +kernel
theorem dX3_addHall_30 : decode cX3_addHall 30 = .ok (.iconst 1, 1) := by decide +kernel
theorem dX3_addHall_31 : decode cX3_addHall 31 = .ok (.goto 4, 3) := by decide +kernel
theorem dX3_addHall_34 : decode cX3_addHall 34 = .ok (.iconst 0, 1) := by decide +kernel
theorem dX3_addHall_35 : decode cX3_addHall 35 = .ok (.istore 5, 2) := by decide +kernel
theorem dX3_addHall_37 : decode cX3_addHall 37 = .ok (.iload 5, 2) := by decide +kernel
theorem dX3_addHall_39 : decode cX3_addHall 39 = .ok (.ifCond .eq 12, 3) := by decide +kernel
theorem dX3_addHall_42 : decode cX3_addHall 42 = .ok (.aload_n 0, 1) := by decide +kernel
theorem dX3_addHall_43 : decode cX3_addHall 43 = .ok (.getfield 63, 3) := by decide +kernel
theorem dX3_addHall_46 : decode cX3_addHall 46 = .ok (.bipush 16, 2) := by decide +kernel
theorem dX3_addHall_48 : decode cX3_addHall 48 = .ok (.if_icmp .lt 5, 3) := by decide +kernel
theorem dX3_addHall_51 : decode cX3_addHall 51 = .ok (.iconst (-1), 1) := by decide +kernel
theorem dX3_addHall_52 : decode cX3_addHall 52 = .ok (.ireturn, 1) := by decide +kernel
theorem dX3_addHall_53 : decode cX3_addHall 53 = .ok (.aload_n 0, 1) := by decide +kernel
theorem dX3_addHall_54 : decode cX3_addHall 54 = .ok (.getfield 9, 3) := by decide +kernel
theorem dX3_addHall_57 : decode cX3_addHall 57 = .ok (.aload_n 0, 1) := by decide +kernel
theorem dX3_addHall_58 : decode cX3_addHall 58 = .ok (.getfield 63, 3) := by decide +kernel
theorem dX3_addHall_61 : decode cX3_addHall 61 = .ok (.iload_n 1, 1) := by decide +kernel
theorem dX3_addHall_62 : decode cX3_addHall 62 = .ok (.iastore, 1) := by decide +kernel
theorem dX3_addHall_63 : decode cX3_addHall 63 = .ok (.aload_n 0, 1) := by decide +kernel
theorem dX3_addHall_64 : decode cX3_addHall 64 = .ok (.getfield 15, 3) := by decide +kernel
theorem dX3_addHall_67 : decode cX3_addHall 67 = .ok (.aload_n 0, 1) := by decide +kernel
theorem dX3_addHall_68 : decode cX3_addHall 68 = .ok (.getfield 63, 3) := by decide +kernel
theorem dX3_addHall_71 : decode cX3_addHall 71 = .ok (.iload_n 2, 1) := by decide +kernel
theorem dX3_addHall_72 : decode cX3_addHall 72 = .ok (.iastore, 1) := by decide +kernel
theorem dX3_addHall_73 : decode cX3_addHall 73 = .ok (.aload_n 0, 1) := by decide +kernel
theorem dX3_addHall_74 : decode cX3_addHall 74 = .ok (.getfield 18, 3) := by decide +kernel
theorem dX3_addHall_77 : decode cX3_addHall 77 = .ok (.aload_n 0, 1) := by decide +kernel
theorem dX3_addHall_78 : decode cX3_addHall 78 = .ok (.getfield 63, 3) := by decide +kernel
theorem dX3_addHall_81 : decode cX3_addHall 81 = .ok (.iload_n 3, 1) := by decide +kernel
theorem dX3_addHall_82 : decode cX3_addHall 82 = .ok (.iastore, 1) := by decide +kernel
theorem dX3_addHall_83 : decode cX3_addHall 83 = .ok (.aload_n 0, 1) := by decide +kernel
theorem dX3_addHall_84 : decode cX3_addHall 84 = .ok (.getfield 21, 3) := by decide +kernel
theorem dX3_addHall_87 : decode cX3_addHall 87 = .ok (.aload_n 0, 1) := by decide +kernel
theorem dX3_addHall_88 : decode cX3_addHall 88 = .ok (.getfield 63, 3) := by decide +kernel
theorem dX3_addHall_91 : decode cX3_addHall 91 = .ok (.iload 4, 2) := by decide +kernel
theorem dX3_addHall_93 : decode cX3_addHall 93 = .ok (.iastore, 1) := by decide +kernel
theorem dX3_addHall_94 : decode cX3_addHall 94 = .ok (.aload_n 0, 1) := by decide +kernel
theorem dX3_addHall_95 : decode cX3_addHall 95 = .ok (.getfield 37, 3) := by decide +kernel
theorem dX3_addHall_98 : decode cX3_addHall 98 = .ok (.aload_n 0, 1) := by decide +kernel
theorem dX3_addHall_99 : decode cX3_addHall 99 = .ok (.getfield 63, 3) := by decide +kernel
theorem dX3_addHall_102 : decode cX3_addHall 102 = .ok (.iconst (-1), 1) := by decide +kernel
theorem dX3_addHall_103 : decode cX3_addHall 103 = .ok (.iastore, 1) := by decide +kernel
theorem dX3_addHall_104 : decode cX3_addHall 104 = .ok (.aload_n 0, 1) := by decide +kernel
theorem dX3_addHall_105 : decode cX3_addHall 105 = .ok (.getfield 40, 3) := by decide +kernel
theorem dX3_addHall_108 : decode cX3_addHall 108 = .ok (.aload_n 0, 1) := by decide +kernel
theorem dX3_addHall_109 : decode cX3_addHall 109 = .ok (.getfield 63, 3) := by decide +kernel
theorem dX3_addHall_112 : decode cX3_addHall 112 = .ok (.iconst (-1), 1) := by decide +kernel
theorem dX3_addHall_113 : decode cX3_addHall 113 = .ok (.iastore, 1) := by decide +kernel
theorem dX3_addHall_114 : decode cX3_addHall 114 = .ok (.aload_n 0, 1) := by decide +kernel
theorem dX3_addHall_115 : decode cX3_addHall 115 = .ok (.dup, 1) := by decide +kernel
theorem dX3_addHall_116 : decode cX3_addHall 116 = .ok (.getfield 63, 3) := by decide +kernel
theorem dX3_addHall_119 : decode cX3_addHall 119 = .ok (.iconst 1, 1) := by decide +kernel
theorem dX3_addHall_120 : decode cX3_addHall 120 = .ok (.iadd, 1) := by decide +kernel
theorem dX3_addHall_121 : decode cX3_addHall 121 = .ok (.putfield 63, 3) := by decide +kernel
theorem dX3_addHall_124 : decode cX3_addHall 124 = .ok (.aload_n 0, 1) := by decide +kernel
theorem dX3_addHall_125 : decode cX3_addHall 125 = .ok (.getfield 63, 3) := by decide +kernel
theorem dX3_addHall_128 : decode cX3_addHall 128 = .ok (.iconst 1, 1) := by decide +kernel
theorem dX3_addHall_129 : decode cX3_addHall 129 = .ok (.isub, 1) := by decide +kernel
theorem dX3_addHall_130 : decode cX3_addHall 130 = .ok (.ireturn, 1) := by decide +kernel
theorem dX3_canAsk_0 : decode cX3_canAsk 0 = .ok (.iload_n 0, 1) := by decide +kernel
theorem dX3_canAsk_1 : decode cX3_canAsk 1 = .ok (.iconst 1, 1) := by decide +kernel
theorem dX3_canAsk_2 : decode cX3_canAsk 2 = .ok (.bipush 99, 2) := by decide +kernel
theorem dX3_canAsk_4 : decode cX3_canAsk 4 = .ok (.invokestatic 55, 3) := by decide +kernel
theorem dX3_canAsk_7 : decode cX3_canAsk 7 = .ok (.ifCond .eq 17, 3) := by decide +kernel
theorem dX3_canAsk_10 : decode cX3_canAsk 10 = .ok (.iload_n 1, 1) := by decide +kernel
theorem dX3_canAsk_11 : decode cX3_canAsk 11 = .ok (.iconst 0, 1) := by decide +kernel
theorem dX3_canAsk_12 : decode cX3_canAsk 12 = .ok (.bipush 40, 2) := by decide +kernel
theorem dX3_canAsk_14 : decode cX3_canAsk 14 = .ok (.invokestatic 55, 3) := by decide +kernel
theorem dX3_canAsk_17 : decode cX3_canAsk 17 = .ok (.ifCond .eq 7, 3) := by decide +kernel
theorem dX3_canAsk_20 : decode cX3_canAsk 20 = .ok (.iconst 1, 1) := by decide +kernel
theorem dX3_canAsk_21 : decode cX3_canAsk 21 = .ok (.goto 4, 3) := by decide +kernel
theorem dX3_canAsk_24 : decode cX3_canAsk 24 = .ok (.iconst 0, 1) := by decide +kernel
theorem dX3_canAsk_25 : decode cX3_canAsk 25 = .ok (.ireturn, 1) := by decide +kernel
theorem dX3_demand_0 : decode cX3_demand 0 = .ok (.aload_n 0, 1) := by decide +kernel
theorem dX3_demand_1 : decode cX3_demand 1 = .ok (.iload_n 1, 1) := by decide +kernel
theorem dX3_demand_2 : decode cX3_demand 2 = .ok (.invokevirtual 67, 3) := by decide +kernel
theorem dX3_demand_5 : decode cX3_demand 5 = .ok (.ifCond .eq 11, 3) := by decide +kernel
theorem dX3_demand_8 : decode cX3_demand 8 = .ok (.iload_n 2, 1) := by decide +kernel
theorem dX3_demand_9 : decode cX3_demand 9 = .ok (.iload_n 3, 1) := by decide +kernel
theorem dX3_demand_10 : decode cX3_demand 10 = .ok (.invokestatic 59, 3) := by decide +kernel
theorem dX3_demand_13 : decode cX3_demand 13 = .ok (.ifCond .ne 5, 3) := by decide +kernel
theorem dX3_demand_16 : decode cX3_demand 16 = .ok (.iconst 0, 1) := by decide +kernel
theorem dX3_demand_17 : decode cX3_demand 17 = .ok (.ireturn, 1) := by decide +kernel
theorem dX3_demand_18 : decode cX3_demand 18 = .ok (.aload_n 0, 1) := by decide +kernel
theorem dX3_demand_19 : decode cX3_demand 19 = .ok (.getfield 18, 3) := by decide +kernel
theorem dX3_demand_22 : decode cX3_demand 22 = .ok (.iload_n 1, 1) := by decide +kernel
theorem dX3_demand_23 : decode cX3_demand 23 = .ok (.iload_n 2, 1) := by decide +kernel
theorem dX3_demand_24 : decode cX3_demand 24 = .ok (.iastore, 1) := by decide +kernel
theorem dX3_demand_25 : decode cX3_demand 25 = .ok (.aload_n 0, 1) := by decide +kernel
theorem dX3_demand_26 : decode cX3_demand 26 = .ok (.getfield 21, 3) := by decide +kernel
theorem dX3_demand_29 : decode cX3_demand 29 = .ok (.iload_n 1, 1) := by decide +kernel
theorem dX3_demand_30 : decode cX3_demand 30 = .ok (.iload_n 3, 1) := by decide +kernel
theorem dX3_demand_31 : decode cX3_demand 31 = .ok (.iastore, 1) := by decide +kernel
theorem dX3_demand_32 : decode cX3_demand 32 = .ok (.iconst 1, 1) := by decide +kernel
theorem dX3_demand_33 : decode cX3_demand 33 = .ok (.ireturn, 1) := by decide +kernel
theorem dX3_addSet_0 : decode cX3_addSet 0 = .ok (.iload_n 1, 1) := by decide +kernel
theorem dX3_addSet_1 : decode cX3_addSet 1 = .ok (.iconst 0, 1) := by decide +kernel
theorem dX3_addSet_2 : decode cX3_addSet 2 = .ok (.iconst 2, 1) := by decide +kernel
theorem dX3_addSet_3 : decode cX3_addSet 3 = .ok (.invokestatic 55, 3) := by decide +kernel
theorem dX3_addSet_6 : decode cX3_addSet 6 = .ok (.ifCond .eq 27, 3) := by decide +kernel
theorem dX3_addSet_9 : decode cX3_addSet 9 = .ok (.iload_n 2, 1) := by decide +kernel
theorem dX3_addSet_10 : decode cX3_addSet 10 = .ok (.iconst 1, 1) := by decide +kernel
theorem dX3_addSet_11 : decode cX3_addSet 11 = .ok (.bipush 7, 2) := by decide +kernel
theorem dX3_addSet_13 : decode cX3_addSet 13 = .ok (.invokestatic 55, 3) := by decide +kernel
theorem dX3_addSet_16 : decode cX3_addSet 16 = .ok (.ifCond .eq 17, 3) := by decide +kernel
theorem dX3_addSet_19 : decode cX3_addSet 19 = .ok (.iload_n 3, 1) := by decide +kernel
theorem dX3_addSet_20 : decode cX3_addSet 20 = .ok (.iconst 0, 1) := by decide +kernel
theorem dX3_addSet_21 : decode cX3_addSet 21 = .ok (.bipush 99, 2) := by decide +kernel
theorem dX3_addSet_23 : decode cX3_addSet 23 = .ok (.invokestatic 55, 3) := by decide +kernel
theorem dX3_addSet_26 : decode cX3_addSet 26 = .ok (.ifCond .eq 7, 3) := by decide +kernel
theorem dX3_addSet_29 : decode cX3_addSet 29 = .ok (.iconst 1, 1) := by decide +kernel
theorem dX3_addSet_30 : decode cX3_addSet 30 = .ok (.goto 4, 3) := by decide +kernel
theorem dX3_addSet_33 : decode cX3_addSet 33 = .ok (.iconst 0, 1) := by decide +kernel
theorem dX3_addSet_34 : decode cX3_addSet 34 = .ok (.istore 4, 2) := by decide +kernel
theorem dX3_addSet_36 : decode cX3_addSet 36 = .ok (.iload 4, 2) := by decide +kernel
theorem dX3_addSet_38 : decode cX3_addSet 38 = .ok (.ifCond .eq 12, 3) := by decide +kernel
theorem dX3_addSet_41 : decode cX3_addSet 41 = .ok (.aload_n 0, 1) := by decide +kernel
theorem dX3_addSet_42 : decode cX3_addSet 42 = .ok (.getfield 71, 3) := by decide +kernel
theorem dX3_addSet_45 : decode cX3_addSet 45 = .ok (.bipush 20, 2) := by decide +kernel
theorem dX3_addSet_47 : decode cX3_addSet 47 = .ok (.if_icmp .lt 5, 3) := by decide +kernel
theorem dX3_addSet_50 : decode cX3_addSet 50 = .ok (.iconst (-1), 1) := by decide +kernel
theorem dX3_addSet_51 : decode cX3_addSet 51 = .ok (.ireturn, 1) := by decide +kernel
theorem dX3_addSet_52 : decode cX3_addSet 52 = .ok (.aload_n 0, 1) := by decide +kernel
theorem dX3_addSet_53 : decode cX3_addSet 53 = .ok (.getfield 43, 3) := by decide +kernel
theorem dX3_addSet_56 : decode cX3_addSet 56 = .ok (.aload_n 0, 1) := by decide +kernel
theorem dX3_addSet_57 : decode cX3_addSet 57 = .ok (.getfield 71, 3) := by decide +kernel
theorem dX3_addSet_60 : decode cX3_addSet 60 = .ok (.iload_n 1, 1) := by decide +kernel
theorem dX3_addSet_61 : decode cX3_addSet 61 = .ok (.iastore, 1) := by decide +kernel
theorem dX3_addSet_62 : decode cX3_addSet 62 = .ok (.aload_n 0, 1) := by decide +kernel
theorem dX3_addSet_63 : decode cX3_addSet 63 = .ok (.getfield 46, 3) := by decide +kernel
theorem dX3_addSet_66 : decode cX3_addSet 66 = .ok (.aload_n 0, 1) := by decide +kernel
theorem dX3_addSet_67 : decode cX3_addSet 67 = .ok (.getfield 71, 3) := by decide +kernel
theorem dX3_addSet_70 : decode cX3_addSet 70 = .ok (.iload_n 2, 1) := by decide +kernel
theorem dX3_addSet_71 : decode cX3_addSet 71 = .ok (.iastore, 1) := by decide +kernel
theorem dX3_addSet_72 : decode cX3_addSet 72 = .ok (.aload_n 0, 1) := by decide +kernel
theorem dX3_addSet_73 : decode cX3_addSet 73 = .ok (.getfield 49, 3) := by decide +kernel
theorem dX3_addSet_76 : decode cX3_addSet 76 = .ok (.aload_n 0, 1) := by decide +kernel
theorem dX3_addSet_77 : decode cX3_addSet 77 = .ok (.getfield 71, 3) := by decide +kernel
theorem dX3_addSet_80 : decode cX3_addSet 80 = .ok (.iload_n 3, 1) := by decide +kernel
theorem dX3_addSet_81 : decode cX3_addSet 81 = .ok (.iastore, 1) := by decide +kernel
theorem dX3_addSet_82 : decode cX3_addSet 82 = .ok (.aload_n 0, 1) := by decide +kernel
theorem dX3_addSet_83 : decode cX3_addSet 83 = .ok (.getfield 52, 3) := by decide +kernel
theorem dX3_addSet_86 : decode cX3_addSet 86 = .ok (.aload_n 0, 1) := by decide +kernel
theorem dX3_addSet_87 : decode cX3_addSet 87 = .ok (.getfield 71, 3) := by decide +kernel
theorem dX3_addSet_90 : decode cX3_addSet 90 = .ok (.iconst (-1), 1) := by decide +kernel
theorem dX3_addSet_91 : decode cX3_addSet 91 = .ok (.iastore, 1) := by decide +kernel
theorem dX3_addSet_92 : decode cX3_addSet 92 = .ok (.aload_n 0, 1) := by decide +kernel
theorem dX3_addSet_93 : decode cX3_addSet 93 = .ok (.dup, 1) := by decide +kernel
theorem dX3_addSet_94 : decode cX3_addSet 94 = .ok (.getfield 71, 3) := by decide +kernel
theorem dX3_addSet_97 : decode cX3_addSet 97 = .ok (.iconst 1, 1) := by decide +kernel
theorem dX3_addSet_98 : decode cX3_addSet 98 = .ok (.iadd, 1) := by decide +kernel
theorem dX3_addSet_99 : decode cX3_addSet 99 = .ok (.putfield 71, 3) := by decide +kernel
theorem dX3_addSet_102 : decode cX3_addSet 102 = .ok (.aload_n 0, 1) := by decide +kernel
theorem dX3_addSet_103 : decode cX3_addSet 103 = .ok (.getfield 71, 3) := by decide +kernel
theorem dX3_addSet_106 : decode cX3_addSet 106 = .ok (.iconst 1, 1) := by decide +kernel
theorem dX3_addSet_107 : decode cX3_addSet 107 = .ok (.isub, 1) := by decide +kernel
theorem dX3_addSet_108 : decode cX3_addSet 108 = .ok (.ireturn, 1) := by decide +kernel
theorem dX3_hasHall_0 : decode cX3_hasHall 0 = .ok (.iload_n 1, 1) := by decide +kernel
theorem dX3_hasHall_1 : decode cX3_hasHall 1 = .ok (.ifCond .lt 15, 3) := by decide +kernel
theorem dX3_hasHall_4 : decode cX3_hasHall 4 = .ok (.iload_n 1, 1) := by decide +kernel
theorem dX3_hasHall_5 : decode cX3_hasHall 5 = .ok (.aload_n 0, 1) := by decide +kernel
theorem dX3_hasHall_6 : decode cX3_hasHall 6 = .ok (.getfield 63, 3) := by decide +kernel
theorem dX3_hasHall_9 : decode cX3_hasHall 9 = .ok (.if_icmp .ge 7, 3) := by decide +kernel
theorem dX3_hasHall_12 : decode cX3_hasHall 12 = .ok (.iconst 1, 1) := by decide +kernel
theorem dX3_hasHall_13 : decode cX3_hasHall 13 = .ok (.goto 4, 3) := by decide +kernel
theorem dX3_hasHall_16 : decode cX3_hasHall 16 = .ok (.iconst 0, 1) := by decide +kernel
theorem dX3_hasHall_17 : decode cX3_hasHall 17 = .ok (.ireturn, 1) := by decide +kernel
theorem dX3_hasSet_0 : decode cX3_hasSet 0 = .ok (.iload_n 1, 1) := by decide +kernel
theorem dX3_hasSet_1 : decode cX3_hasSet 1 = .ok (.ifCond .lt 15, 3) := by decide +kernel
theorem dX3_hasSet_4 : decode cX3_hasSet 4 = .ok (.iload_n 1, 1) := by decide +kernel
theorem dX3_hasSet_5 : decode cX3_hasSet 5 = .ok (.aload_n 0, 1) := by decide +kernel
theorem dX3_hasSet_6 : decode cX3_hasSet 6 = .ok (.getfield 71, 3) := by decide +kernel
theorem dX3_hasSet_9 : decode cX3_hasSet 9 = .ok (.if_icmp .ge 7, 3) := by decide +kernel
theorem dX3_hasSet_12 : decode cX3_hasSet 12 = .ok (.iconst 1, 1) := by decide +kernel
theorem dX3_hasSet_13 : decode cX3_hasSet 13 = .ok (.goto 4, 3) := by decide +kernel
theorem dX3_hasSet_16 : decode cX3_hasSet 16 = .ok (.iconst 0, 1) := by decide +kernel
theorem dX3_hasSet_17 : decode cX3_hasSet 17 = .ok (.ireturn, 1) := by decide +kernel
theorem dX3_goesTo_0 : decode cX3_goesTo 0 = .ok (.iload_n 1, 1) := by decide +kernel
theorem dX3_goesTo_1 : decode cX3_goesTo 1 = .ok (.iconst (-1), 1) := by decide +kernel
theorem dX3_goesTo_2 : decode cX3_goesTo 2 = .ok (.if_icmp .eq 11, 3) := by decide +kernel
theorem dX3_goesTo_5 : decode cX3_goesTo 5 = .ok (.aload_n 0, 1) := by decide +kernel
theorem dX3_goesTo_6 : decode cX3_goesTo 6 = .ok (.iload_n 1, 1) := by decide +kernel
theorem dX3_goesTo_7 : decode cX3_goesTo 7 = .ok (.invokevirtual 67, 3) := by decide +kernel
theorem dX3_goesTo_10 : decode cX3_goesTo 10 = .ok (.ifCond .eq 7, 3) := by decide +kernel
theorem dX3_goesTo_13 : decode cX3_goesTo 13 = .ok (.iconst 1, 1) := by decide +kernel
theorem dX3_goesTo_14 : decode cX3_goesTo 14 = .ok (.goto 4, 3) := by decide +kernel
theorem dX3_goesTo_17 : decode cX3_goesTo 17 = .ok (.iconst 0, 1) := by decide +kernel
theorem dX3_goesTo_18 : decode cX3_goesTo 18 = .ok (.ireturn, 1) := by decide +kernel
theorem dX3_move_0 : decode cX3_move 0 = .ok (.aload_n 2, 1) := by decide +kernel
theorem dX3_move_1 : decode cX3_move 1 = .ok (.iload_n 0, 1) := by decide +kernel
theorem dX3_move_2 : decode cX3_move 2 = .ok (.iaload, 1) := by decide +kernel
theorem dX3_move_3 : decode cX3_move 3 = .ok (.istore 4, 2) := by decide +kernel
theorem dX3_move_5 : decode cX3_move 5 = .ok (.iload 4, 2) := by decide +kernel
theorem dX3_move_7 : decode cX3_move 7 = .ok (.iload_n 1, 1) := by decide +kernel
theorem dX3_move_8 : decode cX3_move 8 = .ok (.if_icmp .eq 15, 3) := by decide +kernel
theorem dX3_move_11 : decode cX3_move 11 = .ok (.iload_n 1, 1) := by decide +kernel
theorem dX3_move_12 : decode cX3_move 12 = .ok (.iconst (-1), 1) := by decide +kernel
theorem dX3_move_13 : decode cX3_move 13 = .ok (.if_icmp .eq 12, 3) := by decide +kernel
theorem dX3_move_16 : decode cX3_move 16 = .ok (.aload_n 3, 1) := by decide +kernel
theorem dX3_move_17 : decode cX3_move 17 = .ok (.iload_n 1, 1) := by decide +kernel
theorem dX3_move_18 : decode cX3_move 18 = .ok (.iaload, 1) := by decide +kernel
theorem dX3_move_19 : decode cX3_move 19 = .ok (.iconst (-1), 1) := by decide +kernel
theorem dX3_move_20 : decode cX3_move 20 = .ok (.if_icmp .eq 5, 3) := by decide +kernel
theorem dX3_move_23 : decode cX3_move 23 = .ok (.iconst 0, 1) := by decide +kernel
theorem dX3_move_24 : decode cX3_move 24 = .ok (.ireturn, 1) := by decide +kernel
theorem dX3_move_25 : decode cX3_move 25 = .ok (.iload 4, 2) := by decide +kernel
theorem dX3_move_27 : decode cX3_move 27 = .ok (.iconst (-1), 1) := by decide +kernel
theorem dX3_move_28 : decode cX3_move 28 = .ok (.if_icmp .eq 8, 3) := by decide +kernel
theorem dX3_move_31 : decode cX3_move 31 = .ok (.aload_n 3, 1) := by decide +kernel
theorem dX3_move_32 : decode cX3_move 32 = .ok (.iload 4, 2) := by decide +kernel
theorem dX3_move_34 : decode cX3_move 34 = .ok (.iconst (-1), 1) := by decide +kernel
theorem dX3_move_35 : decode cX3_move 35 = .ok (.iastore, 1) := by decide +kernel
theorem dX3_move_36 : decode cX3_move 36 = .ok (.iload_n 1, 1) := by decide +kernel
theorem dX3_move_37 : decode cX3_move 37 = .ok (.iconst (-1), 1) := by decide +kernel
theorem dX3_move_38 : decode cX3_move 38 = .ok (.if_icmp .eq 7, 3) := by decide +kernel
theorem dX3_move_41 : decode cX3_move 41 = .ok (.aload_n 3, 1) := by decide +kernel
theorem dX3_move_42 : decode cX3_move 42 = .ok (.iload_n 1, 1) := by decide +kernel
theorem dX3_move_43 : decode cX3_move 43 = .ok (.iload_n 0, 1) := by decide +kernel
theorem dX3_move_44 : decode cX3_move 44 = .ok (.iastore, 1) := by decide +kernel
theorem dX3_move_45 : decode cX3_move 45 = .ok (.aload_n 2, 1) := by decide +kernel
theorem dX3_move_46 : decode cX3_move 46 = .ok (.iload_n 0, 1) := by decide +kernel
theorem dX3_move_47 : decode cX3_move 47 = .ok (.iload_n 1, 1) := by decide +kernel
theorem dX3_move_48 : decode cX3_move 48 = .ok (.iastore, 1) := by decide +kernel
theorem dX3_move_49 : decode cX3_move 49 = .ok (.iconst 1, 1) := by decide +kernel
theorem dX3_move_50 : decode cX3_move 50 = .ok (.ireturn, 1) := by decide +kernel
theorem dX3_canPlay_0 : decode cX3_canPlay 0 = .ok (.aload_n 0, 1) := by decide +kernel
theorem dX3_canPlay_1 : decode cX3_canPlay 1 = .ok (.getfield 37, 3) := by decide +kernel
theorem dX3_canPlay_4 : decode cX3_canPlay 4 = .ok (.iload_n 1, 1) := by decide +kernel
theorem dX3_canPlay_5 : decode cX3_canPlay 5 = .ok (.iaload, 1) := by decide +kernel
theorem dX3_canPlay_6 : decode cX3_canPlay 6 = .ok (.istore_n 3, 1) := by decide +kernel
theorem dX3_canPlay_7 : decode cX3_canPlay 7 = .ok (.aload_n 0, 1) := by decide +kernel
theorem dX3_canPlay_8 : decode cX3_canPlay 8 = .ok (.iload_n 3, 1) := by decide +kernel
theorem dX3_canPlay_9 : decode cX3_canPlay 9 = .ok (.invokevirtual 74, 3) := by decide +kernel
theorem dX3_canPlay_12 : decode cX3_canPlay 12 = .ok (.ifCond .eq 20, 3) := by decide +kernel
theorem dX3_canPlay_15 : decode cX3_canPlay 15 = .ok (.aload_n 0, 1) := by decide +kernel
theorem dX3_canPlay_16 : decode cX3_canPlay 16 = .ok (.getfield 46, 3) := by decide +kernel
theorem dX3_canPlay_19 : decode cX3_canPlay 19 = .ok (.iload_n 3, 1) := by decide +kernel
theorem dX3_canPlay_20 : decode cX3_canPlay 20 = .ok (.iaload, 1) := by decide +kernel
theorem dX3_canPlay_21 : decode cX3_canPlay 21 = .ok (.iload_n 2, 1) := by decide +kernel
theorem dX3_canPlay_22 : decode cX3_canPlay 22 = .ok (.invokestatic 77, 3) := by decide +kernel
theorem dX3_canPlay_25 : decode cX3_canPlay 25 = .ok (.ifCond .eq 7, 3) := by decide +kernel
theorem dX3_canPlay_28 : decode cX3_canPlay 28 = .ok (.iconst 1, 1) := by decide +kernel
theorem dX3_canPlay_29 : decode cX3_canPlay 29 = .ok (.goto 4, 3) := by decide +kernel
theorem dX3_canPlay_32 : decode cX3_canPlay 32 = .ok (.iconst 0, 1) := by decide +kernel
theorem dX3_canPlay_33 : decode cX3_canPlay 33 = .ok (.ireturn, 1) := by decide +kernel
theorem dX3_places_0 : decode cX3_places 0 = .ok (.bipush 7, 2) := by decide +kernel
theorem dX3_places_2 : decode cX3_places 2 = .ok (.aload_n 0, 1) := by decide +kernel
theorem dX3_places_3 : decode cX3_places 3 = .ok (.getfield 15, 3) := by decide +kernel
theorem dX3_places_6 : decode cX3_places 6 = .ok (.iload_n 1, 1) := by decide +kernel
theorem dX3_places_7 : decode cX3_places 7 = .ok (.iaload, 1) := by decide +kernel
theorem dX3_places_8 : decode cX3_places 8 = .ok (.imul, 1) := by decide +kernel
theorem dX3_places_9 : decode cX3_places 9 = .ok (.aload_n 0, 1) := by decide +kernel
theorem dX3_places_10 : decode cX3_places 10 = .ok (.getfield 28, 3) := by decide +kernel
theorem dX3_places_13 : decode cX3_places 13 = .ok (.iload_n 1, 1) := by decide +kernel
theorem dX3_places_14 : decode cX3_places 14 = .ok (.iaload, 1) := by decide +kernel
theorem dX3_places_15 : decode cX3_places 15 = .ok (.isub, 1) := by decide +kernel
theorem dX3_places_16 : decode cX3_places 16 = .ok (.ireturn, 1) := by decide +kernel
theorem dX3_tell_0 : decode cX3_tell 0 = .ok (.aload_n 0, 1) := by decide +kernel
theorem dX3_tell_1 : decode cX3_tell 1 = .ok (.iload_n 1, 1) := by decide +kernel
theorem dX3_tell_2 : decode cX3_tell 2 = .ok (.invokevirtual 67, 3) := by decide +kernel
theorem dX3_tell_5 : decode cX3_tell 5 = .ok (.ifCond .ne 7, 3) := by decide +kernel
theorem dX3_tell_8 : decode cX3_tell 8 = .ok (.ldc2_w 80, 3) := by decide +kernel
theorem dX3_tell_11 : decode cX3_tell 11 = .ok (.lreturn, 1) := by decide +kernel
theorem dX3_tell_12 : decode cX3_tell 12 = .ok (.iload_n 2, 1) := by decide +kernel
theorem dX3_tell_13 : decode cX3_tell 13 = .ok (.tableswitch 86 0 5 #[39, 46, 54, 62, 70, 78], 39) := by decide +kernel
theorem dX3_tell_52 : decode cX3_tell 52 = .ok (.aload_n 0, 1) := by decide +kernel
theorem dX3_tell_53 : decode cX3_tell 53 = .ok (.getfield 24, 3) := by decide +kernel
theorem dX3_tell_56 : decode cX3_tell 56 = .ok (.iload_n 1, 1) := by decide +kernel
theorem dX3_tell_57 : decode cX3_tell 57 = .ok (.laload, 1) := by decide +kernel
theorem dX3_tell_58 : decode cX3_tell 58 = .ok (.lreturn, 1) := by decide +kernel
theorem dX3_tell_59 : decode cX3_tell 59 = .ok (.aload_n 0, 1) := by decide +kernel
theorem dX3_tell_60 : decode cX3_tell 60 = .ok (.getfield 28, 3) := by decide +kernel
theorem dX3_tell_63 : decode cX3_tell 63 = .ok (.iload_n 1, 1) := by decide +kernel
theorem dX3_tell_64 : decode cX3_tell 64 = .ok (.iaload, 1) := by decide +kernel
theorem dX3_tell_65 : decode cX3_tell 65 = .ok (.i2l, 1) := by decide +kernel
theorem dX3_tell_66 : decode cX3_tell 66 = .ok (.lreturn, 1) := by decide +kernel
theorem dX3_tell_67 : decode cX3_tell 67 = .ok (.aload_n 0, 1) := by decide +kernel
theorem dX3_tell_68 : decode cX3_tell 68 = .ok (.getfield 31, 3) := by decide +kernel
theorem dX3_tell_71 : decode cX3_tell 71 = .ok (.iload_n 1, 1) := by decide +kernel
theorem dX3_tell_72 : decode cX3_tell 72 = .ok (.iaload, 1) := by decide +kernel
theorem dX3_tell_73 : decode cX3_tell 73 = .ok (.i2l, 1) := by decide +kernel
theorem dX3_tell_74 : decode cX3_tell 74 = .ok (.lreturn, 1) := by decide +kernel
theorem dX3_tell_75 : decode cX3_tell 75 = .ok (.aload_n 0, 1) := by decide +kernel
theorem dX3_tell_76 : decode cX3_tell 76 = .ok (.getfield 37, 3) := by decide +kernel
theorem dX3_tell_79 : decode cX3_tell 79 = .ok (.iload_n 1, 1) := by decide +kernel
theorem dX3_tell_80 : decode cX3_tell 80 = .ok (.iaload, 1) := by decide +kernel
theorem dX3_tell_81 : decode cX3_tell 81 = .ok (.i2l, 1) := by decide +kernel
theorem dX3_tell_82 : decode cX3_tell 82 = .ok (.lreturn, 1) := by decide +kernel
theorem dX3_tell_83 : decode cX3_tell 83 = .ok (.aload_n 0, 1) := by decide +kernel
theorem dX3_tell_84 : decode cX3_tell 84 = .ok (.getfield 40, 3) := by decide +kernel
theorem dX3_tell_87 : decode cX3_tell 87 = .ok (.iload_n 1, 1) := by decide +kernel
theorem dX3_tell_88 : decode cX3_tell 88 = .ok (.iaload, 1) := by decide +kernel
theorem dX3_tell_89 : decode cX3_tell 89 = .ok (.i2l, 1) := by decide +kernel
theorem dX3_tell_90 : decode cX3_tell 90 = .ok (.lreturn, 1) := by decide +kernel
theorem dX3_tell_91 : decode cX3_tell 91 = .ok (.aload_n 0, 1) := by decide +kernel
theorem dX3_tell_92 : decode cX3_tell 92 = .ok (.getfield 34, 3) := by decide +kernel
theorem dX3_tell_95 : decode cX3_tell 95 = .ok (.iload_n 1, 1) := by decide +kernel
theorem dX3_tell_96 : decode cX3_tell 96 = .ok (.iaload, 1) := by decide +kernel
theorem dX3_tell_97 : decode cX3_tell 97 = .ok (.i2l, 1) := by decide +kernel
theorem dX3_tell_98 : decode cX3_tell 98 = .ok (.lreturn, 1) := by decide +kernel
theorem dX3_tell_99 : decode cX3_tell 99 = .ok (.ldc2_w 80, 3) := by decide +kernel
theorem dX3_tell_102 : decode cX3_tell 102 = .ok (.lreturn, 1) := by decide +kernel
theorem dX3_lookersInAll_0 : decode cX3_lookersInAll 0 = .ok (.iconst 0, 1) := by decide +kernel
theorem dX3_lookersInAll_1 : decode cX3_lookersInAll 1 = .ok (.istore_n 1, 1) := by decide +kernel
theorem dX3_lookersInAll_2 : decode cX3_lookersInAll 2 = .ok (.iconst 0, 1) := by decide +kernel
theorem dX3_lookersInAll_3 : decode cX3_lookersInAll 3 = .ok (.istore_n 2, 1) := by decide +kernel
theorem dX3_lookersInAll_4 : decode cX3_lookersInAll 4 = .ok (.iload_n 2, 1) := by decide +kernel
theorem dX3_lookersInAll_5 : decode cX3_lookersInAll 5 = .ok (.aload_n 0, 1) := by decide +kernel
theorem dX3_lookersInAll_6 : decode cX3_lookersInAll 6 = .ok (.getfield 63, 3) := by decide +kernel
theorem dX3_lookersInAll_9 : decode cX3_lookersInAll 9 = .ok (.if_icmp .ge 18, 3) := by decide +kernel
theorem dX3_lookersInAll_12 : decode cX3_lookersInAll 12 = .ok (.iload_n 1, 1) := by decide +kernel
theorem dX3_lookersInAll_13 : decode cX3_lookersInAll 13 = .ok (.aload_n 0, 1) := by decide +kernel
theorem dX3_lookersInAll_14 : decode cX3_lookersInAll 14 = .ok (.getfield 34, 3) := by decide +kernel
theorem dX3_lookersInAll_17 : decode cX3_lookersInAll 17 = .ok (.iload_n 2, 1) := by decide +kernel
theorem dX3_lookersInAll_18 : decode cX3_lookersInAll 18 = .ok (.iaload, 1) := by decide +kernel
theorem dX3_lookersInAll_19 : decode cX3_lookersInAll 19 = .ok (.iadd, 1) := by decide +kernel
theorem dX3_lookersInAll_20 : decode cX3_lookersInAll 20 = .ok (.istore_n 1, 1) := by decide +kernel
theorem dX3_lookersInAll_21 : decode cX3_lookersInAll 21 = .ok (.iinc 2 1, 3) := by decide +kernel
theorem dX3_lookersInAll_24 : decode cX3_lookersInAll 24 = .ok (.goto (-20), 3) := by decide +kernel
theorem dX3_lookersInAll_27 : decode cX3_lookersInAll 27 = .ok (.iload_n 1, 1) := by decide +kernel
theorem dX3_lookersInAll_28 : decode cX3_lookersInAll 28 = .ok (.ireturn, 1) := by decide +kernel
theorem dX3_players_0 : decode cX3_players 0 = .ok (.iconst 0, 1) := by decide +kernel
theorem dX3_players_1 : decode cX3_players 1 = .ok (.istore_n 1, 1) := by decide +kernel
theorem dX3_players_2 : decode cX3_players 2 = .ok (.iconst 0, 1) := by decide +kernel
theorem dX3_players_3 : decode cX3_players 3 = .ok (.istore_n 2, 1) := by decide +kernel
theorem dX3_players_4 : decode cX3_players 4 = .ok (.iload_n 2, 1) := by decide +kernel
theorem dX3_players_5 : decode cX3_players 5 = .ok (.aload_n 0, 1) := by decide +kernel
theorem dX3_players_6 : decode cX3_players 6 = .ok (.getfield 63, 3) := by decide +kernel
theorem dX3_players_9 : decode cX3_players 9 = .ok (.if_icmp .ge 18, 3) := by decide +kernel
theorem dX3_players_12 : decode cX3_players 12 = .ok (.iload_n 1, 1) := by decide +kernel
theorem dX3_players_13 : decode cX3_players 13 = .ok (.aload_n 0, 1) := by decide +kernel
theorem dX3_players_14 : decode cX3_players 14 = .ok (.getfield 21, 3) := by decide +kernel
theorem dX3_players_17 : decode cX3_players 17 = .ok (.iload_n 2, 1) := by decide +kernel
theorem dX3_players_18 : decode cX3_players 18 = .ok (.iaload, 1) := by decide +kernel
theorem dX3_players_19 : decode cX3_players 19 = .ok (.iadd, 1) := by decide +kernel
theorem dX3_players_20 : decode cX3_players 20 = .ok (.istore_n 1, 1) := by decide +kernel
theorem dX3_players_21 : decode cX3_players 21 = .ok (.iinc 2 1, 3) := by decide +kernel
theorem dX3_players_24 : decode cX3_players 24 = .ok (.goto (-20), 3) := by decide +kernel
theorem dX3_players_27 : decode cX3_players 27 = .ok (.iload_n 1, 1) := by decide +kernel
theorem dX3_players_28 : decode cX3_players 28 = .ok (.ireturn, 1) := by decide +kernel
theorem dX4_init_0 : decode cX4_init 0 = .ok (.aload_n 0, 1) := by decide +kernel
theorem dX4_init_1 : decode cX4_init 1 = .ok (.invokespecial 3, 3) := by decide +kernel
theorem dX4_init_4 : decode cX4_init 4 = .ok (.aload_n 0, 1) := by decide +kernel
theorem dX4_init_5 : decode cX4_init 5 = .ok (.aload_n 1, 1) := by decide +kernel
theorem dX4_init_6 : decode cX4_init 6 = .ok (.putfield 9, 3) := by decide +kernel
theorem dX4_init_9 : decode cX4_init 9 = .ok (.aload_n 0, 1) := by decide +kernel
theorem dX4_init_10 : decode cX4_init 10 = .ok (.new 15, 3) := by decide +kernel
theorem dX4_init_13 : decode cX4_init 13 = .ok (.dup, 1) := by decide +kernel
theorem dX4_init_14 : decode cX4_init 14 = .ok (.invokespecial 17, 3) := by decide +kernel
theorem dX4_init_17 : decode cX4_init 17 = .ok (.putfield 18, 3) := by decide +kernel
theorem dX4_init_20 : decode cX4_init 20 = .ok (.aload_n 0, 1) := by decide +kernel
theorem dX4_init_21 : decode cX4_init 21 = .ok (.iconst 0, 1) := by decide +kernel
theorem dX4_init_22 : decode cX4_init 22 = .ok (.putfield 22, 3) := by decide +kernel
theorem dX4_init_25 : decode cX4_init 25 = .ok (.aload_n 0, 1) := by decide +kernel
theorem dX4_init_26 : decode cX4_init 26 = .ok (.iconst (-1), 1) := by decide +kernel
theorem dX4_init_27 : decode cX4_init 27 = .ok (.putfield 26, 3) := by decide +kernel
theorem dX4_init_30 : decode cX4_init 30 = .ok (.return_, 1) := by decide +kernel
theorem dX4_forget_0 : decode cX4_forget 0 = .ok (.aload_n 0, 1) := by decide +kernel
theorem dX4_forget_1 : decode cX4_forget 1 = .ok (.iconst 0, 1) := by decide +kernel
theorem dX4_forget_2 : decode cX4_forget 2 = .ok (.putfield 22, 3) := by decide +kernel
theorem dX4_forget_5 : decode cX4_forget 5 = .ok (.aload_n 0, 1) := by decide +kernel
theorem dX4_forget_6 : decode cX4_forget 6 = .ok (.iconst (-1), 1) := by decide +kernel
theorem dX4_forget_7 : decode cX4_forget 7 = .ok (.putfield 26, 3) := by decide +kernel
theorem dX4_forget_10 : decode cX4_forget 10 = .ok (.return_, 1) := by decide +kernel
theorem dX4_parse_0 : decode cX4_parse 0 = .ok (.iconst 1, 1) := by decide +kernel
theorem dX4_parse_1 : decode cX4_parse 1 = .ok (.istore_n 1, 1) := by decide +kernel
theorem dX4_parse_2 : decode cX4_parse 2 = .ok (.aload_n 0, 1) := by decide +kernel
theorem dX4_parse_3 : decode cX4_parse 3 = .ok (.getfield 9, 3) := by decide +kernel
theorem dX4_parse_6 : decode cX4_parse 6 = .ok (.invokevirtual 29, 3) := by decide +kernel
theorem dX4_parse_9 : decode cX4_parse 9 = .ok (.aload_n 0, 1) := by decide +kernel
theorem dX4_parse_10 : decode cX4_parse 10 = .ok (.getfield 18, 3) := by decide +kernel
theorem dX4_parse_13 : decode cX4_parse 13 = .ok (.invokevirtual 34, 3) := by decide +kernel
theorem dX4_parse_16 : decode cX4_parse 16 = .ok (.aload_n 0, 1) := by decide +kernel
theorem dX4_parse_17 : decode cX4_parse 17 = .ok (.iconst 0, 1) := by decide +kernel
theorem dX4_parse_18 : decode cX4_parse 18 = .ok (.putfield 37, 3) := by decide +kernel
theorem dX4_parse_21 : decode cX4_parse 21 = .ok (.iconst 0, 1) := by decide +kernel
theorem dX4_parse_22 : decode cX4_parse 22 = .ok (.istore_n 2, 1) := by decide +kernel
theorem dX4_parse_23 : decode cX4_parse 23 = .ok (.iload_n 2, 1) := by decide +kernel
theorem dX4_parse_24 : decode cX4_parse 24 = .ok (.bipush 20, 2) := by decide +kernel
theorem dX4_parse_26 : decode cX4_parse 26 = .ok (.if_icmp .gt 25, 3) := by decide +kernel
theorem dX4_parse_29 : decode cX4_parse 29 = .ok (.iload_n 1, 1) := by decide +kernel
theorem dX4_parse_30 : decode cX4_parse 30 = .ok (.ifCond .eq 21, 3) := by decide +kernel
theorem dX4_parse_33 : decode cX4_parse 33 = .ok (.aload_n 0, 1) := by decide +kernel
theorem dX4_parse_34 : decode cX4_parse 34 = .ok (.invokevirtual 40, 3) := by decide +kernel
theorem dX4_parse_37 : decode cX4_parse 37 = .ok (.ifCond .eq 14, 3) := by decide +kernel
theorem dX4_parse_40 : decode cX4_parse 40 = .ok (.aload_n 0, 1) := by decide +kernel
theorem dX4_parse_41 : decode cX4_parse 41 = .ok (.invokevirtual 44, 3) := by decide +kernel
theorem dX4_parse_44 : decode cX4_parse 44 = .ok (.istore_n 1, 1) := by decide +kernel
theorem dX4_parse_45 : decode cX4_parse 45 = .ok (.iinc 2 1, 3) := by decide +kernel
theorem dX4_parse_48 : decode cX4_parse 48 = .ok (.goto (-25), 3) := by decide +kernel
theorem dX4_parse_51 : decode cX4_parse 51 = .ok (.iload_n 1, 1) := by decide +kernel
theorem dX4_parse_52 : decode cX4_parse 52 = .ok (.ireturn, 1) := by decide +kernel
theorem dX4_sign_0 : decode cX4_sign 0 = .ok (.aload_n 0, 1) := by decide +kernel
theorem dX4_sign_1 : decode cX4_sign 1 = .ok (.getfield 37, 3) := by decide +kernel
theorem dX4_sign_4 : decode cX4_sign 4 = .ok (.aload_n 0, 1) := by decide +kernel
theorem dX4_sign_5 : decode cX4_sign 5 = .ok (.getfield 9, 3) := by decide +kernel
theorem dX4_sign_8 : decode cX4_sign 8 = .ok (.getfield 48, 3) := by decide +kernel
theorem dX4_sign_11 : decode cX4_sign 11 = .ok (.if_icmp .ge 18, 3) := by decide +kernel
theorem dX4_sign_14 : decode cX4_sign 14 = .ok (.aload_n 0, 1) := by decide +kernel
theorem dX4_sign_15 : decode cX4_sign 15 = .ok (.getfield 9, 3) := by decide +kernel
theorem dX4_sign_18 : decode cX4_sign 18 = .ok (.getfield 51, 3) := by decide +kernel
theorem dX4_sign_21 : decode cX4_sign 21 = .ok (.aload_n 0, 1) := by decide +kernel
theorem dX4_sign_22 : decode cX4_sign 22 = .ok (.getfield 37, 3) := by decide +kernel
theorem dX4_sign_25 : decode cX4_sign 25 = .ok (.iaload, 1) := by decide +kernel
theorem dX4_sign_26 : decode cX4_sign 26 = .ok (.goto 4, 3) := by decide +kernel
theorem dX4_sign_29 : decode cX4_sign 29 = .ok (.iconst 0, 1) := by decide +kernel
theorem dX4_sign_30 : decode cX4_sign 30 = .ok (.ireturn, 1) := by decide +kernel
theorem dX4_refuse_0 : decode cX4_refuse 0 = .ok (.aload_n 0, 1) := by decide +kernel
theorem dX4_refuse_1 : decode cX4_refuse 1 = .ok (.iload_n 1, 1) := by decide +kernel
theorem dX4_refuse_2 : decode cX4_refuse 2 = .ok (.putfield 22, 3) := by decide +kernel
theorem dX4_refuse_5 : decode cX4_refuse 5 = .ok (.aload_n 0, 1) := by decide +kernel
theorem dX4_refuse_6 : decode cX4_refuse 6 = .ok (.aload_n 0, 1) := by decide +kernel
theorem dX4_refuse_7 : decode cX4_refuse 7 = .ok (.getfield 37, 3) := by decide +kernel
theorem dX4_refuse_10 : decode cX4_refuse 10 = .ok (.aload_n 0, 1) := by decide +kernel
theorem dX4_refuse_11 : decode cX4_refuse 11 = .ok (.getfield 9, 3) := by decide +kernel
theorem dX4_refuse_14 : decode cX4_refuse 14 = .ok (.getfield 48, 3) := by decide +kernel
theorem dX4_refuse_17 : decode cX4_refuse 17 = .ok (.if_icmp .ge 18, 3) := by decide +kernel
theorem dX4_refuse_20 : decode cX4_refuse 20 = .ok (.aload_n 0, 1) := by decide +kernel
theorem dX4_refuse_21 : decode cX4_refuse 21 = .ok (.getfield 9, 3) := by decide +kernel
theorem dX4_refuse_24 : decode cX4_refuse 24 = .ok (.getfield 55, 3) := by decide +kernel
theorem dX4_refuse_27 : decode cX4_refuse 27 = .ok (.aload_n 0, 1) := by decide +kernel
theorem dX4_refuse_28 : decode cX4_refuse 28 = .ok (.getfield 37, 3) := by decide +kernel
theorem dX4_refuse_31 : decode cX4_refuse 31 = .ok (.iaload, 1) := by decide +kernel
theorem dX4_refuse_32 : decode cX4_refuse 32 = .ok (.goto 10, 3) := by decide +kernel
theorem dX4_refuse_35 : decode cX4_refuse 35 = .ok (.aload_n 0, 1) := by decide +kernel
theorem dX4_refuse_36 : decode cX4_refuse 36 = .ok (.getfield 9, 3) := by decide +kernel
theorem dX4_refuse_39 : decode cX4_refuse 39 = .ok (.getfield 58, 3) := by decide +kernel
theorem dX4_refuse_42 : decode cX4_refuse 42 = .ok (.putfield 26, 3) := by decide +kernel
theorem dX4_refuse_45 : decode cX4_refuse 45 = .ok (.iconst 0, 1) := by decide +kernel
theorem dX4_refuse_46 : decode cX4_refuse 46 = .ok (.ireturn, 1) := by decide +kernel
theorem dX4_take_0 : decode cX4_take 0 = .ok (.aload_n 0, 1) := by decide +kernel
theorem dX4_take_1 : decode cX4_take 1 = .ok (.invokevirtual 40, 3) := by decide +kernel
theorem dX4_take_4 : decode cX4_take 4 = .ok (.iload_n 1, 1) := by decide +kernel
theorem dX4_take_5 : decode cX4_take 5 = .ok (.if_icmp .eq 9, 3) := by decide +kernel
theorem dX4_take_8 : decode cX4_take 8 = .ok (.aload_n 0, 1) := by decide +kernel
theorem dX4_take_9 : decode cX4_take 9 = .ok (.iconst 1, 1) := by decide +kernel
theorem dX4_take_10 : decode cX4_take 10 = .ok (.invokevirtual 61, 3) := by decide +kernel
theorem dX4_take_13 : decode cX4_take 13 = .ok (.ireturn, 1) := by decide +kernel
theorem dX4_take_14 : decode cX4_take 14 = .ok (.aload_n 0, 1) := by decide +kernel
theorem dX4_take_15 : decode cX4_take 15 = .ok (.dup, 1) := by decide +kernel
theorem dX4_take_16 : decode cX4_take 16 = .ok (.getfield 37, 3) := by decide +kernel
theorem dX4_take_19 : decode cX4_take 19 = .ok (.iconst 1, 1) := by decide +kernel
theorem dX4_take_20 : decode cX4_take 20 = .ok (.iadd, 1) := by decide +kernel
theorem dX4_take_21 : decode cX4_take 21 = .ok (.putfield 37, 3) := by decide +kernel
theorem dX4_take_24 : decode cX4_take 24 = .ok (.iconst 1, 1) := by decide +kernel
theorem dX4_take_25 : decode cX4_take 25 = .ok (.ireturn, 1) := by decide +kernel
theorem dX4_line_0 : decode cX4_line 0 = .ok (.aload_n 0, 1) := by decide +kernel
theorem dX4_line_1 : decode cX4_line 1 = .ok (.invokevirtual 40, 3) := by decide +kernel
theorem dX4_line_4 : decode cX4_line 4 = .ok (.istore_n 1, 1) := by decide +kernel
theorem dX4_line_5 : decode cX4_line 5 = .ok (.iload_n 1, 1) := by decide +kernel
theorem dX4_line_6 : decode cX4_line 6 = .ok (.sipush 256, 3) := by decide +kernel
theorem dX4_line_9 : decode cX4_line 9 = .ok (.sipush 258, 3) := by decide +kernel
theorem dX4_line_12 : decode cX4_line 12 = .ok (.invokestatic 65, 3) := by decide +kernel
theorem dX4_line_15 : decode cX4_line 15 = .ok (.ifCond .ne 9, 3) := by decide +kernel
theorem dX4_line_18 : decode cX4_line 18 = .ok (.aload_n 0, 1) := by decide +kernel
theorem dX4_line_19 : decode cX4_line 19 = .ok (.iconst 1, 1) := by decide +kernel
theorem dX4_line_20 : decode cX4_line 20 = .ok (.invokevirtual 61, 3) := by decide +kernel
theorem dX4_line_23 : decode cX4_line 23 = .ok (.ireturn, 1) := by decide +kernel
theorem dX4_line_24 : decode cX4_line 24 = .ok (.aload_n 0, 1) := by decide +kernel
theorem dX4_line_25 : decode cX4_line 25 = .ok (.getfield 18, 3) := by decide +kernel
theorem dX4_line_28 : decode cX4_line 28 = .ok (.getfield 69, 3) := by decide +kernel
theorem dX4_line_31 : decode cX4_line 31 = .ok (.bipush 20, 2) := by decide +kernel
theorem dX4_line_33 : decode cX4_line 33 = .ok (.if_icmp .lt 9, 3) := by decide +kernel
theorem dX4_line_36 : decode cX4_line 36 = .ok (.aload_n 0, 1) := by decide +kernel
theorem dX4_line_37 : decode cX4_line 37 = .ok (.iconst 3, 1) := by decide +kernel
theorem dX4_line_38 : decode cX4_line 38 = .ok (.invokevirtual 61, 3) := by decide +kernel
theorem dX4_line_41 : decode cX4_line 41 = .ok (.ireturn, 1) := by decide +kernel
theorem dX4_line_42 : decode cX4_line 42 = .ok (.aload_n 0, 1) := by decide +kernel
theorem dX4_line_43 : decode cX4_line 43 = .ok (.getfield 18, 3) := by decide +kernel
theorem dX4_line_46 : decode cX4_line 46 = .ok (.iload_n 1, 1) := by decide +kernel
theorem dX4_line_47 : decode cX4_line 47 = .ok (.invokevirtual 72, 3) := by decide +kernel
theorem dX4_line_50 : decode cX4_line 50 = .ok (.aload_n 0, 1) := by decide +kernel
theorem dX4_line_51 : decode cX4_line 51 = .ok (.dup, 1) := by decide +kernel
theorem dX4_line_52 : decode cX4_line 52 = .ok (.getfield 37, 3) := by decide +kernel
theorem dX4_line_55 : decode cX4_line 55 = .ok (.iconst 1, 1) := by decide +kernel
theorem dX4_line_56 : decode cX4_line 56 = .ok (.iadd, 1) := by decide +kernel
theorem dX4_line_57 : decode cX4_line 57 = .ok (.putfield 37, 3) := by decide +kernel
theorem dX4_line_60 : decode cX4_line 60 = .ok (.iload_n 1, 1) := by decide +kernel
theorem dX4_line_61 : decode cX4_line 61 = .ok (.sipush 256, 3) := by decide +kernel
theorem dX4_line_64 : decode cX4_line 64 = .ok (.if_icmp .ne 36, 3) := by decide +kernel
theorem dX4_line_67 : decode cX4_line 67 = .ok (.aload_n 0, 1) := by decide +kernel
theorem dX4_line_68 : decode cX4_line 68 = .ok (.getfield 18, 3) := by decide +kernel
theorem dX4_line_71 : decode cX4_line 71 = .ok (.sipush 1000, 3) := by decide +kernel
theorem dX4_line_74 : decode cX4_line 74 = .ok (.invokevirtual 76, 3) := by decide +kernel
theorem dX4_line_77 : decode cX4_line 77 = .ok (.aload_n 0, 1) := by decide +kernel
theorem dX4_line_78 : decode cX4_line 78 = .ok (.iconst 0, 1) := by decide +kernel
theorem dX4_line_79 : decode cX4_line 79 = .ok (.invokevirtual 79, 3) := by decide +kernel
theorem dX4_line_82 : decode cX4_line 82 = .ok (.ifCond .eq 16, 3) := by decide +kernel
theorem dX4_line_85 : decode cX4_line 85 = .ok (.aload_n 0, 1) := by decide +kernel
theorem dX4_line_86 : decode cX4_line 86 = .ok (.bipush 59, 2) := by decide +kernel
theorem dX4_line_88 : decode cX4_line 88 = .ok (.invokevirtual 82, 3) := by decide +kernel
theorem dX4_line_91 : decode cX4_line 91 = .ok (.ifCond .eq 7, 3) := by decide +kernel
theorem dX4_line_94 : decode cX4_line 94 = .ok (.iconst 1, 1) := by decide +kernel
theorem dX4_line_95 : decode cX4_line 95 = .ok (.goto 4, 3) := by decide +kernel
theorem dX4_line_98 : decode cX4_line 98 = .ok (.iconst 0, 1) := by decide +kernel
theorem dX4_line_99 : decode cX4_line 99 = .ok (.ireturn, 1) := by decide +kernel
theorem dX4_line_100 : decode cX4_line 100 = .ok (.aload_n 0, 1) := by decide +kernel
theorem dX4_line_101 : decode cX4_line 101 = .ok (.invokevirtual 85, 3) := by decide +kernel
theorem dX4_line_104 : decode cX4_line 104 = .ok (.ifCond .ne 5, 3) := by decide +kernel
theorem dX4_line_107 : decode cX4_line 107 = .ok (.iconst 0, 1) := by decide +kernel
theorem dX4_line_108 : decode cX4_line 108 = .ok (.ireturn, 1) := by decide +kernel
theorem dX4_line_109 : decode cX4_line 109 = .ok (.aload_n 0, 1) := by decide +kernel
theorem dX4_line_110 : decode cX4_line 110 = .ok (.invokevirtual 40, 3) := by decide +kernel
theorem dX4_line_113 : decode cX4_line 113 = .ok (.sipush 259, 3) := by decide +kernel
theorem dX4_line_116 : decode cX4_line 116 = .ok (.if_icmp .eq 20, 3) := by decide +kernel
theorem dX4_line_119 : decode cX4_line 119 = .ok (.aload_n 0, 1) := by decide +kernel
theorem dX4_line_120 : decode cX4_line 120 = .ok (.getfield 18, 3) := by decide +kernel
theorem dX4_line_123 : decode cX4_line 123 = .ok (.sipush 1001, 3) := by decide +kernel
theorem dX4_line_126 : decode cX4_line 126 = .ok (.invokevirtual 76, 3) := by decide +kernel
theorem dX4_line_129 : decode cX4_line 129 = .ok (.aload_n 0, 1) := by decide +kernel
theorem dX4_line_130 : decode cX4_line 130 = .ok (.bipush 59, 2) := by decide +kernel
theorem dX4_line_132 : decode cX4_line 132 = .ok (.invokevirtual 82, 3) := by decide +kernel
theorem dX4_line_135 : decode cX4_line 135 = .ok (.ireturn, 1) := by decide +kernel
theorem dX4_line_136 : decode cX4_line 136 = .ok (.aload_n 0, 1) := by decide +kernel
theorem dX4_line_137 : decode cX4_line 137 = .ok (.dup, 1) := by decide +kernel
theorem dX4_line_138 : decode cX4_line 138 = .ok (.getfield 37, 3) := by decide +kernel
theorem dX4_line_141 : decode cX4_line 141 = .ok (.iconst 1, 1) := by decide +kernel
theorem dX4_line_142 : decode cX4_line 142 = .ok (.iadd, 1) := by decide +kernel
theorem dX4_line_143 : decode cX4_line 143 = .ok (.putfield 37, 3) := by decide +kernel
theorem dX4_line_146 : decode cX4_line 146 = .ok (.aload_n 0, 1) := by decide +kernel
theorem dX4_line_147 : decode cX4_line 147 = .ok (.iconst 0, 1) := by decide +kernel
theorem dX4_line_148 : decode cX4_line 148 = .ok (.invokevirtual 79, 3) := by decide +kernel
theorem dX4_line_151 : decode cX4_line 151 = .ok (.ifCond .eq 16, 3) := by decide +kernel
theorem dX4_line_154 : decode cX4_line 154 = .ok (.aload_n 0, 1) := by decide +kernel
theorem dX4_line_155 : decode cX4_line 155 = .ok (.bipush 59, 2) := by decide +kernel
theorem dX4_line_157 : decode cX4_line 157 = .ok (.invokevirtual 82, 3) := by decide +kernel
theorem dX4_line_160 : decode cX4_line 160 = .ok (.ifCond .eq 7, 3) := by decide +kernel
theorem dX4_line_163 : decode cX4_line 163 = .ok (.iconst 1, 1) := by decide +kernel
theorem dX4_line_164 : decode cX4_line 164 = .ok (.goto 4, 3) := by decide +kernel
theorem dX4_line_167 : decode cX4_line 167 = .ok (.iconst 0, 1) := by decide +kernel
theorem dX4_line_168 : decode cX4_line 168 = .ok (.ireturn, 1) := by decide +kernel
theorem dX4_condition_0 : decode cX4_condition 0 = .ok (.iconst 0, 1) := by decide +kernel
theorem dX4_condition_1 : decode cX4_condition 1 = .ok (.istore_n 2, 1) := by decide +kernel
theorem dX4_condition_2 : decode cX4_condition 2 = .ok (.iconst 0, 1) := by decide +kernel
theorem dX4_condition_3 : decode cX4_condition 3 = .ok (.istore_n 3, 1) := by decide +kernel
theorem dX4_condition_4 : decode cX4_condition 4 = .ok (.aload_n 0, 1) := by decide +kernel
theorem dX4_condition_5 : decode cX4_condition 5 = .ok (.getfield 9, 3) := by decide +kernel
theorem dX4_condition_8 : decode cX4_condition 8 = .ok (.getfield 48, 3) := by decide +kernel
theorem dX4_condition_11 : decode cX4_condition 11 = .ok (.istore 4, 2) := by decide +kernel
theorem dX4_condition_13 : decode cX4_condition 13 = .ok (.iload 4, 2) := by decide +kernel
theorem dX4_condition_15 : decode cX4_condition 15 = .ok (.ifCond .le 99, 3) := by decide +kernel
theorem dX4_condition_18 : decode cX4_condition 18 = .ok (.aload_n 0, 1) := by decide +kernel
theorem dX4_condition_19 : decode cX4_condition 19 = .ok (.iload_n 1, 1) := by decide +kernel
theorem dX4_condition_20 : decode cX4_condition 20 = .ok (.invokevirtual 88, 3) := by decide +kernel
theorem dX4_condition_23 : decode cX4_condition 23 = .ok (.ifCond .ne 5, 3) := by decide +kernel
theorem dX4_condition_26 : decode cX4_condition 26 = .ok (.iconst 0, 1) := by decide +kernel
theorem dX4_condition_27 : decode cX4_condition 27 = .ok (.ireturn, 1) := by decide +kernel
theorem dX4_condition_28 : decode cX4_condition 28 = .ok (.iload_n 2, 1) := by decide +kernel
theorem dX4_condition_29 : decode cX4_condition 29 = .ok (.ifCond .eq 13, 3) := by decide +kernel
theorem dX4_condition_32 : decode cX4_condition 32 = .ok (.aload_n 0, 1) := by decide +kernel
theorem dX4_condition_33 : decode cX4_condition 33 = .ok (.getfield 18, 3) := by decide +kernel
theorem dX4_condition_36 : decode cX4_condition 36 = .ok (.sipush 261, 3) := by decide +kernel
theorem dX4_condition_39 : decode cX4_condition 39 = .ok (.invokevirtual 76, 3) := by decide +kernel
theorem dX4_condition_42 : decode cX4_condition 42 = .ok (.aload_n 0, 1) := by decide +kernel
theorem dX4_condition_43 : decode cX4_condition 43 = .ok (.invokevirtual 40, 3) := by decide +kernel
theorem dX4_condition_46 : decode cX4_condition 46 = .ok (.sipush 261, 3) := by decide +kernel
theorem dX4_condition_49 : decode cX4_condition 49 = .ok (.if_icmp .ne 7, 3) := by decide +kernel
theorem dX4_condition_52 : decode cX4_condition 52 = .ok (.iconst 1, 1) := by decide +kernel
theorem dX4_condition_53 : decode cX4_condition 53 = .ok (.goto 4, 3) := by decide +kernel
theorem dX4_condition_56 : decode cX4_condition 56 = .ok (.iconst 0, 1) := by decide +kernel
theorem dX4_condition_57 : decode cX4_condition 57 = .ok (.istore_n 2, 1) := by decide +kernel
theorem dX4_condition_58 : decode cX4_condition 58 = .ok (.iload_n 2, 1) := by decide +kernel
theorem dX4_condition_59 : decode cX4_condition 59 = .ok (.ifCond .ne 39, 3) := by decide +kernel
theorem dX4_condition_62 : decode cX4_condition 62 = .ok (.iload_n 3, 1) := by decide +kernel
theorem dX4_condition_63 : decode cX4_condition 63 = .ok (.ifCond .eq 13, 3) := by decide +kernel
theorem dX4_condition_66 : decode cX4_condition 66 = .ok (.aload_n 0, 1) := by decide +kernel
theorem dX4_condition_67 : decode cX4_condition 67 = .ok (.getfield 18, 3) := by decide +kernel
theorem dX4_condition_70 : decode cX4_condition 70 = .ok (.sipush 260, 3) := by decide +kernel
theorem dX4_condition_73 : decode cX4_condition 73 = .ok (.invokevirtual 76, 3) := by decide +kernel
theorem dX4_condition_76 : decode cX4_condition 76 = .ok (.aload_n 0, 1) := by decide +kernel
theorem dX4_condition_77 : decode cX4_condition 77 = .ok (.invokevirtual 40, 3) := by decide +kernel
theorem dX4_condition_80 : decode cX4_condition 80 = .ok (.sipush 260, 3) := by decide +kernel
theorem dX4_condition_83 : decode cX4_condition 83 = .ok (.if_icmp .ne 7, 3) := by decide +kernel
theorem dX4_condition_86 : decode cX4_condition 86 = .ok (.iconst 1, 1) := by decide +kernel
theorem dX4_condition_87 : decode cX4_condition 87 = .ok (.goto 4, 3) := by decide +kernel
theorem dX4_condition_90 : decode cX4_condition 90 = .ok (.iconst 0, 1) := by decide +kernel
theorem dX4_condition_91 : decode cX4_condition 91 = .ok (.istore_n 3, 1) := by decide +kernel
theorem dX4_condition_92 : decode cX4_condition 92 = .ok (.iload_n 3, 1) := by decide +kernel
theorem dX4_condition_93 : decode cX4_condition 93 = .ok (.ifCond .ne 5, 3) := by decide +kernel
theorem dX4_condition_96 : decode cX4_condition 96 = .ok (.iconst 1, 1) := by decide +kernel
theorem dX4_condition_97 : decode cX4_condition 97 = .ok (.ireturn, 1) := by decide +kernel
theorem dX4_condition_98 : decode cX4_condition 98 = .ok (.aload_n 0, 1) := by decide +kernel
theorem dX4_condition_99 : decode cX4_condition 99 = .ok (.dup, 1) := by decide +kernel
theorem dX4_condition_100 : decode cX4_condition 100 = .ok (.getfield 37, 3) := by decide +kernel
theorem dX4_condition_103 : decode cX4_condition 103 = .ok (.iconst 1, 1) := by decide +kernel
theorem dX4_condition_104 : decode cX4_condition 104 = .ok (.iadd, 1) := by decide +kernel
theorem dX4_condition_105 : decode cX4_condition 105 = .ok (.putfield 37, 3) := by decide +kernel
theorem dX4_condition_108 : decode cX4_condition 108 = .ok (.iinc 4 (-1), 3) := by decide +kernel
theorem dX4_condition_111 : decode cX4_condition 111 = .ok (.goto (-98), 3) := by decide +kernel
theorem dX4_condition_114 : decode cX4_condition 114 = .ok (.aload_n 0, 1) := by decide +kernel
theorem dX4_condition_115 : decode cX4_condition 115 = .ok (.iconst 1, 1) := by decide +kernel
theorem dX4_condition_116 : decode cX4_condition 116 = .ok (.invokevirtual 61, 3) := by decide +kernel
theorem dX4_condition_119 : decode cX4_condition 119 = .ok (.ireturn, 1) := by decide +kernel
theorem dX4_single_0 : decode cX4_single 0 = .ok (.iload_n 1, 1) := by decide +kernel
theorem dX4_single_1 : decode cX4_single 1 = .ok (.istore_n 2, 1) := by decide +kernel
theorem dX4_single_2 : decode cX4_single 2 = .ok (.bipush 8, 2) := by decide +kernel
theorem dX4_single_4 : decode cX4_single 4 = .ok (.iload_n 1, 1) := by decide +kernel
theorem dX4_single_5 : decode cX4_single 5 = .ok (.isub, 1) := by decide +kernel
theorem dX4_single_6 : decode cX4_single 6 = .ok (.istore_n 3, 1) := by decide +kernel
theorem dX4_single_7 : decode cX4_single 7 = .ok (.iload_n 3, 1) := by decide +kernel
theorem dX4_single_8 : decode cX4_single 8 = .ok (.ifCond .le 32, 3) := by decide +kernel
theorem dX4_single_11 : decode cX4_single 11 = .ok (.aload_n 0, 1) := by decide +kernel
theorem dX4_single_12 : decode cX4_single 12 = .ok (.invokevirtual 40, 3) := by decide +kernel
theorem dX4_single_15 : decode cX4_single 15 = .ok (.sipush 262, 3) := by decide +kernel
theorem dX4_single_18 : decode cX4_single 18 = .ok (.if_icmp .ne 22, 3) := by decide +kernel
theorem dX4_single_21 : decode cX4_single 21 = .ok (.iinc 2 1, 3) := by decide +kernel
theorem dX4_single_24 : decode cX4_single 24 = .ok (.aload_n 0, 1) := by decide +kernel
theorem dX4_single_25 : decode cX4_single 25 = .ok (.dup, 1) := by decide +kernel
theorem dX4_single_26 : decode cX4_single 26 = .ok (.getfield 37, 3) := by decide +kernel
theorem dX4_single_29 : decode cX4_single 29 = .ok (.iconst 1, 1) := by decide +kernel
theorem dX4_single_30 : decode cX4_single 30 = .ok (.iadd, 1) := by decide +kernel
theorem dX4_single_31 : decode cX4_single 31 = .ok (.putfield 37, 3) := by decide +kernel
theorem dX4_single_34 : decode cX4_single 34 = .ok (.iinc 3 (-1), 3) := by decide +kernel
theorem dX4_single_37 : decode cX4_single 37 = .ok (.goto (-30), 3) := by decide +kernel
theorem dX4_single_40 : decode cX4_single 40 = .ok (.aload_n 0, 1) := by decide +kernel
theorem dX4_single_41 : decode cX4_single 41 = .ok (.invokevirtual 40, 3) := by decide +kernel
theorem dX4_single_44 : decode cX4_single 44 = .ok (.sipush 262, 3) := by decide +kernel
theorem dX4_single_47 : decode cX4_single 47 = .ok (.if_icmp .eq 18, 3) := by decide +kernel
theorem dX4_single_50 : decode cX4_single 50 = .ok (.aload_n 0, 1) := by decide +kernel
theorem dX4_single_51 : decode cX4_single 51 = .ok (.invokevirtual 40, 3) := by decide +kernel
theorem dX4_single_54 : decode cX4_single 54 = .ok (.bipush 40, 2) := by decide +kernel
theorem dX4_single_56 : decode cX4_single 56 = .ok (.if_icmp .ne 15, 3) := by decide +kernel
theorem dX4_single_59 : decode cX4_single 59 = .ok (.iload_n 2, 1) := by decide +kernel
theorem dX4_single_60 : decode cX4_single 60 = .ok (.bipush 8, 2) := by decide +kernel
theorem dX4_single_62 : decode cX4_single 62 = .ok (.if_icmp .lt 9, 3) := by decide +kernel
theorem dX4_single_65 : decode cX4_single 65 = .ok (.aload_n 0, 1) := by decide +kernel
theorem dX4_single_66 : decode cX4_single 66 = .ok (.iconst 3, 1) := by decide +kernel
theorem dX4_single_67 : decode cX4_single 67 = .ok (.invokevirtual 61, 3) := by decide +kernel
theorem dX4_single_70 : decode cX4_single 70 = .ok (.ireturn, 1) := by decide +kernel
theorem dX4_single_71 : decode cX4_single 71 = .ok (.aload_n 0, 1) := by decide +kernel
theorem dX4_single_72 : decode cX4_single 72 = .ok (.invokevirtual 40, 3) := by decide +kernel
theorem dX4_single_75 : decode cX4_single 75 = .ok (.bipush 40, 2) := by decide +kernel
theorem dX4_single_77 : decode cX4_single 77 = .ok (.if_icmp .ne 34, 3) := by decide +kernel
theorem dX4_single_80 : decode cX4_single 80 = .ok (.aload_n 0, 1) := by decide +kernel
theorem dX4_single_81 : decode cX4_single 81 = .ok (.dup, 1) := by decide +kernel
theorem dX4_single_82 : decode cX4_single 82 = .ok (.getfield 37, 3) := by decide +kernel
theorem dX4_single_85 : decode cX4_single 85 = .ok (.iconst 1, 1) := by decide +kernel
theorem dX4_single_86 : decode cX4_single 86 = .ok (.iadd, 1) := by decide +kernel
theorem dX4_single_87 : decode cX4_single 87 = .ok (.putfield 37, 3) := by decide +kernel
theorem dX4_single_90 : decode cX4_single 90 = .ok (.aload_n 0, 1) := by decide +kernel
theorem dX4_single_91 : decode cX4_single 91 = .ok (.iload_n 2, 1) := by decide +kernel
theorem dX4_single_92 : decode cX4_single 92 = .ok (.iconst 1, 1) := by decide +kernel
theorem dX4_single_93 : decode cX4_single 93 = .ok (.iadd, 1) := by decide +kernel
theorem dX4_single_94 : decode cX4_single 94 = .ok (.invokevirtual 79, 3) := by decide +kernel
theorem dX4_single_97 : decode cX4_single 97 = .ok (.ifCond .eq 12, 3) := by decide +kernel
theorem dX4_single_100 : decode cX4_single 100 = .ok (.aload_n 0, 1) := by decide +kernel
theorem dX4_single_101 : decode cX4_single 101 = .ok (.bipush 41, 2) := by decide +kernel
theorem dX4_single_103 : decode cX4_single 103 = .ok (.invokevirtual 82, 3) := by decide +kernel
theorem dX4_single_106 : decode cX4_single 106 = .ok (.ifCond .ne 70, 3) := by decide +kernel
theorem dX4_single_109 : decode cX4_single 109 = .ok (.iconst 0, 1) := by decide +kernel
theorem dX4_single_110 : decode cX4_single 110 = .ok (.ireturn, 1) := by decide +kernel
theorem dX4_single_111 : decode cX4_single 111 = .ok (.aload_n 0, 1) := by decide +kernel
theorem dX4_single_112 : decode cX4_single 112 = .ok (.invokevirtual 85, 3) := by decide +kernel
theorem dX4_single_115 : decode cX4_single 115 = .ok (.ifCond .ne 5, 3) := by decide +kernel
theorem dX4_single_118 : decode cX4_single 118 = .ok (.iconst 0, 1) := by decide +kernel
theorem dX4_single_119 : decode cX4_single 119 = .ok (.ireturn, 1) := by decide +kernel
theorem dX4_single_120 : decode cX4_single 120 = .ok (.aload_n 0, 1) := by decide +kernel
theorem dX4_single_121 : decode cX4_single 121 = .ok (.invokevirtual 40, 3) := by decide +kernel
theorem dX4_single_124 : decode cX4_single 124 = .ok (.istore_n 3, 1) := by decide +kernel
theorem dX4_single_125 : decode cX4_single 125 = .ok (.iload_n 3, 1) := by decide +kernel
theorem dX4_single_126 : decode cX4_single 126 = .ok (.bipush 60, 2) := by decide +kernel
theorem dX4_single_128 : decode cX4_single 128 = .ok (.if_icmp .eq 21, 3) := by decide +kernel
theorem dX4_single_131 : decode cX4_single 131 = .ok (.iload_n 3, 1) := by decide +kernel
theorem dX4_single_132 : decode cX4_single 132 = .ok (.bipush 61, 2) := by decide +kernel
theorem dX4_single_134 : decode cX4_single 134 = .ok (.if_icmp .eq 15, 3) := by decide +kernel
theorem dX4_single_137 : decode cX4_single 137 = .ok (.iload_n 3, 1) := by decide +kernel
theorem dX4_single_138 : decode cX4_single 138 = .ok (.bipush 62, 2) := by decide +kernel
theorem dX4_single_140 : decode cX4_single 140 = .ok (.if_icmp .eq 9, 3) := by decide +kernel
theorem dX4_single_143 : decode cX4_single 143 = .ok (.aload_n 0, 1) := by decide +kernel
theorem dX4_single_144 : decode cX4_single 144 = .ok (.iconst 1, 1) := by decide +kernel
theorem dX4_single_145 : decode cX4_single 145 = .ok (.invokevirtual 61, 3) := by decide +kernel
theorem dX4_single_148 : decode cX4_single 148 = .ok (.ireturn, 1) := by decide +kernel
theorem dX4_single_149 : decode cX4_single 149 = .ok (.aload_n 0, 1) := by decide +kernel
theorem dX4_single_150 : decode cX4_single 150 = .ok (.dup, 1) := by decide +kernel
theorem dX4_single_151 : decode cX4_single 151 = .ok (.getfield 37, 3) := by decide +kernel
theorem dX4_single_154 : decode cX4_single 154 = .ok (.iconst 1, 1) := by decide +kernel
theorem dX4_single_155 : decode cX4_single 155 = .ok (.iadd, 1) := by decide +kernel
theorem dX4_single_156 : decode cX4_single 156 = .ok (.putfield 37, 3) := by decide +kernel
theorem dX4_single_159 : decode cX4_single 159 = .ok (.aload_n 0, 1) := by decide +kernel
theorem dX4_single_160 : decode cX4_single 160 = .ok (.invokevirtual 85, 3) := by decide +kernel
theorem dX4_single_163 : decode cX4_single 163 = .ok (.ifCond .ne 5, 3) := by decide +kernel
theorem dX4_single_166 : decode cX4_single 166 = .ok (.iconst 0, 1) := by decide +kernel
theorem dX4_single_167 : decode cX4_single 167 = .ok (.ireturn, 1) := by decide +kernel
theorem dX4_single_168 : decode cX4_single 168 = .ok (.aload_n 0, 1) := by decide +kernel
theorem dX4_single_169 : decode cX4_single 169 = .ok (.getfield 18, 3) := by decide +kernel
theorem dX4_single_172 : decode cX4_single 172 = .ok (.iload_n 3, 1) := by decide +kernel
theorem dX4_single_173 : decode cX4_single 173 = .ok (.invokevirtual 76, 3) := by decide +kernel
theorem dX4_single_176 : decode cX4_single 176 = .ok (.iload_n 1, 1) := by decide +kernel
theorem dX4_single_177 : decode cX4_single 177 = .ok (.istore_n 3, 1) := by decide +kernel
theorem dX4_single_178 : decode cX4_single 178 = .ok (.iload_n 3, 1) := by decide +kernel
theorem dX4_single_179 : decode cX4_single 179 = .ok (.iload_n 2, 1) := by decide +kernel
theorem dX4_single_180 : decode cX4_single 180 = .ok (.if_icmp .ge 19, 3) := by decide +kernel
theorem dX4_single_183 : decode cX4_single 183 = .ok (.aload_n 0, 1) := by decide +kernel
theorem dX4_single_184 : decode cX4_single 184 = .ok (.getfield 18, 3) := by decide +kernel
theorem dX4_single_187 : decode cX4_single 187 = .ok (.sipush 262, 3) := by decide +kernel
theorem dX4_single_190 : decode cX4_single 190 = .ok (.invokevirtual 76, 3) := by decide +kernel
theorem dX4_single_193 : decode cX4_single 193 = .ok (.iinc 3 1, 3) := by decide +kernel
theorem dX4_single_196 : decode cX4_single 196 = .ok (.goto (-18), 3) := by decide +kernel
theorem dX4_single_199 : decode cX4_single 199 = .ok (.iconst 1, 1) := by decide +kernel
theorem dX4_single_200 : decode cX4_single 200 = .ok (.ireturn, 1) := by decide +kernel
theorem dX4_expression_0 : decode cX4_expression 0 = .ok (.iconst 0, 1) := by decide +kernel
theorem dX4_expression_1 : decode cX4_expression 1 = .ok (.istore_n 1, 1) := by decide +kernel
theorem dX4_expression_2 : decode cX4_expression 2 = .ok (.iconst 0, 1) := by decide +kernel
theorem dX4_expression_3 : decode cX4_expression 3 = .ok (.istore_n 2, 1) := by decide +kernel
theorem dX4_expression_4 : decode cX4_expression 4 = .ok (.aload_n 0, 1) := by decide +kernel
theorem dX4_expression_5 : decode cX4_expression 5 = .ok (.getfield 9, 3) := by decide +kernel
theorem dX4_expression_8 : decode cX4_expression 8 = .ok (.getfield 48, 3) := by decide +kernel
theorem dX4_expression_11 : decode cX4_expression 11 = .ok (.istore_n 3, 1) := by decide +kernel
theorem dX4_expression_12 : decode cX4_expression 12 = .ok (.iload_n 3, 1) := by decide +kernel
theorem dX4_expression_13 : decode cX4_expression 13 = .ok (.ifCond .le 127, 3) := by decide +kernel
theorem dX4_expression_16 : decode cX4_expression 16 = .ok (.aload_n 0, 1) := by decide +kernel
theorem dX4_expression_17 : decode cX4_expression 17 = .ok (.iload_n 1, 1) := by decide +kernel
theorem dX4_expression_18 : decode cX4_expression 18 = .ok (.bipush 47, 2) := by decide +kernel
theorem dX4_expression_20 : decode cX4_expression 20 = .ok (.if_icmp .ne 7, 3) := by decide +kernel
theorem dX4_expression_23 : decode cX4_expression 23 = .ok (.iconst 1, 1) := by decide +kernel
theorem dX4_expression_24 : decode cX4_expression 24 = .ok (.goto 4, 3) := by decide +kernel
theorem dX4_expression_27 : decode cX4_expression 27 = .ok (.iconst 0, 1) := by decide +kernel
theorem dX4_expression_28 : decode cX4_expression 28 = .ok (.invokevirtual 91, 3) := by decide +kernel
theorem dX4_expression_31 : decode cX4_expression 31 = .ok (.ifCond .ne 5, 3) := by decide +kernel
theorem dX4_expression_34 : decode cX4_expression 34 = .ok (.iconst 0, 1) := by decide +kernel
theorem dX4_expression_35 : decode cX4_expression 35 = .ok (.ireturn, 1) := by decide +kernel
theorem dX4_expression_36 : decode cX4_expression 36 = .ok (.iload_n 1, 1) := by decide +kernel
theorem dX4_expression_37 : decode cX4_expression 37 = .ok (.ifCond .eq 11, 3) := by decide +kernel
theorem dX4_expression_40 : decode cX4_expression 40 = .ok (.aload_n 0, 1) := by decide +kernel
theorem dX4_expression_41 : decode cX4_expression 41 = .ok (.getfield 18, 3) := by decide +kernel
theorem dX4_expression_44 : decode cX4_expression 44 = .ok (.iload_n 1, 1) := by decide +kernel
theorem dX4_expression_45 : decode cX4_expression 45 = .ok (.invokevirtual 76, 3) := by decide +kernel
theorem dX4_expression_48 : decode cX4_expression 48 = .ok (.aload_n 0, 1) := by decide +kernel
theorem dX4_expression_49 : decode cX4_expression 49 = .ok (.invokevirtual 40, 3) := by decide +kernel
theorem dX4_expression_52 : decode cX4_expression 52 = .ok (.bipush 42, 2) := by decide +kernel
theorem dX4_expression_54 : decode cX4_expression 54 = .ok (.if_icmp .eq 12, 3) := by decide +kernel
theorem dX4_expression_57 : decode cX4_expression 57 = .ok (.aload_n 0, 1) := by decide +kernel
theorem dX4_expression_58 : decode cX4_expression 58 = .ok (.invokevirtual 40, 3) := by decide +kernel
theorem dX4_expression_61 : decode cX4_expression 61 = .ok (.bipush 47, 2) := by decide +kernel
theorem dX4_expression_63 : decode cX4_expression 63 = .ok (.if_icmp .ne 10, 3) := by decide +kernel
theorem dX4_expression_66 : decode cX4_expression 66 = .ok (.aload_n 0, 1) := by decide +kernel
theorem dX4_expression_67 : decode cX4_expression 67 = .ok (.invokevirtual 40, 3) := by decide +kernel
theorem dX4_expression_70 : decode cX4_expression 70 = .ok (.goto 4, 3) := by decide +kernel
theorem dX4_expression_73 : decode cX4_expression 73 = .ok (.iconst 0, 1) := by decide +kernel
theorem dX4_expression_74 : decode cX4_expression 74 = .ok (.istore_n 1, 1) := by decide +kernel
theorem dX4_expression_75 : decode cX4_expression 75 = .ok (.iload_n 1, 1) := by decide +kernel
theorem dX4_expression_76 : decode cX4_expression 76 = .ok (.ifCond .ne 48, 3) := by decide +kernel
theorem dX4_expression_79 : decode cX4_expression 79 = .ok (.iload_n 2, 1) := by decide +kernel
theorem dX4_expression_80 : decode cX4_expression 80 = .ok (.ifCond .eq 11, 3) := by decide +kernel
theorem dX4_expression_83 : decode cX4_expression 83 = .ok (.aload_n 0, 1) := by decide +kernel
theorem dX4_expression_84 : decode cX4_expression 84 = .ok (.getfield 18, 3) := by decide +kernel
theorem dX4_expression_87 : decode cX4_expression 87 = .ok (.iload_n 2, 1) := by decide +kernel
theorem dX4_expression_88 : decode cX4_expression 88 = .ok (.invokevirtual 76, 3) := by decide +kernel
theorem dX4_expression_91 : decode cX4_expression 91 = .ok (.aload_n 0, 1) := by decide +kernel
theorem dX4_expression_92 : decode cX4_expression 92 = .ok (.invokevirtual 40, 3) := by decide +kernel
theorem dX4_expression_95 : decode cX4_expression 95 = .ok (.bipush 43, 2) := by decide +kernel
theorem dX4_expression_97 : decode cX4_expression 97 = .ok (.if_icmp .eq 12, 3) := by decide +kernel
theorem dX4_expression_100 : decode cX4_expression 100 = .ok (.aload_n 0, 1) := by decide +kernel
theorem dX4_expression_101 : decode cX4_expression 101 = .ok (.invokevirtual 40, 3) := by decide +kernel
theorem dX4_expression_104 : decode cX4_expression 104 = .ok (.bipush 45, 2) := by decide +kernel
theorem dX4_expression_106 : decode cX4_expression 106 = .ok (.if_icmp .ne 10, 3) := by decide +kernel
theorem dX4_expression_109 : decode cX4_expression 109 = .ok (.aload_n 0, 1) := by decide +kernel
theorem dX4_expression_110 : decode cX4_expression 110 = .ok (.invokevirtual 40, 3) := by decide +kernel
theorem dX4_expression_113 : decode cX4_expression 113 = .ok (.goto 4, 3) := by decide +kernel
theorem dX4_expression_116 : decode cX4_expression 116 = .ok (.iconst 0, 1) := by decide +kernel
theorem dX4_expression_117 : decode cX4_expression 117 = .ok (.istore_n 2, 1) := by decide +kernel
theorem dX4_expression_118 : decode cX4_expression 118 = .ok (.iload_n 2, 1) := by decide +kernel
theorem dX4_expression_119 : decode cX4_expression 119 = .ok (.ifCond .ne 5, 3) := by decide +kernel
theorem dX4_expression_122 : decode cX4_expression 122 = .ok (.iconst 1, 1) := by decide +kernel
theorem dX4_expression_123 : decode cX4_expression 123 = .ok (.ireturn, 1) := by decide +kernel
theorem dX4_expression_124 : decode cX4_expression 124 = .ok (.aload_n 0, 1) := by decide +kernel
theorem dX4_expression_125 : decode cX4_expression 125 = .ok (.dup, 1) := by decide +kernel
theorem dX4_expression_126 : decode cX4_expression 126 = .ok (.getfield 37, 3) := by decide +kernel
theorem dX4_expression_129 : decode cX4_expression 129 = .ok (.iconst 1, 1) := by decide +kernel
theorem dX4_expression_130 : decode cX4_expression 130 = .ok (.iadd, 1) := by decide +kernel
theorem dX4_expression_131 : decode cX4_expression 131 = .ok (.putfield 37, 3) := by decide +kernel
theorem dX4_expression_134 : decode cX4_expression 134 = .ok (.iinc 3 (-1), 3) := by decide +kernel
theorem dX4_expression_137 : decode cX4_expression 137 = .ok (.goto (-125), 3) := by decide +kernel
theorem dX4_expression_140 : decode cX4_expression 140 = .ok (.aload_n 0, 1) := by decide +kernel
theorem dX4_expression_141 : decode cX4_expression 141 = .ok (.iconst 1, 1) := by decide +kernel
theorem dX4_expression_142 : decode cX4_expression 142 = .ok (.invokevirtual 61, 3) := by decide +kernel
theorem dX4_expression_145 : decode cX4_expression 145 = .ok (.ireturn, 1) := by decide +kernel
theorem dX4_operand_0 : decode cX4_operand 0 = .ok (.aload_n 0, 1) := by decide +kernel
theorem dX4_operand_1 : decode cX4_operand 1 = .ok (.invokevirtual 40, 3) := by decide +kernel
theorem dX4_operand_4 : decode cX4_operand 4 = .ok (.istore_n 2, 1) := by decide +kernel
theorem dX4_operand_5 : decode cX4_operand 5 = .ok (.iload_n 2, 1) := by decide +kernel
theorem dX4_operand_6 : decode cX4_operand 6 = .ok (.iconst 1, 1) := by decide +kernel
theorem dX4_operand_7 : decode cX4_operand 7 = .ok (.if_icmp .ne 45, 3) := by decide +kernel
theorem dX4_operand_10 : decode cX4_operand 10 = .ok (.aload_n 0, 1) := by decide +kernel
theorem dX4_operand_11 : decode cX4_operand 11 = .ok (.getfield 9, 3) := by decide +kernel
theorem dX4_operand_14 : decode cX4_operand 14 = .ok (.getfield 95, 3) := by decide +kernel
theorem dX4_operand_17 : decode cX4_operand 17 = .ok (.aload_n 0, 1) := by decide +kernel
theorem dX4_operand_18 : decode cX4_operand 18 = .ok (.getfield 37, 3) := by decide +kernel
theorem dX4_operand_21 : decode cX4_operand 21 = .ok (.iaload, 1) := by decide +kernel
theorem dX4_operand_22 : decode cX4_operand 22 = .ok (.istore_n 3, 1) := by decide +kernel
theorem dX4_operand_23 : decode cX4_operand 23 = .ok (.iload_n 1, 1) := by decide +kernel
theorem dX4_operand_24 : decode cX4_operand 24 = .ok (.ifCond .eq 13, 3) := by decide +kernel
theorem dX4_operand_27 : decode cX4_operand 27 = .ok (.iload_n 3, 1) := by decide +kernel
theorem dX4_operand_28 : decode cX4_operand 28 = .ok (.ifCond .ne 9, 3) := by decide +kernel
theorem dX4_operand_31 : decode cX4_operand 31 = .ok (.aload_n 0, 1) := by decide +kernel
theorem dX4_operand_32 : decode cX4_operand 32 = .ok (.iconst 2, 1) := by decide +kernel
theorem dX4_operand_33 : decode cX4_operand 33 = .ok (.invokevirtual 61, 3) := by decide +kernel
theorem dX4_operand_36 : decode cX4_operand 36 = .ok (.ireturn, 1) := by decide +kernel
theorem dX4_operand_37 : decode cX4_operand 37 = .ok (.aload_n 0, 1) := by decide +kernel
theorem dX4_operand_38 : decode cX4_operand 38 = .ok (.getfield 18, 3) := by decide +kernel
theorem dX4_operand_41 : decode cX4_operand 41 = .ok (.sipush 1000, 3) := by decide +kernel
theorem dX4_operand_44 : decode cX4_operand 44 = .ok (.iload_n 3, 1) := by decide +kernel
theorem dX4_operand_45 : decode cX4_operand 45 = .ok (.iadd, 1) := by decide +kernel
theorem dX4_operand_46 : decode cX4_operand 46 = .ok (.invokevirtual 76, 3) := by decide +kernel
theorem dX4_operand_49 : decode cX4_operand 49 = .ok (.goto 34, 3) := by decide +kernel
theorem dX4_operand_52 : decode cX4_operand 52 = .ok (.iload_n 1, 1) := by decide +kernel
theorem dX4_operand_53 : decode cX4_operand 53 = .ok (.ifCond .ne 16, 3) := by decide +kernel
theorem dX4_operand_56 : decode cX4_operand 56 = .ok (.iload_n 2, 1) := by decide +kernel
theorem dX4_operand_57 : decode cX4_operand 57 = .ok (.sipush 263, 3) := by decide +kernel
theorem dX4_operand_60 : decode cX4_operand 60 = .ok (.sipush 272, 3) := by decide +kernel
theorem dX4_operand_63 : decode cX4_operand 63 = .ok (.invokestatic 65, 3) := by decide +kernel
theorem dX4_operand_66 : decode cX4_operand 66 = .ok (.ifCond .ne 9, 3) := by decide +kernel
theorem dX4_operand_69 : decode cX4_operand 69 = .ok (.aload_n 0, 1) := by decide +kernel
theorem dX4_operand_70 : decode cX4_operand 70 = .ok (.iconst 1, 1) := by decide +kernel
theorem dX4_operand_71 : decode cX4_operand 71 = .ok (.invokevirtual 61, 3) := by decide +kernel
theorem dX4_operand_74 : decode cX4_operand 74 = .ok (.ireturn, 1) := by decide +kernel
theorem dX4_operand_75 : decode cX4_operand 75 = .ok (.aload_n 0, 1) := by decide +kernel
theorem dX4_operand_76 : decode cX4_operand 76 = .ok (.getfield 18, 3) := by decide +kernel
theorem dX4_operand_79 : decode cX4_operand 79 = .ok (.iload_n 2, 1) := by decide +kernel
theorem dX4_operand_80 : decode cX4_operand 80 = .ok (.invokevirtual 76, 3) := by decide +kernel
theorem dX4_operand_83 : decode cX4_operand 83 = .ok (.aload_n 0, 1) := by decide +kernel
theorem dX4_operand_84 : decode cX4_operand 84 = .ok (.dup, 1) := by decide +kernel
theorem dX4_operand_85 : decode cX4_operand 85 = .ok (.getfield 37, 3) := by decide +kernel
theorem dX4_operand_88 : decode cX4_operand 88 = .ok (.iconst 1, 1) := by decide +kernel
theorem dX4_operand_89 : decode cX4_operand 89 = .ok (.iadd, 1) := by decide +kernel
theorem dX4_operand_90 : decode cX4_operand 90 = .ok (.putfield 37, 3) := by decide +kernel
theorem dX4_operand_93 : decode cX4_operand 93 = .ok (.iconst 1, 1) := by decide +kernel
theorem dX4_operand_94 : decode cX4_operand 94 = .ok (.ireturn, 1) := by decide +kernel
theorem dX5_init_0 : decode cX5_init 0 = .ok (.aload_n 0, 1) := by decide +kernel
theorem dX5_init_1 : decode cX5_init 1 = .ok (.invokespecial 3, 3) := by decide +kernel
theorem dX5_init_4 : decode cX5_init 4 = .ok (.aload_n 0, 1) := by decide +kernel
theorem dX5_init_5 : decode cX5_init 5 = .ok (.bipush 12, 2) := by decide +kernel
theorem dX5_init_7 : decode cX5_init 7 = .ok (.newarray .int, 2) := by decide +kernel
theorem dX5_init_9 : decode cX5_init 9 = .ok (.putfield 9, 3) := by decide +kernel
theorem dX5_init_12 : decode cX5_init 12 = .ok (.aload_n 0, 1) := by decide +kernel
theorem dX5_init_13 : decode cX5_init 13 = .ok (.bipush 12, 2) := by decide +kernel
theorem dX5_init_15 : decode cX5_init 15 = .ok (.newarray .int, 2) := by decide +kernel
theorem dX5_init_17 : decode cX5_init 17 = .ok (.putfield 15, 3) := by decide +kernel
theorem dX5_init_20 : decode cX5_init 20 = .ok (.aload_n 0, 1) := by decide +kernel
theorem dX5_init_21 : decode cX5_init 21 = .ok (.bipush 12, 2) := by decide +kernel
theorem dX5_init_23 : decode cX5_init 23 = .ok (.newarray .int, 2) := by decide +kernel
theorem dX5_init_25 : decode cX5_init 25 = .ok (.putfield 18, 3) := by decide +kernel
theorem dX5_init_28 : decode cX5_init 28 = .ok (.aload_n 0, 1) := by decide +kernel
theorem dX5_init_29 : decode cX5_init 29 = .ok (.bipush 12, 2) := by decide +kernel
theorem dX5_init_31 : decode cX5_init 31 = .ok (.newarray .int, 2) := by decide +kernel
theorem dX5_init_33 : decode cX5_init 33 = .ok (.putfield 21, 3) := by decide +kernel
theorem dX5_init_36 : decode cX5_init 36 = .ok (.aload_n 0, 1) := by decide +kernel
theorem dX5_init_37 : decode cX5_init 37 = .ok (.bipush 12, 2) := by decide +kernel
theorem dX5_init_39 : decode cX5_init 39 = .ok (.newarray .int, 2) := by decide +kernel
theorem dX5_init_41 : decode cX5_init 41 = .ok (.putfield 24, 3) := by decide +kernel
theorem dX5_init_44 : decode cX5_init 44 = .ok (.aload_n 0, 1) := by decide +kernel
theorem dX5_init_45 : decode cX5_init 45 = .ok (.bipush 30, 2) := by decide +kernel
theorem dX5_init_47 : decode cX5_init 47 = .ok (.newarray .int, 2) := by decide +kernel
theorem dX5_init_49 : decode cX5_init 49 = .ok (.putfield 27, 3) := by decide +kernel
theorem dX5_init_52 : decode cX5_init 52 = .ok (.aload_n 0, 1) := by decide +kernel
theorem dX5_init_53 : decode cX5_init 53 = .ok (.bipush 30, 2) := by decide +kernel
theorem dX5_init_55 : decode cX5_init 55 = .ok (.newarray .int, 2) := by decide +kernel
theorem dX5_init_57 : decode cX5_init 57 = .ok (.putfield 30, 3) := by decide +kernel
theorem dX5_init_60 : decode cX5_init 60 = .ok (.aload_n 0, 1) := by decide +kernel
theorem dX5_init_61 : decode cX5_init 61 = .ok (.bipush 30, 2) := by decide +kernel
theorem dX5_init_63 : decode cX5_init 63 = .ok (.newarray .int, 2) := by decide +kernel
theorem dX5_init_65 : decode cX5_init 65 = .ok (.putfield 33, 3) := by decide +kernel
theorem dX5_init_68 : decode cX5_init 68 = .ok (.aload_n 0, 1) := by decide +kernel
theorem dX5_init_69 : decode cX5_init 69 = .ok (.sipush 150, 3) := by decide +kernel
theorem dX5_init_72 : decode cX5_init 72 = .ok (.newarray .int, 2) := by decide +kernel
theorem dX5_init_74 : decode cX5_init 74 = .ok (.putfield 36, 3) := by decide +kernel
theorem dX5_init_77 : decode cX5_init 77 = .ok (.aload_n 0, 1) := by decide +kernel
theorem dX5_init_78 : decode cX5_init 78 = .ok (.sipush 150, 3) := by decide +kernel
theorem dX5_init_81 : decode cX5_init 81 = .ok (.newarray .int, 2) := by decide +kernel
theorem dX5_init_83 : decode cX5_init 83 = .ok (.putfield 39, 3) := by decide +kernel
theorem dX5_init_86 : decode cX5_init 86 = .ok (.aload_n 0, 1) := by decide +kernel
theorem dX5_init_87 : decode cX5_init 87 = .ok (.sipush 150, 3) := by decide +kernel
theorem dX5_init_90 : decode cX5_init 90 = .ok (.newarray .int, 2) := by decide +kernel
theorem dX5_init_92 : decode cX5_init 92 = .ok (.putfield 42, 3) := by decide +kernel
theorem dX5_init_95 : decode cX5_init 95 = .ok (.aload_n 0, 1) := by decide +kernel
theorem dX5_init_96 : decode cX5_init 96 = .ok (.sipush 150, 3) := by decide +kernel
theorem dX5_init_99 : decode cX5_init 99 = .ok (.newarray .int, 2) := by decide +kernel
theorem dX5_init_101 : decode cX5_init 101 = .ok (.putfield 45, 3) := by decide +kernel
theorem dX5_init_104 : decode cX5_init 104 = .ok (.aload_n 0, 1) := by decide +kernel
theorem dX5_init_105 : decode cX5_init 105 = .ok (.sipush 150, 3) := by decide +kernel
theorem dX5_init_108 : decode cX5_init 108 = .ok (.newarray .int, 2) := by decide +kernel
theorem dX5_init_110 : decode cX5_init 110 = .ok (.putfield 48, 3) := by decide +kernel
theorem dX5_init_113 : decode cX5_init 113 = .ok (.return_, 1) := by decide +kernel
theorem dX5_addPicture_0 : decode cX5_addPicture 0 = .ok (.iload_n 1, 1) := by decide +kernel
theorem dX5_addPicture_1 : decode cX5_addPicture 1 = .ok (.iconst 0, 1) := by decide +kernel
theorem dX5_addPicture_2 : decode cX5_addPicture 2 = .ok (.iconst 2, 1) := by decide +kernel
theorem dX5_addPicture_3 : decode cX5_addPicture 3 = .ok (.invokestatic 51, 3) := by decide +kernel
theorem dX5_addPicture_6 : decode cX5_addPicture 6 = .ok (.ifCond .eq 72, 3) := by decide +kernel
theorem dX5_addPicture_9 : decode cX5_addPicture 9 = .ok (.iload_n 2, 1) := by decide +kernel
theorem dX5_addPicture_10 : decode cX5_addPicture 10 = .ok (.iconst 0, 1) := by decide +kernel
theorem dX5_addPicture_11 : decode cX5_addPicture 11 = .ok (.iconst 5, 1) := by decide +kernel
theorem dX5_addPicture_12 : decode cX5_addPicture 12 = .ok (.invokestatic 51, 3) := by decide +kernel
theorem dX5_addPicture_15 : decode cX5_addPicture 15 = .ok (.ifCond .eq 63, 3) := by decide +kernel
theorem dX5_addPicture_18 : decode cX5_addPicture 18 = .ok (.iload_n 3, 1) := by decide +kernel
theorem dX5_addPicture_19 : decode cX5_addPicture 19 = .ok (.iconst 0, 1) := by decide +kernel
theorem dX5_addPicture_20 : decode cX5_addPicture 20 = .ok (.iconst 3, 1) := by decide +kernel
theorem dX5_addPicture_21 : decode cX5_addPicture 21 = .ok (.invokestatic 51, 3) := by decide +kernel
theorem dX5_addPicture_24 : decode cX5_addPicture 24 = .ok (.ifCond .eq 54, 3) := by decide +kernel
theorem dX5_addPicture_27 : decode cX5_addPicture 27 = .ok (.iload 4, 2) := by decide +kernel
theorem dX5_addPicture_29 : decode cX5_addPicture 29 = .ok (.iconst 0, 1) := by decide +kernel
theorem dX5_addPicture_30 : decode cX5_addPicture 30 = .ok (.iconst 3, 1) := by decide +kernel
theorem dX5_addPicture_31 : decode cX5_addPicture 31 = .ok (.invokestatic 51, 3) := by decide +kernel
theorem dX5_addPicture_34 : decode cX5_addPicture 34 = .ok (.ifCond .eq 44, 3) := by decide +kernel
theorem dX5_addPicture_37 : decode cX5_addPicture 37 = .ok (.iload 5, 2) := by decide +kernel
theorem dX5_addPicture_39 : decode cX5_addPicture 39 = .ok (.bipush 100, 2) := by decide +kernel
theorem dX5_addPicture_41 : decode cX5_addPicture 41 = .ok (.sipush 9999, 3) := by decide +kernel
theorem dX5_addPicture_44 : decode cX5_addPicture 44 = .ok (.invokestatic 51, 3) := by decide +kernel
theorem dX5_addPicture_47 : decode cX5_addPicture 47 = .ok (.ifCond .eq 31, 3) := by decide +kernel
theorem dX5_addPicture_50 : decode cX5_addPicture 50 = .ok (.iload_n 2, 1) := by decide +kernel
theorem dX5_addPicture_51 : decode cX5_addPicture 51 = .ok (.iconst 5, 1) := by decide +kernel
theorem dX5_addPicture_52 : decode cX5_addPicture 52 = .ok (.if_icmp .ne 7, 3) := by decide +kernel
theorem dX5_addPicture_55 : decode cX5_addPicture 55 = .ok (.iconst 1, 1) := by decide +kernel
theorem dX5_addPicture_56 : decode cX5_addPicture 56 = .ok (.goto 4, 3) := by decide +kernel
theorem dX5_addPicture_59 : decode cX5_addPicture 59 = .ok (.iconst 0, 1) := by decide +kernel
theorem dX5_addPicture_60 : decode cX5_addPicture 60 = .ok (.iload 4, 2) := by decide +kernel
theorem dX5_addPicture_62 : decode cX5_addPicture 62 = .ok (.iconst 3, 1) := by decide +kernel
theorem dX5_addPicture_63 : decode cX5_addPicture 63 = .ok (.if_icmp .ne 7, 3) := by decide +kernel
theorem dX5_addPicture_66 : decode cX5_addPicture 66 = .ok (.iconst 1, 1) := by decide +kernel
theorem dX5_addPicture_67 : decode cX5_addPicture 67 = .ok (.goto 4, 3) := by decide +kernel
theorem dX5_addPicture_70 : decode cX5_addPicture 70 = .ok (.iconst 0, 1) := by decide +kernel
theorem dX5_addPicture_71 : decode cX5_addPicture 71 = .ok (.if_icmp .ne 7, 3) := by decide +kernel
theorem dX5_addPicture_74 : decode cX5_addPicture 74 = .ok (.iconst 1, 1) := by decide +kernel
theorem dX5_addPicture_75 : decode cX5_addPicture 75 = .ok (.goto 4, 3) := by decide +kernel
theorem dX5_addPicture_78 : decode cX5_addPicture 78 = .ok (.iconst 0, 1) := by decide +kernel
theorem dX5_addPicture_79 : decode cX5_addPicture 79 = .ok (.istore 6, 2) := by decide +kernel
theorem dX5_addPicture_81 : decode cX5_addPicture 81 = .ok (.iload 6, 2) := by decide +kernel
theorem dX5_addPicture_83 : decode cX5_addPicture 83 = .ok (.ifCond .eq 12, 3) := by decide +kernel
theorem dX5_addPicture_86 : decode cX5_addPicture 86 = .ok (.aload_n 0, 1) := by decide +kernel
theorem dX5_addPicture_87 : decode cX5_addPicture 87 = .ok (.getfield 55, 3) := by decide +kernel
theorem dX5_addPicture_90 : decode cX5_addPicture 90 = .ok (.bipush 12, 2) := by decide +kernel
theorem dX5_addPicture_92 : decode cX5_addPicture 92 = .ok (.if_icmp .lt 5, 3) := by decide +kernel
theorem dX5_addPicture_95 : decode cX5_addPicture 95 = .ok (.iconst (-1), 1) := by decide +kernel
theorem dX5_addPicture_96 : decode cX5_addPicture 96 = .ok (.ireturn, 1) := by decide +kernel
theorem dX5_addPicture_97 : decode cX5_addPicture 97 = .ok (.aload_n 0, 1) := by decide +kernel
theorem dX5_addPicture_98 : decode cX5_addPicture 98 = .ok (.getfield 9, 3) := by decide +kernel
theorem dX5_addPicture_101 : decode cX5_addPicture 101 = .ok (.aload_n 0, 1) := by decide +kernel
theorem dX5_addPicture_102 : decode cX5_addPicture 102 = .ok (.getfield 55, 3) := by decide +kernel
theorem dX5_addPicture_105 : decode cX5_addPicture 105 = .ok (.iload_n 1, 1) := by decide +kernel
theorem dX5_addPicture_106 : decode cX5_addPicture 106 = .ok (.iastore, 1) := by decide +kernel
theorem dX5_addPicture_107 : decode cX5_addPicture 107 = .ok (.aload_n 0, 1) := by decide +kernel
theorem dX5_addPicture_108 : decode cX5_addPicture 108 = .ok (.getfield 15, 3) := by decide +kernel
theorem dX5_addPicture_111 : decode cX5_addPicture 111 = .ok (.aload_n 0, 1) := by decide +kernel
theorem dX5_addPicture_112 : decode cX5_addPicture 112 = .ok (.getfield 55, 3) := by decide +kernel
theorem dX5_addPicture_115 : decode cX5_addPicture 115 = .ok (.iload_n 2, 1) := by decide +kernel
theorem dX5_addPicture_116 : decode cX5_addPicture 116 = .ok (.iastore, 1) := by decide +kernel
theorem dX5_addPicture_117 : decode cX5_addPicture 117 = .ok (.aload_n 0, 1) := by decide +kernel
theorem dX5_addPicture_118 : decode cX5_addPicture 118 = .ok (.getfield 18, 3) := by decide +kernel
theorem dX5_addPicture_121 : decode cX5_addPicture 121 = .ok (.aload_n 0, 1) := by decide +kernel
theorem dX5_addPicture_122 : decode cX5_addPicture 122 = .ok (.getfield 55, 3) := by decide +kernel
theorem dX5_addPicture_125 : decode cX5_addPicture 125 = .ok (.iload_n 3, 1) := by decide +kernel
theorem dX5_addPicture_126 : decode cX5_addPicture 126 = .ok (.iastore, 1) := by decide +kernel
theorem dX5_addPicture_127 : decode cX5_addPicture 127 = .ok (.aload_n 0, 1) := by decide +kernel
theorem dX5_addPicture_128 : decode cX5_addPicture 128 = .ok (.getfield 21, 3) := by decide +kernel
theorem dX5_addPicture_131 : decode cX5_addPicture 131 = .ok (.aload_n 0, 1) := by decide +kernel
theorem dX5_addPicture_132 : decode cX5_addPicture 132 = .ok (.getfield 55, 3) := by decide +kernel
theorem dX5_addPicture_135 : decode cX5_addPicture 135 = .ok (.iload 4, 2) := by decide +kernel
theorem dX5_addPicture_137 : decode cX5_addPicture 137 = .ok (.iastore, 1) := by decide +kernel
theorem dX5_addPicture_138 : decode cX5_addPicture 138 = .ok (.aload_n 0, 1) := by decide +kernel
theorem dX5_addPicture_139 : decode cX5_addPicture 139 = .ok (.getfield 24, 3) := by decide +kernel
theorem dX5_addPicture_142 : decode cX5_addPicture 142 = .ok (.aload_n 0, 1) := by decide +kernel
theorem dX5_addPicture_143 : decode cX5_addPicture 143 = .ok (.getfield 55, 3) := by decide +kernel
theorem dX5_addPicture_146 : decode cX5_addPicture 146 = .ok (.iload 5, 2) := by decide +kernel
theorem dX5_addPicture_148 : decode cX5_addPicture 148 = .ok (.iastore, 1) := by decide +kernel
theorem dX5_addPicture_149 : decode cX5_addPicture 149 = .ok (.aload_n 0, 1) := by decide +kernel
theorem dX5_addPicture_150 : decode cX5_addPicture 150 = .ok (.dup, 1) := by decide +kernel
theorem dX5_addPicture_151 : decode cX5_addPicture 151 = .ok (.getfield 55, 3) := by decide +kernel
theorem dX5_addPicture_154 : decode cX5_addPicture 154 = .ok (.iconst 1, 1) := by decide +kernel
theorem dX5_addPicture_155 : decode cX5_addPicture 155 = .ok (.iadd, 1) := by decide +kernel
theorem dX5_addPicture_156 : decode cX5_addPicture 156 = .ok (.putfield 55, 3) := by decide +kernel
theorem dX5_addPicture_159 : decode cX5_addPicture 159 = .ok (.aload_n 0, 1) := by decide +kernel
theorem dX5_addPicture_160 : decode cX5_addPicture 160 = .ok (.getfield 55, 3) := by decide +kernel
theorem dX5_addPicture_163 : decode cX5_addPicture 163 = .ok (.iconst 1, 1) := by decide +kernel
theorem dX5_addPicture_164 : decode cX5_addPicture 164 = .ok (.isub, 1) := by decide +kernel
theorem dX5_addPicture_165 : decode cX5_addPicture 165 = .ok (.ireturn, 1) := by decide +kernel
theorem dX5_addPrint_0 : decode cX5_addPrint 0 = .ok (.aload_n 0, 1) := by decide +kernel
theorem dX5_addPrint_1 : decode cX5_addPrint 1 = .ok (.iload_n 1, 1) := by decide +kernel
theorem dX5_addPrint_2 : decode cX5_addPrint 2 = .ok (.invokevirtual 59, 3) := by decide +kernel
theorem dX5_addPrint_5 : decode cX5_addPrint 5 = .ok (.ifCond .eq 12, 3) := by decide +kernel
theorem dX5_addPrint_8 : decode cX5_addPrint 8 = .ok (.aload_n 0, 1) := by decide +kernel
theorem dX5_addPrint_9 : decode cX5_addPrint 9 = .ok (.getfield 63, 3) := by decide +kernel
theorem dX5_addPrint_12 : decode cX5_addPrint 12 = .ok (.bipush 30, 2) := by decide +kernel
theorem dX5_addPrint_14 : decode cX5_addPrint 14 = .ok (.if_icmp .lt 5, 3) := by decide +kernel
theorem dX5_addPrint_17 : decode cX5_addPrint 17 = .ok (.iconst (-1), 1) := by decide +kernel
theorem dX5_addPrint_18 : decode cX5_addPrint 18 = .ok (.ireturn, 1) := by decide +kernel
theorem dX5_addPrint_19 : decode cX5_addPrint 19 = .ok (.aload_n 0, 1) := by decide +kernel
theorem dX5_addPrint_20 : decode cX5_addPrint 20 = .ok (.getfield 27, 3) := by decide +kernel
theorem dX5_addPrint_23 : decode cX5_addPrint 23 = .ok (.aload_n 0, 1) := by decide +kernel
theorem dX5_addPrint_24 : decode cX5_addPrint 24 = .ok (.getfield 63, 3) := by decide +kernel
theorem dX5_addPrint_27 : decode cX5_addPrint 27 = .ok (.iload_n 1, 1) := by decide +kernel
theorem dX5_addPrint_28 : decode cX5_addPrint 28 = .ok (.iastore, 1) := by decide +kernel
theorem dX5_addPrint_29 : decode cX5_addPrint 29 = .ok (.aload_n 0, 1) := by decide +kernel
theorem dX5_addPrint_30 : decode cX5_addPrint 30 = .ok (.getfield 30, 3) := by decide +kernel
theorem dX5_addPrint_33 : decode cX5_addPrint 33 = .ok (.aload_n 0, 1) := by decide +kernel
theorem dX5_addPrint_34 : decode cX5_addPrint 34 = .ok (.getfield 63, 3) := by decide +kernel
theorem dX5_addPrint_37 : decode cX5_addPrint 37 = .ok (.iconst 0, 1) := by decide +kernel
theorem dX5_addPrint_38 : decode cX5_addPrint 38 = .ok (.iastore, 1) := by decide +kernel
theorem dX5_addPrint_39 : decode cX5_addPrint 39 = .ok (.aload_n 0, 1) := by decide +kernel
theorem dX5_addPrint_40 : decode cX5_addPrint 40 = .ok (.getfield 33, 3) := by decide +kernel
theorem dX5_addPrint_43 : decode cX5_addPrint 43 = .ok (.aload_n 0, 1) := by decide +kernel
theorem dX5_addPrint_44 : decode cX5_addPrint 44 = .ok (.getfield 63, 3) := by decide +kernel
theorem dX5_addPrint_47 : decode cX5_addPrint 47 = .ok (.iconst (-1), 1) := by decide +kernel
theorem dX5_addPrint_48 : decode cX5_addPrint 48 = .ok (.iastore, 1) := by decide +kernel
theorem dX5_addPrint_49 : decode cX5_addPrint 49 = .ok (.aload_n 0, 1) := by decide +kernel
theorem dX5_addPrint_50 : decode cX5_addPrint 50 = .ok (.dup, 1) := by decide +kernel
theorem dX5_addPrint_51 : decode cX5_addPrint 51 = .ok (.getfield 63, 3) := by decide +kernel
theorem dX5_addPrint_54 : decode cX5_addPrint 54 = .ok (.iconst 1, 1) := by decide +kernel
theorem dX5_addPrint_55 : decode cX5_addPrint 55 = .ok (.iadd, 1) := by decide +kernel
theorem dX5_addPrint_56 : decode cX5_addPrint 56 = .ok (.putfield 63, 3) := by decide +kernel
theorem dX5_addPrint_59 : decode cX5_addPrint 59 = .ok (.aload_n 0, 1) := by decide +kernel
theorem dX5_addPrint_60 : decode cX5_addPrint 60 = .ok (.getfield 63, 3) := by decide +kernel
theorem dX5_addPrint_63 : decode cX5_addPrint 63 = .ok (.iconst 1, 1) := by decide +kernel
theorem dX5_addPrint_64 : decode cX5_addPrint 64 = .ok (.isub, 1) := by decide +kernel
theorem dX5_addPrint_65 : decode cX5_addPrint 65 = .ok (.ireturn, 1) := by decide +kernel
theorem dX5_tell_0 : decode cX5_tell 0 = .ok (.aload_n 0, 1) := by decide +kernel
theorem dX5_tell_1 : decode cX5_tell 1 = .ok (.iload_n 1, 1) := by decide +kernel
theorem dX5_tell_2 : decode cX5_tell 2 = .ok (.iload_n 3, 1) := by decide +kernel
theorem dX5_tell_3 : decode cX5_tell 3 = .ok (.invokevirtual 66, 3) := by decide +kernel
theorem dX5_tell_6 : decode cX5_tell 6 = .ok (.ifCond .eq 23, 3) := by decide +kernel
theorem dX5_tell_9 : decode cX5_tell 9 = .ok (.iload_n 2, 1) := by decide +kernel
theorem dX5_tell_10 : decode cX5_tell 10 = .ok (.iload_n 3, 1) := by decide +kernel
theorem dX5_tell_11 : decode cX5_tell 11 = .ok (.iload 4, 2) := by decide +kernel
theorem dX5_tell_13 : decode cX5_tell 13 = .ok (.invokestatic 70, 3) := by decide +kernel
theorem dX5_tell_16 : decode cX5_tell 16 = .ok (.ifCond .eq 13, 3) := by decide +kernel
theorem dX5_tell_19 : decode cX5_tell 19 = .ok (.aload_n 0, 1) := by decide +kernel
theorem dX5_tell_20 : decode cX5_tell 20 = .ok (.getfield 73, 3) := by decide +kernel
theorem dX5_tell_23 : decode cX5_tell 23 = .ok (.sipush 150, 3) := by decide +kernel
theorem dX5_tell_26 : decode cX5_tell 26 = .ok (.if_icmp .lt 5, 3) := by decide +kernel
theorem dX5_tell_29 : decode cX5_tell 29 = .ok (.iconst (-1), 1) := by decide +kernel
theorem dX5_tell_30 : decode cX5_tell 30 = .ok (.ireturn, 1) := by decide +kernel
theorem dX5_tell_31 : decode cX5_tell 31 = .ok (.aload_n 0, 1) := by decide +kernel
theorem dX5_tell_32 : decode cX5_tell 32 = .ok (.getfield 36, 3) := by decide +kernel
theorem dX5_tell_35 : decode cX5_tell 35 = .ok (.aload_n 0, 1) := by decide +kernel
theorem dX5_tell_36 : decode cX5_tell 36 = .ok (.getfield 73, 3) := by decide +kernel
theorem dX5_tell_39 : decode cX5_tell 39 = .ok (.iload_n 1, 1) := by decide +kernel
theorem dX5_tell_40 : decode cX5_tell 40 = .ok (.iastore, 1) := by decide +kernel
theorem dX5_tell_41 : decode cX5_tell 41 = .ok (.aload_n 0, 1) := by decide +kernel
theorem dX5_tell_42 : decode cX5_tell 42 = .ok (.getfield 39, 3) := by decide +kernel
theorem dX5_tell_45 : decode cX5_tell 45 = .ok (.aload_n 0, 1) := by decide +kernel
theorem dX5_tell_46 : decode cX5_tell 46 = .ok (.getfield 73, 3) := by decide +kernel
theorem dX5_tell_49 : decode cX5_tell 49 = .ok (.iload_n 2, 1) := by decide +kernel
theorem dX5_tell_50 : decode cX5_tell 50 = .ok (.iastore, 1) := by decide +kernel
theorem dX5_tell_51 : decode cX5_tell 51 = .ok (.aload_n 0, 1) := by decide +kernel
theorem dX5_tell_52 : decode cX5_tell 52 = .ok (.getfield 42, 3) := by decide +kernel
theorem dX5_tell_55 : decode cX5_tell 55 = .ok (.aload_n 0, 1) := by decide +kernel
theorem dX5_tell_56 : decode cX5_tell 56 = .ok (.getfield 73, 3) := by decide +kernel
theorem dX5_tell_59 : decode cX5_tell 59 = .ok (.iload_n 3, 1) := by decide +kernel
theorem dX5_tell_60 : decode cX5_tell 60 = .ok (.iastore, 1) := by decide +kernel
theorem dX5_tell_61 : decode cX5_tell 61 = .ok (.aload_n 0, 1) := by decide +kernel
theorem dX5_tell_62 : decode cX5_tell 62 = .ok (.getfield 45, 3) := by decide +kernel
theorem dX5_tell_65 : decode cX5_tell 65 = .ok (.aload_n 0, 1) := by decide +kernel
theorem dX5_tell_66 : decode cX5_tell 66 = .ok (.getfield 73, 3) := by decide +kernel
theorem dX5_tell_69 : decode cX5_tell 69 = .ok (.iload 4, 2) := by decide +kernel
theorem dX5_tell_71 : decode cX5_tell 71 = .ok (.iastore, 1) := by decide +kernel
theorem dX5_tell_72 : decode cX5_tell 72 = .ok (.aload_n 0, 1) := by decide +kernel
theorem dX5_tell_73 : decode cX5_tell 73 = .ok (.getfield 48, 3) := by decide +kernel
theorem dX5_tell_76 : decode cX5_tell 76 = .ok (.aload_n 0, 1) := by decide +kernel
theorem dX5_tell_77 : decode cX5_tell 77 = .ok (.getfield 73, 3) := by decide +kernel
theorem dX5_tell_80 : decode cX5_tell 80 = .ok (.iload 5, 2) := by decide +kernel
theorem dX5_tell_82 : decode cX5_tell 82 = .ok (.iastore, 1) := by decide +kernel
theorem dX5_tell_83 : decode cX5_tell 83 = .ok (.aload_n 0, 1) := by decide +kernel
theorem dX5_tell_84 : decode cX5_tell 84 = .ok (.dup, 1) := by decide +kernel
theorem dX5_tell_85 : decode cX5_tell 85 = .ok (.getfield 73, 3) := by decide +kernel
theorem dX5_tell_88 : decode cX5_tell 88 = .ok (.iconst 1, 1) := by decide +kernel
theorem dX5_tell_89 : decode cX5_tell 89 = .ok (.iadd, 1) := by decide +kernel
theorem dX5_tell_90 : decode cX5_tell 90 = .ok (.putfield 73, 3) := by decide +kernel
theorem dX5_tell_93 : decode cX5_tell 93 = .ok (.aload_n 0, 1) := by decide +kernel
theorem dX5_tell_94 : decode cX5_tell 94 = .ok (.getfield 73, 3) := by decide +kernel
theorem dX5_tell_97 : decode cX5_tell 97 = .ok (.ireturn, 1) := by decide +kernel
theorem dX5_canBe_0 : decode cX5_canBe 0 = .ok (.iload_n 0, 1) := by decide +kernel
theorem dX5_canBe_1 : decode cX5_canBe 1 = .ok (.tableswitch 81 0 3 #[31, 31, 39, 60], 31) := by decide +kernel
theorem dX5_canBe_32 : decode cX5_canBe 32 = .ok (.iload_n 2, 1) := by decide +kernel
theorem dX5_canBe_33 : decode cX5_canBe 33 = .ok (.iconst 1, 1) := by decide +kernel
theorem dX5_canBe_34 : decode cX5_canBe 34 = .ok (.bipush 99, 2) := by decide +kernel
theorem dX5_canBe_36 : decode cX5_canBe 36 = .ok (.invokestatic 51, 3) := by decide +kernel
theorem dX5_canBe_39 : decode cX5_canBe 39 = .ok (.ireturn, 1) := by decide +kernel
theorem dX5_canBe_40 : decode cX5_canBe 40 = .ok (.iload_n 2, 1) := by decide +kernel
theorem dX5_canBe_41 : decode cX5_canBe 41 = .ok (.bipush (-9), 2) := by decide +kernel
theorem dX5_canBe_43 : decode cX5_canBe 43 = .ok (.bipush 9, 2) := by decide +kernel
theorem dX5_canBe_45 : decode cX5_canBe 45 = .ok (.invokestatic 51, 3) := by decide +kernel
theorem dX5_canBe_48 : decode cX5_canBe 48 = .ok (.ifCond .eq 11, 3) := by decide +kernel
theorem dX5_canBe_51 : decode cX5_canBe 51 = .ok (.iload_n 2, 1) := by decide +kernel
theorem dX5_canBe_52 : decode cX5_canBe 52 = .ok (.ifCond .eq 7, 3) := by decide +kernel
theorem dX5_canBe_55 : decode cX5_canBe 55 = .ok (.iconst 1, 1) := by decide +kernel
theorem dX5_canBe_56 : decode cX5_canBe 56 = .ok (.goto 4, 3) := by decide +kernel
theorem dX5_canBe_59 : decode cX5_canBe 59 = .ok (.iconst 0, 1) := by decide +kernel
theorem dX5_canBe_60 : decode cX5_canBe 60 = .ok (.ireturn, 1) := by decide +kernel
theorem dX5_canBe_61 : decode cX5_canBe 61 = .ok (.iload_n 2, 1) := by decide +kernel
theorem dX5_canBe_62 : decode cX5_canBe 62 = .ok (.bipush (-99), 2) := by decide +kernel
theorem dX5_canBe_64 : decode cX5_canBe 64 = .ok (.bipush 99, 2) := by decide +kernel
theorem dX5_canBe_66 : decode cX5_canBe 66 = .ok (.invokestatic 51, 3) := by decide +kernel
theorem dX5_canBe_69 : decode cX5_canBe 69 = .ok (.ifCond .eq 11, 3) := by decide +kernel
theorem dX5_canBe_72 : decode cX5_canBe 72 = .ok (.iload_n 1, 1) := by decide +kernel
theorem dX5_canBe_73 : decode cX5_canBe 73 = .ok (.ifCond .ne 7, 3) := by decide +kernel
theorem dX5_canBe_76 : decode cX5_canBe 76 = .ok (.iconst 1, 1) := by decide +kernel
theorem dX5_canBe_77 : decode cX5_canBe 77 = .ok (.goto 4, 3) := by decide +kernel
theorem dX5_canBe_80 : decode cX5_canBe 80 = .ok (.iconst 0, 1) := by decide +kernel
theorem dX5_canBe_81 : decode cX5_canBe 81 = .ok (.ireturn, 1) := by decide +kernel
theorem dX5_canBe_82 : decode cX5_canBe 82 = .ok (.iconst 0, 1) := by decide +kernel
theorem dX5_canBe_83 : decode cX5_canBe 83 = .ok (.ireturn, 1) := by decide +kernel
theorem dX5_hasPicture_0 : decode cX5_hasPicture 0 = .ok (.iload_n 1, 1) := by decide +kernel
theorem dX5_hasPicture_1 : decode cX5_hasPicture 1 = .ok (.ifCond .lt 15, 3) := by decide +kernel
theorem dX5_hasPicture_4 : decode cX5_hasPicture 4 = .ok (.iload_n 1, 1) := by decide +kernel
theorem dX5_hasPicture_5 : decode cX5_hasPicture 5 = .ok (.aload_n 0, 1) := by decide +kernel
theorem dX5_hasPicture_6 : decode cX5_hasPicture 6 = .ok (.getfield 55, 3) := by decide +kernel
theorem dX5_hasPicture_9 : decode cX5_hasPicture 9 = .ok (.if_icmp .ge 7, 3) := by decide +kernel
theorem dX5_hasPicture_12 : decode cX5_hasPicture 12 = .ok (.iconst 1, 1) := by decide +kernel
theorem dX5_hasPicture_13 : decode cX5_hasPicture 13 = .ok (.goto 4, 3) := by decide +kernel
theorem dX5_hasPicture_16 : decode cX5_hasPicture 16 = .ok (.iconst 0, 1) := by decide +kernel
theorem dX5_hasPicture_17 : decode cX5_hasPicture 17 = .ok (.ireturn, 1) := by decide +kernel
theorem dX5_hasPrint_0 : decode cX5_hasPrint 0 = .ok (.iload_n 1, 1) := by decide +kernel
theorem dX5_hasPrint_1 : decode cX5_hasPrint 1 = .ok (.ifCond .lt 15, 3) := by decide +kernel
theorem dX5_hasPrint_4 : decode cX5_hasPrint 4 = .ok (.iload_n 1, 1) := by decide +kernel
theorem dX5_hasPrint_5 : decode cX5_hasPrint 5 = .ok (.aload_n 0, 1) := by decide +kernel
theorem dX5_hasPrint_6 : decode cX5_hasPrint 6 = .ok (.getfield 63, 3) := by decide +kernel
theorem dX5_hasPrint_9 : decode cX5_hasPrint 9 = .ok (.if_icmp .ge 7, 3) := by decide +kernel
theorem dX5_hasPrint_12 : decode cX5_hasPrint 12 = .ok (.iconst 1, 1) := by decide +kernel
theorem dX5_hasPrint_13 : decode cX5_hasPrint 13 = .ok (.goto 4, 3) := by decide +kernel
theorem dX5_hasPrint_16 : decode cX5_hasPrint 16 = .ok (.iconst 0, 1) := by decide +kernel
theorem dX5_hasPrint_17 : decode cX5_hasPrint 17 = .ok (.ireturn, 1) := by decide +kernel
theorem dX5_hasFrame_0 : decode cX5_hasFrame 0 = .ok (.aload_n 0, 1) := by decide +kernel
theorem dX5_hasFrame_1 : decode cX5_hasFrame 1 = .ok (.iload_n 1, 1) := by decide +kernel
theorem dX5_hasFrame_2 : decode cX5_hasFrame 2 = .ok (.invokevirtual 76, 3) := by decide +kernel
theorem dX5_hasFrame_5 : decode cX5_hasFrame 5 = .ok (.ifCond .eq 26, 3) := by decide +kernel
theorem dX5_hasFrame_8 : decode cX5_hasFrame 8 = .ok (.iload_n 2, 1) := by decide +kernel
theorem dX5_hasFrame_9 : decode cX5_hasFrame 9 = .ok (.ifCond .lt 22, 3) := by decide +kernel
theorem dX5_hasFrame_12 : decode cX5_hasFrame 12 = .ok (.iload_n 2, 1) := by decide +kernel
theorem dX5_hasFrame_13 : decode cX5_hasFrame 13 = .ok (.aload_n 0, 1) := by decide +kernel
theorem dX5_hasFrame_14 : decode cX5_hasFrame 14 = .ok (.getfield 24, 3) := by decide +kernel
theorem dX5_hasFrame_17 : decode cX5_hasFrame 17 = .ok (.aload_n 0, 1) := by decide +kernel
theorem dX5_hasFrame_18 : decode cX5_hasFrame 18 = .ok (.getfield 27, 3) := by decide +kernel
theorem dX5_hasFrame_21 : decode cX5_hasFrame 21 = .ok (.iload_n 1, 1) := by decide +kernel
theorem dX5_hasFrame_22 : decode cX5_hasFrame 22 = .ok (.iaload, 1) := by decide +kernel
theorem dX5_hasFrame_23 : decode cX5_hasFrame 23 = .ok (.iaload, 1) := by decide +kernel
theorem dX5_hasFrame_24 : decode cX5_hasFrame 24 = .ok (.if_icmp .ge 7, 3) := by decide +kernel
theorem dX5_hasFrame_27 : decode cX5_hasFrame 27 = .ok (.iconst 1, 1) := by decide +kernel
theorem dX5_hasFrame_28 : decode cX5_hasFrame 28 = .ok (.goto 4, 3) := by decide +kernel
theorem dX5_hasFrame_31 : decode cX5_hasFrame 31 = .ok (.iconst 0, 1) := by decide +kernel
theorem dX5_hasFrame_32 : decode cX5_hasFrame 32 = .ok (.ireturn, 1) := by decide +kernel
theorem dX5_leadAt_0 : decode cX5_leadAt 0 = .ok (.iconst 0, 1) := by decide +kernel
theorem dX5_leadAt_1 : decode cX5_leadAt 1 = .ok (.istore 4, 2) := by decide +kernel
theorem dX5_leadAt_3 : decode cX5_leadAt 3 = .ok (.iconst 0, 1) := by decide +kernel
theorem dX5_leadAt_4 : decode cX5_leadAt 4 = .ok (.istore 5, 2) := by decide +kernel
theorem dX5_leadAt_6 : decode cX5_leadAt 6 = .ok (.aload_n 0, 1) := by decide +kernel
theorem dX5_leadAt_7 : decode cX5_leadAt 7 = .ok (.getfield 21, 3) := by decide +kernel
theorem dX5_leadAt_10 : decode cX5_leadAt 10 = .ok (.aload_n 0, 1) := by decide +kernel
theorem dX5_leadAt_11 : decode cX5_leadAt 11 = .ok (.getfield 27, 3) := by decide +kernel
theorem dX5_leadAt_14 : decode cX5_leadAt 14 = .ok (.iload_n 1, 1) := by decide +kernel
theorem dX5_leadAt_15 : decode cX5_leadAt 15 = .ok (.iaload, 1) := by decide +kernel
theorem dX5_leadAt_16 : decode cX5_leadAt 16 = .ok (.iaload, 1) := by decide +kernel
theorem dX5_leadAt_17 : decode cX5_leadAt 17 = .ok (.ifCond .eq 5, 3) := by decide +kernel
theorem dX5_leadAt_20 : decode cX5_leadAt 20 = .ok (.iconst 0, 1) := by decide +kernel
theorem dX5_leadAt_21 : decode cX5_leadAt 21 = .ok (.ireturn, 1) := by decide +kernel
theorem dX5_leadAt_22 : decode cX5_leadAt 22 = .ok (.iconst 0, 1) := by decide +kernel
theorem dX5_leadAt_23 : decode cX5_leadAt 23 = .ok (.istore 6, 2) := by decide +kernel
theorem dX5_leadAt_25 : decode cX5_leadAt 25 = .ok (.iload 6, 2) := by decide +kernel
theorem dX5_leadAt_27 : decode cX5_leadAt 27 = .ok (.aload_n 0, 1) := by decide +kernel
theorem dX5_leadAt_28 : decode cX5_leadAt 28 = .ok (.getfield 73, 3) := by decide +kernel
theorem dX5_leadAt_31 : decode cX5_leadAt 31 = .ok (.if_icmp .ge 136, 3) := by decide +kernel
theorem dX5_leadAt_34 : decode cX5_leadAt 34 = .ok (.aload_n 0, 1) := by decide +kernel
theorem dX5_leadAt_35 : decode cX5_leadAt 35 = .ok (.getfield 36, 3) := by decide +kernel
theorem dX5_leadAt_38 : decode cX5_leadAt 38 = .ok (.iload 6, 2) := by decide +kernel
theorem dX5_leadAt_40 : decode cX5_leadAt 40 = .ok (.iaload, 1) := by decide +kernel
theorem dX5_leadAt_41 : decode cX5_leadAt 41 = .ok (.iload_n 1, 1) := by decide +kernel
theorem dX5_leadAt_42 : decode cX5_leadAt 42 = .ok (.if_icmp .ne 119, 3) := by decide +kernel
theorem dX5_leadAt_45 : decode cX5_leadAt 45 = .ok (.aload_n 0, 1) := by decide +kernel
theorem dX5_leadAt_46 : decode cX5_leadAt 46 = .ok (.getfield 48, 3) := by decide +kernel
theorem dX5_leadAt_49 : decode cX5_leadAt 49 = .ok (.iload 6, 2) := by decide +kernel
theorem dX5_leadAt_51 : decode cX5_leadAt 51 = .ok (.iaload, 1) := by decide +kernel
theorem dX5_leadAt_52 : decode cX5_leadAt 52 = .ok (.iload_n 3, 1) := by decide +kernel
theorem dX5_leadAt_53 : decode cX5_leadAt 53 = .ok (.if_icmp .gt 108, 3) := by decide +kernel
theorem dX5_leadAt_56 : decode cX5_leadAt 56 = .ok (.aload_n 0, 1) := by decide +kernel
theorem dX5_leadAt_57 : decode cX5_leadAt 57 = .ok (.getfield 42, 3) := by decide +kernel
theorem dX5_leadAt_60 : decode cX5_leadAt 60 = .ok (.iload 6, 2) := by decide +kernel
theorem dX5_leadAt_62 : decode cX5_leadAt 62 = .ok (.iaload, 1) := by decide +kernel
theorem dX5_leadAt_63 : decode cX5_leadAt 63 = .ok (.iload_n 2, 1) := by decide +kernel
theorem dX5_leadAt_64 : decode cX5_leadAt 64 = .ok (.if_icmp .le 6, 3) := by decide +kernel
theorem dX5_leadAt_67 : decode cX5_leadAt 67 = .ok (.goto 94, 3) := by decide +kernel
theorem dX5_leadAt_70 : decode cX5_leadAt 70 = .ok (.aload_n 0, 1) := by decide +kernel
theorem dX5_leadAt_71 : decode cX5_leadAt 71 = .ok (.getfield 39, 3) := by decide +kernel
theorem dX5_leadAt_74 : decode cX5_leadAt 74 = .ok (.iload 6, 2) := by decide +kernel
theorem dX5_leadAt_76 : decode cX5_leadAt 76 = .ok (.iaload, 1) := by decide +kernel
theorem dX5_leadAt_77 : decode cX5_leadAt 77 = .ok (.tableswitch 75 0 2 #[27, 42, 57], 27) := by decide +kernel
theorem dX5_leadAt_104 : decode cX5_leadAt 104 = .ok (.iload 4, 2) := by decide +kernel
theorem dX5_leadAt_106 : decode cX5_leadAt 106 = .ok (.aload_n 0, 1) := by decide +kernel
theorem dX5_leadAt_107 : decode cX5_leadAt 107 = .ok (.getfield 45, 3) := by decide +kernel
theorem dX5_leadAt_110 : decode cX5_leadAt 110 = .ok (.iload 6, 2) := by decide +kernel
theorem dX5_leadAt_112 : decode cX5_leadAt 112 = .ok (.iaload, 1) := by decide +kernel
theorem dX5_leadAt_113 : decode cX5_leadAt 113 = .ok (.isub, 1) := by decide +kernel
theorem dX5_leadAt_114 : decode cX5_leadAt 114 = .ok (.istore 4, 2) := by decide +kernel
theorem dX5_leadAt_116 : decode cX5_leadAt 116 = .ok (.goto 45, 3) := by decide +kernel
theorem dX5_leadAt_119 : decode cX5_leadAt 119 = .ok (.iload 4, 2) := by decide +kernel
theorem dX5_leadAt_121 : decode cX5_leadAt 121 = .ok (.aload_n 0, 1) := by decide +kernel
theorem dX5_leadAt_122 : decode cX5_leadAt 122 = .ok (.getfield 45, 3) := by decide +kernel
theorem dX5_leadAt_125 : decode cX5_leadAt 125 = .ok (.iload 6, 2) := by decide +kernel
theorem dX5_leadAt_127 : decode cX5_leadAt 127 = .ok (.iaload, 1) := by decide +kernel
theorem dX5_leadAt_128 : decode cX5_leadAt 128 = .ok (.iadd, 1) := by decide +kernel
theorem dX5_leadAt_129 : decode cX5_leadAt 129 = .ok (.istore 4, 2) := by decide +kernel
theorem dX5_leadAt_131 : decode cX5_leadAt 131 = .ok (.goto 30, 3) := by decide +kernel
theorem dX5_leadAt_134 : decode cX5_leadAt 134 = .ok (.iload 4, 2) := by decide +kernel
theorem dX5_leadAt_136 : decode cX5_leadAt 136 = .ok (.bipush 33, 2) := by decide +kernel
theorem dX5_leadAt_138 : decode cX5_leadAt 138 = .ok (.aload_n 0, 1) := by decide +kernel
theorem dX5_leadAt_139 : decode cX5_leadAt 139 = .ok (.getfield 45, 3) := by decide +kernel
theorem dX5_leadAt_142 : decode cX5_leadAt 142 = .ok (.iload 6, 2) := by decide +kernel
theorem dX5_leadAt_144 : decode cX5_leadAt 144 = .ok (.iaload, 1) := by decide +kernel
theorem dX5_leadAt_145 : decode cX5_leadAt 145 = .ok (.imul, 1) := by decide +kernel
theorem dX5_leadAt_146 : decode cX5_leadAt 146 = .ok (.iadd, 1) := by decide +kernel
theorem dX5_leadAt_147 : decode cX5_leadAt 147 = .ok (.istore 4, 2) := by decide +kernel
theorem dX5_leadAt_149 : decode cX5_leadAt 149 = .ok (.goto 12, 3) := by decide +kernel
theorem dX5_leadAt_152 : decode cX5_leadAt 152 = .ok (.aload_n 0, 1) := by decide +kernel
theorem dX5_leadAt_153 : decode cX5_leadAt 153 = .ok (.getfield 45, 3) := by decide +kernel
theorem dX5_leadAt_156 : decode cX5_leadAt 156 = .ok (.iload 6, 2) := by decide +kernel
theorem dX5_leadAt_158 : decode cX5_leadAt 158 = .ok (.iaload, 1) := by decide +kernel
theorem dX5_leadAt_159 : decode cX5_leadAt 159 = .ok (.istore 5, 2) := by decide +kernel
theorem dX5_leadAt_161 : decode cX5_leadAt 161 = .ok (.iinc 6 1, 3) := by decide +kernel
theorem dX5_leadAt_164 : decode cX5_leadAt 164 = .ok (.goto (-139), 3) := by decide +kernel
theorem dX5_leadAt_167 : decode cX5_leadAt 167 = .ok (.iload 4, 2) := by decide +kernel
theorem dX5_leadAt_169 : decode cX5_leadAt 169 = .ok (.iload 5, 2) := by decide +kernel
theorem dX5_leadAt_171 : decode cX5_leadAt 171 = .ok (.iadd, 1) := by decide +kernel
theorem dX5_leadAt_172 : decode cX5_leadAt 172 = .ok (.ireturn, 1) := by decide +kernel
theorem dX5_firstOff_0 : decode cX5_firstOff 0 = .ok (.aload_n 0, 1) := by decide +kernel
theorem dX5_firstOff_1 : decode cX5_firstOff 1 = .ok (.getfield 21, 3) := by decide +kernel
theorem dX5_firstOff_4 : decode cX5_firstOff 4 = .ok (.aload_n 0, 1) := by decide +kernel
theorem dX5_firstOff_5 : decode cX5_firstOff 5 = .ok (.getfield 27, 3) := by decide +kernel
theorem dX5_firstOff_8 : decode cX5_firstOff 8 = .ok (.iload_n 1, 1) := by decide +kernel
theorem dX5_firstOff_9 : decode cX5_firstOff 9 = .ok (.iaload, 1) := by decide +kernel
theorem dX5_firstOff_10 : decode cX5_firstOff 10 = .ok (.iaload, 1) := by decide +kernel
theorem dX5_firstOff_11 : decode cX5_firstOff 11 = .ok (.ifCond .eq 5, 3) := by decide +kernel
theorem dX5_firstOff_14 : decode cX5_firstOff 14 = .ok (.iconst (-1), 1) := by decide +kernel
theorem dX5_firstOff_15 : decode cX5_firstOff 15 = .ok (.ireturn, 1) := by decide +kernel
theorem dX5_firstOff_16 : decode cX5_firstOff 16 = .ok (.iconst (-1), 1) := by decide +kernel
theorem dX5_firstOff_17 : decode cX5_firstOff 17 = .ok (.istore_n 3, 1) := by decide +kernel
theorem dX5_firstOff_18 : decode cX5_firstOff 18 = .ok (.iconst 0, 1) := by decide +kernel
theorem dX5_firstOff_19 : decode cX5_firstOff 19 = .ok (.istore 4, 2) := by decide +kernel
theorem dX5_firstOff_21 : decode cX5_firstOff 21 = .ok (.iload 4, 2) := by decide +kernel
theorem dX5_firstOff_23 : decode cX5_firstOff 23 = .ok (.aload_n 0, 1) := by decide +kernel
theorem dX5_firstOff_24 : decode cX5_firstOff 24 = .ok (.getfield 73, 3) := by decide +kernel
theorem dX5_firstOff_27 : decode cX5_firstOff 27 = .ok (.if_icmp .ge 83, 3) := by decide +kernel
theorem dX5_firstOff_30 : decode cX5_firstOff 30 = .ok (.iload_n 3, 1) := by decide +kernel
theorem dX5_firstOff_31 : decode cX5_firstOff 31 = .ok (.iconst (-1), 1) := by decide +kernel
theorem dX5_firstOff_32 : decode cX5_firstOff 32 = .ok (.if_icmp .eq 14, 3) := by decide +kernel
theorem dX5_firstOff_35 : decode cX5_firstOff 35 = .ok (.aload_n 0, 1) := by decide +kernel
theorem dX5_firstOff_36 : decode cX5_firstOff 36 = .ok (.getfield 42, 3) := by decide +kernel
theorem dX5_firstOff_39 : decode cX5_firstOff 39 = .ok (.iload 4, 2) := by decide +kernel
theorem dX5_firstOff_41 : decode cX5_firstOff 41 = .ok (.iaload, 1) := by decide +kernel
theorem dX5_firstOff_42 : decode cX5_firstOff 42 = .ok (.iload_n 3, 1) := by decide +kernel
theorem dX5_firstOff_43 : decode cX5_firstOff 43 = .ok (.if_icmp .ge 7, 3) := by decide +kernel
theorem dX5_firstOff_46 : decode cX5_firstOff 46 = .ok (.iconst 1, 1) := by decide +kernel
theorem dX5_firstOff_47 : decode cX5_firstOff 47 = .ok (.goto 4, 3) := by decide +kernel
theorem dX5_firstOff_50 : decode cX5_firstOff 50 = .ok (.iconst 0, 1) := by decide +kernel
theorem dX5_firstOff_51 : decode cX5_firstOff 51 = .ok (.istore 5, 2) := by decide +kernel
theorem dX5_firstOff_53 : decode cX5_firstOff 53 = .ok (.aload_n 0, 1) := by decide +kernel
theorem dX5_firstOff_54 : decode cX5_firstOff 54 = .ok (.getfield 36, 3) := by decide +kernel
theorem dX5_firstOff_57 : decode cX5_firstOff 57 = .ok (.iload 4, 2) := by decide +kernel
theorem dX5_firstOff_59 : decode cX5_firstOff 59 = .ok (.iaload, 1) := by decide +kernel
theorem dX5_firstOff_60 : decode cX5_firstOff 60 = .ok (.iload_n 1, 1) := by decide +kernel
theorem dX5_firstOff_61 : decode cX5_firstOff 61 = .ok (.if_icmp .ne 43, 3) := by decide +kernel
theorem dX5_firstOff_64 : decode cX5_firstOff 64 = .ok (.aload_n 0, 1) := by decide +kernel
theorem dX5_firstOff_65 : decode cX5_firstOff 65 = .ok (.getfield 48, 3) := by decide +kernel
theorem dX5_firstOff_68 : decode cX5_firstOff 68 = .ok (.iload 4, 2) := by decide +kernel
theorem dX5_firstOff_70 : decode cX5_firstOff 70 = .ok (.iaload, 1) := by decide +kernel
theorem dX5_firstOff_71 : decode cX5_firstOff 71 = .ok (.iload_n 2, 1) := by decide +kernel
theorem dX5_firstOff_72 : decode cX5_firstOff 72 = .ok (.if_icmp .gt 32, 3) := by decide +kernel
theorem dX5_firstOff_75 : decode cX5_firstOff 75 = .ok (.iload 5, 2) := by decide +kernel
theorem dX5_firstOff_77 : decode cX5_firstOff 77 = .ok (.ifCond .eq 27, 3) := by decide +kernel
theorem dX5_firstOff_80 : decode cX5_firstOff 80 = .ok (.aload_n 0, 1) := by decide +kernel
theorem dX5_firstOff_81 : decode cX5_firstOff 81 = .ok (.iload_n 1, 1) := by decide +kernel
theorem dX5_firstOff_82 : decode cX5_firstOff 82 = .ok (.aload_n 0, 1) := by decide +kernel
theorem dX5_firstOff_83 : decode cX5_firstOff 83 = .ok (.getfield 42, 3) := by decide +kernel
theorem dX5_firstOff_86 : decode cX5_firstOff 86 = .ok (.iload 4, 2) := by decide +kernel
theorem dX5_firstOff_88 : decode cX5_firstOff 88 = .ok (.iaload, 1) := by decide +kernel
theorem dX5_firstOff_89 : decode cX5_firstOff 89 = .ok (.iload_n 2, 1) := by decide +kernel
theorem dX5_firstOff_90 : decode cX5_firstOff 90 = .ok (.invokevirtual 79, 3) := by decide +kernel
theorem dX5_firstOff_93 : decode cX5_firstOff 93 = .ok (.ifCond .eq 11, 3) := by decide +kernel
theorem dX5_firstOff_96 : decode cX5_firstOff 96 = .ok (.aload_n 0, 1) := by decide +kernel
theorem dX5_firstOff_97 : decode cX5_firstOff 97 = .ok (.getfield 42, 3) := by decide +kernel
theorem dX5_firstOff_100 : decode cX5_firstOff 100 = .ok (.iload 4, 2) := by decide +kernel
theorem dX5_firstOff_102 : decode cX5_firstOff 102 = .ok (.iaload, 1) := by decide +kernel
theorem dX5_firstOff_103 : decode cX5_firstOff 103 = .ok (.istore_n 3, 1) := by decide +kernel
theorem dX5_firstOff_104 : decode cX5_firstOff 104 = .ok (.iinc 4 1, 3) := by decide +kernel
theorem dX5_firstOff_107 : decode cX5_firstOff 107 = .ok (.goto (-86), 3) := by decide +kernel
theorem dX5_firstOff_110 : decode cX5_firstOff 110 = .ok (.iload_n 3, 1) := by decide +kernel
theorem dX5_firstOff_111 : decode cX5_firstOff 111 = .ok (.ireturn, 1) := by decide +kernel
theorem dX5_isOff_0 : decode cX5_isOff 0 = .ok (.aload_n 0, 1) := by decide +kernel
theorem dX5_isOff_1 : decode cX5_isOff 1 = .ok (.iload_n 1, 1) := by decide +kernel
theorem dX5_isOff_2 : decode cX5_isOff 2 = .ok (.iload_n 2, 1) := by decide +kernel
theorem dX5_isOff_3 : decode cX5_isOff 3 = .ok (.iload_n 3, 1) := by decide +kernel
theorem dX5_isOff_4 : decode cX5_isOff 4 = .ok (.invokevirtual 82, 3) := by decide +kernel
theorem dX5_isOff_7 : decode cX5_isOff 7 = .ok (.bipush (-3), 2) := by decide +kernel
theorem dX5_isOff_9 : decode cX5_isOff 9 = .ok (.iconst 3, 1) := by decide +kernel
theorem dX5_isOff_10 : decode cX5_isOff 10 = .ok (.invokestatic 51, 3) := by decide +kernel
theorem dX5_isOff_13 : decode cX5_isOff 13 = .ok (.ifCond .ne 7, 3) := by decide +kernel
theorem dX5_isOff_16 : decode cX5_isOff 16 = .ok (.iconst 1, 1) := by decide +kernel
theorem dX5_isOff_17 : decode cX5_isOff 17 = .ok (.goto 4, 3) := by decide +kernel
theorem dX5_isOff_20 : decode cX5_isOff 20 = .ok (.iconst 0, 1) := by decide +kernel
theorem dX5_isOff_21 : decode cX5_isOff 21 = .ok (.ireturn, 1) := by decide +kernel
theorem dX5_tellOf_0 : decode cX5_tellOf 0 = .ok (.aload_n 0, 1) := by decide +kernel
theorem dX5_tellOf_1 : decode cX5_tellOf 1 = .ok (.iload_n 1, 1) := by decide +kernel
theorem dX5_tellOf_2 : decode cX5_tellOf 2 = .ok (.invokevirtual 76, 3) := by decide +kernel
theorem dX5_tellOf_5 : decode cX5_tellOf 5 = .ok (.ifCond .ne 5, 3) := by decide +kernel
theorem dX5_tellOf_8 : decode cX5_tellOf 8 = .ok (.iconst (-1), 1) := by decide +kernel
theorem dX5_tellOf_9 : decode cX5_tellOf 9 = .ok (.ireturn, 1) := by decide +kernel
theorem dX5_tellOf_10 : decode cX5_tellOf 10 = .ok (.iload_n 2, 1) := by decide +kernel
theorem dX5_tellOf_11 : decode cX5_tellOf 11 = .ok (.tableswitch 46 0 2 #[25, 32, 39], 25) := by decide +kernel
theorem dX5_tellOf_36 : decode cX5_tellOf 36 = .ok (.aload_n 0, 1) := by decide +kernel
theorem dX5_tellOf_37 : decode cX5_tellOf 37 = .ok (.getfield 27, 3) := by decide +kernel
theorem dX5_tellOf_40 : decode cX5_tellOf 40 = .ok (.iload_n 1, 1) := by decide +kernel
theorem dX5_tellOf_41 : decode cX5_tellOf 41 = .ok (.iaload, 1) := by decide +kernel
theorem dX5_tellOf_42 : decode cX5_tellOf 42 = .ok (.ireturn, 1) := by decide +kernel
theorem dX5_tellOf_43 : decode cX5_tellOf 43 = .ok (.aload_n 0, 1) := by decide +kernel
theorem dX5_tellOf_44 : decode cX5_tellOf 44 = .ok (.getfield 30, 3) := by decide +kernel
theorem dX5_tellOf_47 : decode cX5_tellOf 47 = .ok (.iload_n 1, 1) := by decide +kernel
theorem dX5_tellOf_48 : decode cX5_tellOf 48 = .ok (.iaload, 1) := by decide +kernel
theorem dX5_tellOf_49 : decode cX5_tellOf 49 = .ok (.ireturn, 1) := by decide +kernel
theorem dX5_tellOf_50 : decode cX5_tellOf 50 = .ok (.aload_n 0, 1) := by decide +kernel
theorem dX5_tellOf_51 : decode cX5_tellOf 51 = .ok (.getfield 33, 3) := by decide +kernel
theorem dX5_tellOf_54 : decode cX5_tellOf 54 = .ok (.iload_n 1, 1) := by decide +kernel
theorem dX5_tellOf_55 : decode cX5_tellOf 55 = .ok (.iaload, 1) := by decide +kernel
theorem dX5_tellOf_56 : decode cX5_tellOf 56 = .ok (.ireturn, 1) := by decide +kernel
theorem dX5_tellOf_57 : decode cX5_tellOf 57 = .ok (.iconst (-1), 1) := by decide +kernel
theorem dX5_tellOf_58 : decode cX5_tellOf 58 = .ok (.ireturn, 1) := by decide +kernel
theorem dX5_wornOut_0 : decode cX5_wornOut 0 = .ok (.iconst 0, 1) := by decide +kernel
theorem dX5_wornOut_1 : decode cX5_wornOut 1 = .ok (.istore_n 1, 1) := by decide +kernel
theorem dX5_wornOut_2 : decode cX5_wornOut 2 = .ok (.iconst 0, 1) := by decide +kernel
theorem dX5_wornOut_3 : decode cX5_wornOut 3 = .ok (.istore_n 2, 1) := by decide +kernel
theorem dX5_wornOut_4 : decode cX5_wornOut 4 = .ok (.iload_n 2, 1) := by decide +kernel
theorem dX5_wornOut_5 : decode cX5_wornOut 5 = .ok (.aload_n 0, 1) := by decide +kernel
theorem dX5_wornOut_6 : decode cX5_wornOut 6 = .ok (.getfield 63, 3) := by decide +kernel
theorem dX5_wornOut_9 : decode cX5_wornOut 9 = .ok (.if_icmp .ge 23, 3) := by decide +kernel
theorem dX5_wornOut_12 : decode cX5_wornOut 12 = .ok (.aload_n 0, 1) := by decide +kernel
theorem dX5_wornOut_13 : decode cX5_wornOut 13 = .ok (.getfield 30, 3) := by decide +kernel
theorem dX5_wornOut_16 : decode cX5_wornOut 16 = .ok (.iload_n 2, 1) := by decide +kernel
theorem dX5_wornOut_17 : decode cX5_wornOut 17 = .ok (.iaload, 1) := by decide +kernel
theorem dX5_wornOut_18 : decode cX5_wornOut 18 = .ok (.bipush 12, 2) := by decide +kernel
theorem dX5_wornOut_20 : decode cX5_wornOut 20 = .ok (.if_icmp .ne 6, 3) := by decide +kernel
theorem dX5_wornOut_23 : decode cX5_wornOut 23 = .ok (.iinc 1 1, 3) := by decide +kernel
theorem dX5_wornOut_26 : decode cX5_wornOut 26 = .ok (.iinc 2 1, 3) := by decide +kernel
theorem dX5_wornOut_29 : decode cX5_wornOut 29 = .ok (.goto (-25), 3) := by decide +kernel
theorem dX5_wornOut_32 : decode cX5_wornOut 32 = .ok (.iload_n 1, 1) := by decide +kernel
theorem dX5_wornOut_33 : decode cX5_wornOut 33 = .ok (.ireturn, 1) := by decide +kernel
theorem dX6_init_0 : decode cX6_init 0 = .ok (.aload_n 0, 1) := by decide +kernel
theorem dX6_init_1 : decode cX6_init 1 = .ok (.invokespecial 3, 3) := by decide +kernel
theorem dX6_init_4 : decode cX6_init 4 = .ok (.aload_n 0, 1) := by decide +kernel
theorem dX6_init_5 : decode cX6_init 5 = .ok (.sipush 640, 3) := by decide +kernel
theorem dX6_init_8 : decode cX6_init 8 = .ok (.newarray .int, 2) := by decide +kernel
theorem dX6_init_10 : decode cX6_init 10 = .ok (.putfield 11, 3) := by decide +kernel
theorem dX6_init_13 : decode cX6_init 13 = .ok (.aload_n 0, 1) := by decide +kernel
theorem dX6_init_14 : decode cX6_init 14 = .ok (.bipush 20, 2) := by decide +kernel
theorem dX6_init_16 : decode cX6_init 16 = .ok (.newarray .int, 2) := by decide +kernel
theorem dX6_init_18 : decode cX6_init 18 = .ok (.putfield 15, 3) := by decide +kernel
theorem dX6_init_21 : decode cX6_init 21 = .ok (.aload_n 0, 1) := by decide +kernel
theorem dX6_init_22 : decode cX6_init 22 = .ok (.bipush 20, 2) := by decide +kernel
theorem dX6_init_24 : decode cX6_init 24 = .ok (.newarray .int, 2) := by decide +kernel
theorem dX6_init_26 : decode cX6_init 26 = .ok (.putfield 18, 3) := by decide +kernel
theorem dX6_init_29 : decode cX6_init 29 = .ok (.aload_n 0, 1) := by decide +kernel
theorem dX6_init_30 : decode cX6_init 30 = .ok (.bipush 64, 2) := by decide +kernel
theorem dX6_init_32 : decode cX6_init 32 = .ok (.newarray .int, 2) := by decide +kernel
theorem dX6_init_34 : decode cX6_init 34 = .ok (.putfield 21, 3) := by decide +kernel
theorem dX6_init_37 : decode cX6_init 37 = .ok (.return_, 1) := by decide +kernel
theorem dX6_empty_0 : decode cX6_empty 0 = .ok (.aload_n 0, 1) := by decide +kernel
theorem dX6_empty_1 : decode cX6_empty 1 = .ok (.iconst 0, 1) := by decide +kernel
theorem dX6_empty_2 : decode cX6_empty 2 = .ok (.putfield 24, 3) := by decide +kernel
theorem dX6_empty_5 : decode cX6_empty 5 = .ok (.aload_n 0, 1) := by decide +kernel
theorem dX6_empty_6 : decode cX6_empty 6 = .ok (.iconst 0, 1) := by decide +kernel
theorem dX6_empty_7 : decode cX6_empty 7 = .ok (.putfield 28, 3) := by decide +kernel
theorem dX6_empty_10 : decode cX6_empty 10 = .ok (.return_, 1) := by decide +kernel
theorem dX6_begin_0 : decode cX6_begin 0 = .ok (.aload_n 0, 1) := by decide +kernel
theorem dX6_begin_1 : decode cX6_begin 1 = .ok (.getfield 28, 3) := by decide +kernel
theorem dX6_begin_4 : decode cX6_begin 4 = .ok (.bipush 20, 2) := by decide +kernel
theorem dX6_begin_6 : decode cX6_begin 6 = .ok (.if_icmp .ge 36, 3) := by decide +kernel
theorem dX6_begin_9 : decode cX6_begin 9 = .ok (.aload_n 0, 1) := by decide +kernel
theorem dX6_begin_10 : decode cX6_begin 10 = .ok (.getfield 15, 3) := by decide +kernel
theorem dX6_begin_13 : decode cX6_begin 13 = .ok (.aload_n 0, 1) := by decide +kernel
theorem dX6_begin_14 : decode cX6_begin 14 = .ok (.getfield 28, 3) := by decide +kernel
theorem dX6_begin_17 : decode cX6_begin 17 = .ok (.iload_n 1, 1) := by decide +kernel
theorem dX6_begin_18 : decode cX6_begin 18 = .ok (.iastore, 1) := by decide +kernel
theorem dX6_begin_19 : decode cX6_begin 19 = .ok (.aload_n 0, 1) := by decide +kernel
theorem dX6_begin_20 : decode cX6_begin 20 = .ok (.getfield 18, 3) := by decide +kernel
theorem dX6_begin_23 : decode cX6_begin 23 = .ok (.aload_n 0, 1) := by decide +kernel
theorem dX6_begin_24 : decode cX6_begin 24 = .ok (.getfield 28, 3) := by decide +kernel
theorem dX6_begin_27 : decode cX6_begin 27 = .ok (.aload_n 0, 1) := by decide +kernel
theorem dX6_begin_28 : decode cX6_begin 28 = .ok (.getfield 24, 3) := by decide +kernel
theorem dX6_begin_31 : decode cX6_begin 31 = .ok (.iastore, 1) := by decide +kernel
theorem dX6_begin_32 : decode cX6_begin 32 = .ok (.aload_n 0, 1) := by decide +kernel
theorem dX6_begin_33 : decode cX6_begin 33 = .ok (.dup, 1) := by decide +kernel
theorem dX6_begin_34 : decode cX6_begin 34 = .ok (.getfield 28, 3) := by decide +kernel
theorem dX6_begin_37 : decode cX6_begin 37 = .ok (.iconst 1, 1) := by decide +kernel
theorem dX6_begin_38 : decode cX6_begin 38 = .ok (.iadd, 1) := by decide +kernel
theorem dX6_begin_39 : decode cX6_begin 39 = .ok (.putfield 28, 3) := by decide +kernel
theorem dX6_begin_42 : decode cX6_begin 42 = .ok (.return_, 1) := by decide +kernel
theorem dX6_add_0 : decode cX6_add 0 = .ok (.aload_n 0, 1) := by decide +kernel
theorem dX6_add_1 : decode cX6_add 1 = .ok (.getfield 24, 3) := by decide +kernel
theorem dX6_add_4 : decode cX6_add 4 = .ok (.sipush 640, 3) := by decide +kernel
theorem dX6_add_7 : decode cX6_add 7 = .ok (.if_icmp .ge 23, 3) := by decide +kernel
theorem dX6_add_10 : decode cX6_add 10 = .ok (.aload_n 0, 1) := by decide +kernel
theorem dX6_add_11 : decode cX6_add 11 = .ok (.getfield 11, 3) := by decide +kernel
theorem dX6_add_14 : decode cX6_add 14 = .ok (.aload_n 0, 1) := by decide +kernel
theorem dX6_add_15 : decode cX6_add 15 = .ok (.getfield 24, 3) := by decide +kernel
theorem dX6_add_18 : decode cX6_add 18 = .ok (.iload_n 1, 1) := by decide +kernel
theorem dX6_add_19 : decode cX6_add 19 = .ok (.iastore, 1) := by decide +kernel
theorem dX6_add_20 : decode cX6_add 20 = .ok (.aload_n 0, 1) := by decide +kernel
theorem dX6_add_21 : decode cX6_add 21 = .ok (.dup, 1) := by decide +kernel
theorem dX6_add_22 : decode cX6_add 22 = .ok (.getfield 24, 3) := by decide +kernel
theorem dX6_add_25 : decode cX6_add 25 = .ok (.iconst 1, 1) := by decide +kernel
theorem dX6_add_26 : decode cX6_add 26 = .ok (.iadd, 1) := by decide +kernel
theorem dX6_add_27 : decode cX6_add 27 = .ok (.putfield 24, 3) := by decide +kernel
theorem dX6_add_30 : decode cX6_add 30 = .ok (.return_, 1) := by decide +kernel
theorem dX6_isSo_0 : decode cX6_isSo 0 = .ok (.iload_n 1, 1) := by decide +kernel
theorem dX6_isSo_1 : decode cX6_isSo 1 = .ok (.iconst 1, 1) := by decide +kernel
theorem dX6_isSo_2 : decode cX6_isSo 2 = .ok (.iadd, 1) := by decide +kernel
theorem dX6_isSo_3 : decode cX6_isSo 3 = .ok (.aload_n 0, 1) := by decide +kernel
theorem dX6_isSo_4 : decode cX6_isSo 4 = .ok (.getfield 28, 3) := by decide +kernel
theorem dX6_isSo_7 : decode cX6_isSo 7 = .ok (.if_icmp .ge 14, 3) := by decide +kernel
theorem dX6_isSo_10 : decode cX6_isSo 10 = .ok (.aload_n 0, 1) := by decide +kernel
theorem dX6_isSo_11 : decode cX6_isSo 11 = .ok (.getfield 18, 3) := by decide +kernel
theorem dX6_isSo_14 : decode cX6_isSo 14 = .ok (.iload_n 1, 1) := by decide +kernel
theorem dX6_isSo_15 : decode cX6_isSo 15 = .ok (.iconst 1, 1) := by decide +kernel
theorem dX6_isSo_16 : decode cX6_isSo 16 = .ok (.iadd, 1) := by decide +kernel
theorem dX6_isSo_17 : decode cX6_isSo 17 = .ok (.iaload, 1) := by decide +kernel
theorem dX6_isSo_18 : decode cX6_isSo 18 = .ok (.goto 7, 3) := by decide +kernel
theorem dX6_isSo_21 : decode cX6_isSo 21 = .ok (.aload_n 0, 1) := by decide +kernel
theorem dX6_isSo_22 : decode cX6_isSo 22 = .ok (.getfield 24, 3) := by decide +kernel
theorem dX6_isSo_25 : decode cX6_isSo 25 = .ok (.istore_n 3, 1) := by decide +kernel
theorem dX6_isSo_26 : decode cX6_isSo 26 = .ok (.iconst 0, 1) := by decide +kernel
theorem dX6_isSo_27 : decode cX6_isSo 27 = .ok (.istore 4, 2) := by decide +kernel
theorem dX6_isSo_29 : decode cX6_isSo 29 = .ok (.aload_n 0, 1) := by decide +kernel
theorem dX6_isSo_30 : decode cX6_isSo 30 = .ok (.getfield 18, 3) := by decide +kernel
theorem dX6_isSo_33 : decode cX6_isSo 33 = .ok (.iload_n 1, 1) := by decide +kernel
theorem dX6_isSo_34 : decode cX6_isSo 34 = .ok (.iaload, 1) := by decide +kernel
theorem dX6_isSo_35 : decode cX6_isSo 35 = .ok (.istore 5, 2) := by decide +kernel
theorem dX6_isSo_37 : decode cX6_isSo 37 = .ok (.iload 5, 2) := by decide +kernel
theorem dX6_isSo_39 : decode cX6_isSo 39 = .ok (.iload_n 3, 1) := by decide +kernel
theorem dX6_isSo_40 : decode cX6_isSo 40 = .ok (.if_icmp .ge 146, 3) := by decide +kernel
theorem dX6_isSo_43 : decode cX6_isSo 43 = .ok (.aload_n 0, 1) := by decide +kernel
theorem dX6_isSo_44 : decode cX6_isSo 44 = .ok (.getfield 11, 3) := by decide +kernel
theorem dX6_isSo_47 : decode cX6_isSo 47 = .ok (.iload 5, 2) := by decide +kernel
theorem dX6_isSo_49 : decode cX6_isSo 49 = .ok (.iaload, 1) := by decide +kernel
theorem dX6_isSo_50 : decode cX6_isSo 50 = .ok (.istore 6, 2) := by decide +kernel
theorem dX6_isSo_52 : decode cX6_isSo 52 = .ok (.iload 6, 2) := by decide +kernel
theorem dX6_isSo_54 : decode cX6_isSo 54 = .ok (.sipush 263, 3) := by decide +kernel
theorem dX6_isSo_57 : decode cX6_isSo 57 = .ok (.if_icmp .lt 48, 3) := by decide +kernel
theorem dX6_isSo_60 : decode cX6_isSo 60 = .ok (.iload 4, 2) := by decide +kernel
theorem dX6_isSo_62 : decode cX6_isSo 62 = .ok (.bipush 64, 2) := by decide +kernel
theorem dX6_isSo_64 : decode cX6_isSo 64 = .ok (.if_icmp .ge 41, 3) := by decide +kernel
theorem dX6_isSo_67 : decode cX6_isSo 67 = .ok (.aload_n 0, 1) := by decide +kernel
theorem dX6_isSo_68 : decode cX6_isSo 68 = .ok (.getfield 21, 3) := by decide +kernel
theorem dX6_isSo_71 : decode cX6_isSo 71 = .ok (.iload 4, 2) := by decide +kernel
theorem dX6_isSo_73 : decode cX6_isSo 73 = .ok (.iload 6, 2) := by decide +kernel
theorem dX6_isSo_75 : decode cX6_isSo 75 = .ok (.sipush 1000, 3) := by decide +kernel
theorem dX6_isSo_78 : decode cX6_isSo 78 = .ok (.if_icmp .lt 12, 3) := by decide +kernel
theorem dX6_isSo_81 : decode cX6_isSo 81 = .ok (.iload 6, 2) := by decide +kernel
theorem dX6_isSo_83 : decode cX6_isSo 83 = .ok (.sipush 1000, 3) := by decide +kernel
theorem dX6_isSo_86 : decode cX6_isSo 86 = .ok (.isub, 1) := by decide +kernel
theorem dX6_isSo_87 : decode cX6_isSo 87 = .ok (.goto 11, 3) := by decide +kernel
theorem dX6_isSo_90 : decode cX6_isSo 90 = .ok (.aload_n 2, 1) := by decide +kernel
theorem dX6_isSo_91 : decode cX6_isSo 91 = .ok (.iload 6, 2) := by decide +kernel
theorem dX6_isSo_93 : decode cX6_isSo 93 = .ok (.sipush 263, 3) := by decide +kernel
theorem dX6_isSo_96 : decode cX6_isSo 96 = .ok (.isub, 1) := by decide +kernel
theorem dX6_isSo_97 : decode cX6_isSo 97 = .ok (.iaload, 1) := by decide +kernel
theorem dX6_isSo_98 : decode cX6_isSo 98 = .ok (.iastore, 1) := by decide +kernel
theorem dX6_isSo_99 : decode cX6_isSo 99 = .ok (.iinc 4 1, 3) := by decide +kernel
theorem dX6_isSo_102 : decode cX6_isSo 102 = .ok (.goto 78, 3) := by decide +kernel
theorem dX6_isSo_105 : decode cX6_isSo 105 = .ok (.iload 6, 2) := by decide +kernel
theorem dX6_isSo_107 : decode cX6_isSo 107 = .ok (.sipush 262, 3) := by decide +kernel
theorem dX6_isSo_110 : decode cX6_isSo 110 = .ok (.if_icmp .ne 31, 3) := by decide +kernel
theorem dX6_isSo_113 : decode cX6_isSo 113 = .ok (.iload 4, 2) := by decide +kernel
theorem dX6_isSo_115 : decode cX6_isSo 115 = .ok (.ifCond .le 26, 3) := by decide +kernel
theorem dX6_isSo_118 : decode cX6_isSo 118 = .ok (.aload_n 0, 1) := by decide +kernel
theorem dX6_isSo_119 : decode cX6_isSo 119 = .ok (.getfield 21, 3) := by decide +kernel
theorem dX6_isSo_122 : decode cX6_isSo 122 = .ok (.iload 4, 2) := by decide +kernel
theorem dX6_isSo_124 : decode cX6_isSo 124 = .ok (.iconst 1, 1) := by decide +kernel
theorem dX6_isSo_125 : decode cX6_isSo 125 = .ok (.isub, 1) := by decide +kernel
theorem dX6_isSo_126 : decode cX6_isSo 126 = .ok (.iconst 1, 1) := by decide +kernel
theorem dX6_isSo_127 : decode cX6_isSo 127 = .ok (.aload_n 0, 1) := by decide +kernel
theorem dX6_isSo_128 : decode cX6_isSo 128 = .ok (.getfield 21, 3) := by decide +kernel
theorem dX6_isSo_131 : decode cX6_isSo 131 = .ok (.iload 4, 2) := by decide +kernel
theorem dX6_isSo_133 : decode cX6_isSo 133 = .ok (.iconst 1, 1) := by decide +kernel
theorem dX6_isSo_134 : decode cX6_isSo 134 = .ok (.isub, 1) := by decide +kernel
theorem dX6_isSo_135 : decode cX6_isSo 135 = .ok (.iaload, 1) := by decide +kernel
theorem dX6_isSo_136 : decode cX6_isSo 136 = .ok (.isub, 1) := by decide +kernel
theorem dX6_isSo_137 : decode cX6_isSo 137 = .ok (.iastore, 1) := by decide +kernel
theorem dX6_isSo_138 : decode cX6_isSo 138 = .ok (.goto 42, 3) := by decide +kernel
theorem dX6_isSo_141 : decode cX6_isSo 141 = .ok (.iload 4, 2) := by decide +kernel
theorem dX6_isSo_143 : decode cX6_isSo 143 = .ok (.iconst 1, 1) := by decide +kernel
theorem dX6_isSo_144 : decode cX6_isSo 144 = .ok (.if_icmp .le 36, 3) := by decide +kernel
theorem dX6_isSo_147 : decode cX6_isSo 147 = .ok (.iinc 4 (-1), 3) := by decide +kernel
theorem dX6_isSo_150 : decode cX6_isSo 150 = .ok (.aload_n 0, 1) := by decide +kernel
theorem dX6_isSo_151 : decode cX6_isSo 151 = .ok (.getfield 21, 3) := by decide +kernel
theorem dX6_isSo_154 : decode cX6_isSo 154 = .ok (.iload 4, 2) := by decide +kernel
theorem dX6_isSo_156 : decode cX6_isSo 156 = .ok (.iconst 1, 1) := by decide +kernel
theorem dX6_isSo_157 : decode cX6_isSo 157 = .ok (.isub, 1) := by decide +kernel
theorem dX6_isSo_158 : decode cX6_isSo 158 = .ok (.iload 6, 2) := by decide +kernel
theorem dX6_isSo_160 : decode cX6_isSo 160 = .ok (.aload_n 0, 1) := by decide +kernel
theorem dX6_isSo_161 : decode cX6_isSo 161 = .ok (.getfield 21, 3) := by decide +kernel
theorem dX6_isSo_164 : decode cX6_isSo 164 = .ok (.iload 4, 2) := by decide +kernel
theorem dX6_isSo_166 : decode cX6_isSo 166 = .ok (.iconst 1, 1) := by decide +kernel
theorem dX6_isSo_167 : decode cX6_isSo 167 = .ok (.isub, 1) := by decide +kernel
theorem dX6_isSo_168 : decode cX6_isSo 168 = .ok (.iaload, 1) := by decide +kernel
theorem dX6_isSo_169 : decode cX6_isSo 169 = .ok (.aload_n 0, 1) := by decide +kernel
theorem dX6_isSo_170 : decode cX6_isSo 170 = .ok (.getfield 21, 3) := by decide +kernel
theorem dX6_isSo_173 : decode cX6_isSo 173 = .ok (.iload 4, 2) := by decide +kernel
theorem dX6_isSo_175 : decode cX6_isSo 175 = .ok (.iaload, 1) := by decide +kernel
theorem dX6_isSo_176 : decode cX6_isSo 176 = .ok (.invokestatic 31, 3) := by decide +kernel
theorem dX6_isSo_179 : decode cX6_isSo 179 = .ok (.iastore, 1) := by decide +kernel
theorem dX6_isSo_180 : decode cX6_isSo 180 = .ok (.iinc 5 1, 3) := by decide +kernel
theorem dX6_isSo_183 : decode cX6_isSo 183 = .ok (.goto (-146), 3) := by decide +kernel
theorem dX6_isSo_186 : decode cX6_isSo 186 = .ok (.aload_n 0, 1) := by decide +kernel
theorem dX6_isSo_187 : decode cX6_isSo 187 = .ok (.getfield 21, 3) := by decide +kernel
theorem dX6_isSo_190 : decode cX6_isSo 190 = .ok (.iconst 1, 1) := by decide +kernel
theorem dX6_isSo_191 : decode cX6_isSo 191 = .ok (.iaload, 1) := by decide +kernel
theorem dX6_isSo_192 : decode cX6_isSo 192 = .ok (.ifCond .eq 7, 3) := by decide +kernel
theorem dX6_isSo_195 : decode cX6_isSo 195 = .ok (.iconst 1, 1) := by decide +kernel
theorem dX6_isSo_196 : decode cX6_isSo 196 = .ok (.goto 4, 3) := by decide +kernel
theorem dX6_isSo_199 : decode cX6_isSo 199 = .ok (.iconst 0, 1) := by decide +kernel
theorem dX6_isSo_200 : decode cX6_isSo 200 = .ok (.ireturn, 1) := by decide +kernel
theorem dX6_value_0 : decode cX6_value 0 = .ok (.aload_n 0, 1) := by decide +kernel
theorem dX6_value_1 : decode cX6_value 1 = .ok (.getfield 21, 3) := by decide +kernel
theorem dX6_value_4 : decode cX6_value 4 = .ok (.iconst 0, 1) := by decide +kernel
theorem dX6_value_5 : decode cX6_value 5 = .ok (.iaload, 1) := by decide +kernel
theorem dX6_value_6 : decode cX6_value 6 = .ok (.ireturn, 1) := by decide +kernel
theorem dX6_join_0 : decode cX6_join 0 = .ok (.iload_n 0, 1) := by decide +kernel
theorem dX6_join_1 : decode cX6_join 1 = .ok (.lookupswitch 136 #[(42, 83), (43, 75), (45, 79), (47, 87), (60, 99), (61, 110), (62, 121), (261, 132)], 75) := by decide +kernel
theorem dX6_join_76 : decode cX6_join 76 = .ok (.iload_n 1, 1) := by decide +kernel
theorem dX6_join_77 : decode cX6_join 77 = .ok (.iload_n 2, 1) := by decide +kernel
theorem dX6_join_78 : decode cX6_join 78 = .ok (.iadd, 1) := by decide +kernel
theorem dX6_join_79 : decode cX6_join 79 = .ok (.ireturn, 1) := by decide +kernel
theorem dX6_join_80 : decode cX6_join 80 = .ok (.iload_n 1, 1) := by decide +kernel
theorem dX6_join_81 : decode cX6_join 81 = .ok (.iload_n 2, 1) := by decide +kernel
theorem dX6_join_82 : decode cX6_join 82 = .ok (.isub, 1) := by decide +kernel
theorem dX6_join_83 : decode cX6_join 83 = .ok (.ireturn, 1) := by decide +kernel
theorem dX6_join_84 : decode cX6_join 84 = .ok (.iload_n 1, 1) := by decide +kernel
theorem dX6_join_85 : decode cX6_join 85 = .ok (.iload_n 2, 1) := by decide +kernel
theorem dX6_join_86 : decode cX6_join 86 = .ok (.imul, 1) := by decide +kernel
theorem dX6_join_87 : decode cX6_join 87 = .ok (.ireturn, 1) := by decide +kernel
theorem dX6_join_88 : decode cX6_join 88 = .ok (.iload_n 2, 1) := by decide +kernel
theorem dX6_join_89 : decode cX6_join 89 = .ok (.ifCond .ne 7, 3) := by decide +kernel
theorem dX6_join_92 : decode cX6_join 92 = .ok (.iconst 0, 1) := by decide +kernel
theorem dX6_join_93 : decode cX6_join 93 = .ok (.goto 6, 3) := by decide +kernel
theorem dX6_join_96 : decode cX6_join 96 = .ok (.iload_n 1, 1) := by decide +kernel
theorem dX6_join_97 : decode cX6_join 97 = .ok (.iload_n 2, 1) := by decide +kernel
theorem dX6_join_98 : decode cX6_join 98 = .ok (.idiv, 1) := by decide +kernel
theorem dX6_join_99 : decode cX6_join 99 = .ok (.ireturn, 1) := by decide +kernel
theorem dX6_join_100 : decode cX6_join 100 = .ok (.iload_n 1, 1) := by decide +kernel
theorem dX6_join_101 : decode cX6_join 101 = .ok (.iload_n 2, 1) := by decide +kernel
theorem dX6_join_102 : decode cX6_join 102 = .ok (.if_icmp .ge 7, 3) := by decide +kernel
theorem dX6_join_105 : decode cX6_join 105 = .ok (.iconst 1, 1) := by decide +kernel
theorem dX6_join_106 : decode cX6_join 106 = .ok (.goto 4, 3) := by decide +kernel
theorem dX6_join_109 : decode cX6_join 109 = .ok (.iconst 0, 1) := by decide +kernel
theorem dX6_join_110 : decode cX6_join 110 = .ok (.ireturn, 1) := by decide +kernel
theorem dX6_join_111 : decode cX6_join 111 = .ok (.iload_n 1, 1) := by decide +kernel
theorem dX6_join_112 : decode cX6_join 112 = .ok (.iload_n 2, 1) := by decide +kernel
theorem dX6_join_113 : decode cX6_join 113 = .ok (.if_icmp .ne 7, 3) := by decide +kernel
theorem dX6_join_116 : decode cX6_join 116 = .ok (.iconst 1, 1) := by decide +kernel
theorem dX6_join_117 : decode cX6_join 117 = .ok (.goto 4, 3) := by decide +kernel
theorem dX6_join_120 : decode cX6_join 120 = .ok (.iconst 0, 1) := by decide +kernel
theorem dX6_join_121 : decode cX6_join 121 = .ok (.ireturn, 1) := by decide +kernel
theorem dX6_join_122 : decode cX6_join 122 = .ok (.iload_n 1, 1) := by decide +kernel
theorem dX6_join_123 : decode cX6_join 123 = .ok (.iload_n 2, 1) := by decide +kernel
theorem dX6_join_124 : decode cX6_join 124 = .ok (.if_icmp .le 7, 3) := by decide +kernel
theorem dX6_join_127 : decode cX6_join 127 = .ok (.iconst 1, 1) := by decide +kernel
theorem dX6_join_128 : decode cX6_join 128 = .ok (.goto 4, 3) := by decide +kernel
theorem dX6_join_131 : decode cX6_join 131 = .ok (.iconst 0, 1) := by decide +kernel
theorem dX6_join_132 : decode cX6_join 132 = .ok (.ireturn, 1) := by decide +kernel
theorem dX6_join_133 : decode cX6_join 133 = .ok (.iload_n 1, 1) := by decide +kernel
theorem dX6_join_134 : decode cX6_join 134 = .ok (.iload_n 2, 1) := by decide +kernel
theorem dX6_join_135 : decode cX6_join 135 = .ok (.iand, 1) := by decide +kernel
theorem dX6_join_136 : decode cX6_join 136 = .ok (.ireturn, 1) := by decide +kernel
theorem dX6_join_137 : decode cX6_join 137 = .ok (.iload_n 1, 1) := by decide +kernel
theorem dX6_join_138 : decode cX6_join 138 = .ok (.iload_n 2, 1) := by decide +kernel
theorem dX6_join_139 : decode cX6_join 139 = .ok (.ior, 1) := by decide +kernel
theorem dX6_join_140 : decode cX6_join 140 = .ok (.ireturn, 1) := by decide +kernel
theorem dX7_init_0 : decode cX7_init 0 = .ok (.aload_n 0, 1) := by decide +kernel
theorem dX7_init_1 : decode cX7_init 1 = .ok (.invokespecial 3, 3) := by decide +kernel
theorem dX7_init_4 : decode cX7_init 4 = .ok (.aload_n 0, 1) := by decide +kernel
theorem dX7_init_5 : decode cX7_init 5 = .ok (.bipush 9, 2) := by decide +kernel
theorem dX7_init_7 : decode cX7_init 7 = .ok (.newarray .int, 2) := by decide +kernel
theorem dX7_init_9 : decode cX7_init 9 = .ok (.putfield 9, 3) := by decide +kernel
theorem dX7_init_12 : decode cX7_init 12 = .ok (.aload_n 0, 1) := by decide +kernel
theorem dX7_init_13 : decode cX7_init 13 = .ok (.bipush 9, 2) := by decide +kernel
theorem dX7_init_15 : decode cX7_init 15 = .ok (.bipush 9, 2) := by decide +kernel
theorem dX7_init_17 : decode cX7_init 17 = .ok (.multianewarray 15 2, 4) := by decide +kernel
theorem dX7_init_21 : decode cX7_init 21 = .ok (.putfield 17, 3) := by decide +kernel
theorem dX7_init_24 : decode cX7_init 24 = .ok (.aload_n 0, 1) := by decide +kernel
theorem dX7_init_25 : decode cX7_init 25 = .ok (.sipush 4608, 3) := by decide +kernel
theorem dX7_init_28 : decode cX7_init 28 = .ok (.newarray .int, 2) := by decide +kernel
theorem dX7_init_30 : decode cX7_init 30 = .ok (.putfield 20, 3) := by decide +kernel
theorem dX7_init_33 : decode cX7_init 33 = .ok (.aload_n 0, 1) := by decide +kernel
theorem dX7_init_34 : decode cX7_init 34 = .ok (.bipush 14, 2) := by decide +kernel
theorem dX7_init_36 : decode cX7_init 36 = .ok (.newarray .int, 2) := by decide +kernel
theorem dX7_init_38 : decode cX7_init 38 = .ok (.putfield 23, 3) := by decide +kernel
theorem dX7_init_41 : decode cX7_init 41 = .ok (.aload_n 0, 1) := by decide +kernel
theorem dX7_init_42 : decode cX7_init 42 = .ok (.bipush 14, 2) := by decide +kernel
theorem dX7_init_44 : decode cX7_init 44 = .ok (.newarray .int, 2) := by decide +kernel
theorem dX7_init_46 : decode cX7_init 46 = .ok (.putfield 26, 3) := by decide +kernel
theorem dX7_init_49 : decode cX7_init 49 = .ok (.return_, 1) := by decide +kernel
theorem dX7_addVersion_0 : decode cX7_addVersion 0 = .ok (.iload_n 1, 1) := by decide +kernel
theorem dX7_addVersion_1 : decode cX7_addVersion 1 = .ok (.iconst 1, 1) := by decide +kernel
theorem dX7_addVersion_2 : decode cX7_addVersion 2 = .ok (.bipush 20, 2) := by decide +kernel
theorem dX7_addVersion_4 : decode cX7_addVersion 4 = .ok (.invokestatic 29, 3) := by decide +kernel
theorem dX7_addVersion_7 : decode cX7_addVersion 7 = .ok (.ifCond .eq 12, 3) := by decide +kernel
theorem dX7_addVersion_10 : decode cX7_addVersion 10 = .ok (.aload_n 0, 1) := by decide +kernel
theorem dX7_addVersion_11 : decode cX7_addVersion 11 = .ok (.getfield 33, 3) := by decide +kernel
theorem dX7_addVersion_14 : decode cX7_addVersion 14 = .ok (.bipush 9, 2) := by decide +kernel
theorem dX7_addVersion_16 : decode cX7_addVersion 16 = .ok (.if_icmp .lt 5, 3) := by decide +kernel
theorem dX7_addVersion_19 : decode cX7_addVersion 19 = .ok (.iconst (-1), 1) := by decide +kernel
theorem dX7_addVersion_20 : decode cX7_addVersion 20 = .ok (.ireturn, 1) := by decide +kernel
theorem dX7_addVersion_21 : decode cX7_addVersion 21 = .ok (.aload_n 0, 1) := by decide +kernel
theorem dX7_addVersion_22 : decode cX7_addVersion 22 = .ok (.getfield 9, 3) := by decide +kernel
theorem dX7_addVersion_25 : decode cX7_addVersion 25 = .ok (.aload_n 0, 1) := by decide +kernel
theorem dX7_addVersion_26 : decode cX7_addVersion 26 = .ok (.getfield 33, 3) := by decide +kernel
theorem dX7_addVersion_29 : decode cX7_addVersion 29 = .ok (.iload_n 1, 1) := by decide +kernel
theorem dX7_addVersion_30 : decode cX7_addVersion 30 = .ok (.iastore, 1) := by decide +kernel
theorem dX7_addVersion_31 : decode cX7_addVersion 31 = .ok (.aload_n 0, 1) := by decide +kernel
theorem dX7_addVersion_32 : decode cX7_addVersion 32 = .ok (.dup, 1) := by decide +kernel
theorem dX7_addVersion_33 : decode cX7_addVersion 33 = .ok (.getfield 33, 3) := by decide +kernel
theorem dX7_addVersion_36 : decode cX7_addVersion 36 = .ok (.iconst 1, 1) := by decide +kernel
theorem dX7_addVersion_37 : decode cX7_addVersion 37 = .ok (.iadd, 1) := by decide +kernel
theorem dX7_addVersion_38 : decode cX7_addVersion 38 = .ok (.putfield 33, 3) := by decide +kernel
theorem dX7_addVersion_41 : decode cX7_addVersion 41 = .ok (.aload_n 0, 1) := by decide +kernel
theorem dX7_addVersion_42 : decode cX7_addVersion 42 = .ok (.getfield 33, 3) := by decide +kernel
theorem dX7_addVersion_45 : decode cX7_addVersion 45 = .ok (.iconst 1, 1) := by decide +kernel
theorem dX7_addVersion_46 : decode cX7_addVersion 46 = .ok (.isub, 1) := by decide +kernel
theorem dX7_addVersion_47 : decode cX7_addVersion 47 = .ok (.ireturn, 1) := by decide +kernel
theorem dX7_hasVersion_0 : decode cX7_hasVersion 0 = .ok (.iload_n 1, 1) := by decide +kernel
theorem dX7_hasVersion_1 : decode cX7_hasVersion 1 = .ok (.ifCond .lt 15, 3) := by decide +kernel
theorem dX7_hasVersion_4 : decode cX7_hasVersion 4 = .ok (.iload_n 1, 1) := by decide +kernel
theorem dX7_hasVersion_5 : decode cX7_hasVersion 5 = .ok (.aload_n 0, 1) := by decide +kernel
theorem dX7_hasVersion_6 : decode cX7_hasVersion 6 = .ok (.getfield 33, 3) := by decide +kernel
theorem dX7_hasVersion_9 : decode cX7_hasVersion 9 = .ok (.if_icmp .ge 7, 3) := by decide +kernel
theorem dX7_hasVersion_12 : decode cX7_hasVersion 12 = .ok (.iconst 1, 1) := by decide +kernel
theorem dX7_hasVersion_13 : decode cX7_hasVersion 13 = .ok (.goto 4, 3) := by decide +kernel
theorem dX7_hasVersion_16 : decode cX7_hasVersion 16 = .ok (.iconst 0, 1) := by decide +kernel
theorem dX7_hasVersion_17 : decode cX7_hasVersion 17 = .ok (.ireturn, 1) := by decide +kernel
theorem dX7_link_0 : decode cX7_link 0 = .ok (.aload_n 0, 1) := by decide +kernel
theorem dX7_link_1 : decode cX7_link 1 = .ok (.iload_n 1, 1) := by decide +kernel
theorem dX7_link_2 : decode cX7_link 2 = .ok (.invokevirtual 37, 3) := by decide +kernel
theorem dX7_link_5 : decode cX7_link 5 = .ok (.ifCond .eq 26, 3) := by decide +kernel
theorem dX7_link_8 : decode cX7_link 8 = .ok (.aload_n 0, 1) := by decide +kernel
theorem dX7_link_9 : decode cX7_link 9 = .ok (.iload_n 2, 1) := by decide +kernel
theorem dX7_link_10 : decode cX7_link 10 = .ok (.invokevirtual 37, 3) := by decide +kernel
theorem dX7_link_13 : decode cX7_link 13 = .ok (.ifCond .eq 18, 3) := by decide +kernel
theorem dX7_link_16 : decode cX7_link 16 = .ok (.iload_n 1, 1) := by decide +kernel
theorem dX7_link_17 : decode cX7_link 17 = .ok (.iload_n 2, 1) := by decide +kernel
theorem dX7_link_18 : decode cX7_link 18 = .ok (.if_icmp .eq 13, 3) := by decide +kernel
theorem dX7_link_21 : decode cX7_link 21 = .ok (.iload_n 3, 1) := by decide +kernel
theorem dX7_link_22 : decode cX7_link 22 = .ok (.iconst 0, 1) := by decide +kernel
theorem dX7_link_23 : decode cX7_link 23 = .ok (.bipush 9, 2) := by decide +kernel
theorem dX7_link_25 : decode cX7_link 25 = .ok (.invokestatic 29, 3) := by decide +kernel
theorem dX7_link_28 : decode cX7_link 28 = .ok (.ifCond .ne 5, 3) := by decide +kernel
theorem dX7_link_31 : decode cX7_link 31 = .ok (.iconst 0, 1) := by decide +kernel
theorem dX7_link_32 : decode cX7_link 32 = .ok (.ireturn, 1) := by decide +kernel
theorem dX7_link_33 : decode cX7_link 33 = .ok (.aload_n 0, 1) := by decide +kernel
theorem dX7_link_34 : decode cX7_link 34 = .ok (.getfield 17, 3) := by decide +kernel
theorem dX7_link_37 : decode cX7_link 37 = .ok (.iload_n 1, 1) := by decide +kernel
theorem dX7_link_38 : decode cX7_link 38 = .ok (.aaload, 1) := by decide +kernel
theorem dX7_link_39 : decode cX7_link 39 = .ok (.iload_n 2, 1) := by decide +kernel
theorem dX7_link_40 : decode cX7_link 40 = .ok (.iload_n 3, 1) := by decide +kernel
theorem dX7_link_41 : decode cX7_link 41 = .ok (.iastore, 1) := by decide +kernel
theorem dX7_link_42 : decode cX7_link 42 = .ok (.iconst 1, 1) := by decide +kernel
theorem dX7_link_43 : decode cX7_link 43 = .ok (.ireturn, 1) := by decide +kernel
theorem dX7_order_0 : decode cX7_order 0 = .ok (.iload_n 1, 1) := by decide +kernel
theorem dX7_order_1 : decode cX7_order 1 = .ok (.iconst 1, 1) := by decide +kernel
theorem dX7_order_2 : decode cX7_order 2 = .ok (.iconst 1, 1) := by decide +kernel
theorem dX7_order_3 : decode cX7_order 3 = .ok (.aload_n 0, 1) := by decide +kernel
theorem dX7_order_4 : decode cX7_order 4 = .ok (.getfield 33, 3) := by decide +kernel
theorem dX7_order_7 : decode cX7_order 7 = .ok (.ishl, 1) := by decide +kernel
theorem dX7_order_8 : decode cX7_order 8 = .ok (.iconst 1, 1) := by decide +kernel
theorem dX7_order_9 : decode cX7_order 9 = .ok (.isub, 1) := by decide +kernel
theorem dX7_order_10 : decode cX7_order 10 = .ok (.invokestatic 29, 3) := by decide +kernel
theorem dX7_order_13 : decode cX7_order 13 = .ok (.ifCond .eq 15, 3) := by decide +kernel
theorem dX7_order_16 : decode cX7_order 16 = .ok (.iload_n 2, 1) := by decide +kernel
theorem dX7_order_17 : decode cX7_order 17 = .ok (.iconst 0, 1) := by decide +kernel
theorem dX7_order_18 : decode cX7_order 18 = .ok (.iload_n 1, 1) := by decide +kernel
theorem dX7_order_19 : decode cX7_order 19 = .ok (.invokestatic 41, 3) := by decide +kernel
theorem dX7_order_22 : decode cX7_order 22 = .ok (.invokestatic 29, 3) := by decide +kernel
theorem dX7_order_25 : decode cX7_order 25 = .ok (.ifCond .ne 5, 3) := by decide +kernel
theorem dX7_order_28 : decode cX7_order 28 = .ok (.iconst (-1), 1) := by decide +kernel
theorem dX7_order_29 : decode cX7_order 29 = .ok (.ireturn, 1) := by decide +kernel
theorem dX7_order_30 : decode cX7_order 30 = .ok (.aload_n 0, 1) := by decide +kernel
theorem dX7_order_31 : decode cX7_order 31 = .ok (.iload_n 1, 1) := by decide +kernel
theorem dX7_order_32 : decode cX7_order 32 = .ok (.invokevirtual 47, 3) := by decide +kernel
theorem dX7_order_35 : decode cX7_order 35 = .ok (.iload_n 2, 1) := by decide +kernel
theorem dX7_order_36 : decode cX7_order 36 = .ok (.ifCond .ne 9, 3) := by decide +kernel
theorem dX7_order_39 : decode cX7_order 39 = .ok (.aload_n 0, 1) := by decide +kernel
theorem dX7_order_40 : decode cX7_order 40 = .ok (.iload_n 1, 1) := by decide +kernel
theorem dX7_order_41 : decode cX7_order 41 = .ok (.invokevirtual 51, 3) := by decide +kernel
theorem dX7_order_44 : decode cX7_order 44 = .ok (.ireturn, 1) := by decide +kernel
theorem dX7_order_45 : decode cX7_order 45 = .ok (.iconst (-1), 1) := by decide +kernel
theorem dX7_order_46 : decode cX7_order 46 = .ok (.istore_n 3, 1) := by decide +kernel
theorem dX7_order_47 : decode cX7_order 47 = .ok (.iload_n 1, 1) := by decide +kernel
theorem dX7_order_48 : decode cX7_order 48 = .ok (.istore 4, 2) := by decide +kernel
theorem dX7_order_50 : decode cX7_order 50 = .ok (.iconst 0, 1) := by decide +kernel
theorem dX7_order_51 : decode cX7_order 51 = .ok (.istore 5, 2) := by decide +kernel
theorem dX7_order_53 : decode cX7_order 53 = .ok (.iload 5, 2) := by decide +kernel
theorem dX7_order_55 : decode cX7_order 55 = .ok (.iload_n 2, 1) := by decide +kernel
theorem dX7_order_56 : decode cX7_order 56 = .ok (.if_icmp .ge 27, 3) := by decide +kernel
theorem dX7_order_59 : decode cX7_order 59 = .ok (.aload_n 0, 1) := by decide +kernel
theorem dX7_order_60 : decode cX7_order 60 = .ok (.iload_n 3, 1) := by decide +kernel
theorem dX7_order_61 : decode cX7_order 61 = .ok (.iload 4, 2) := by decide +kernel
theorem dX7_order_63 : decode cX7_order 63 = .ok (.invokevirtual 54, 3) := by decide +kernel
theorem dX7_order_66 : decode cX7_order 66 = .ok (.istore_n 3, 1) := by decide +kernel
theorem dX7_order_67 : decode cX7_order 67 = .ok (.iload 4, 2) := by decide +kernel
theorem dX7_order_69 : decode cX7_order 69 = .ok (.iconst 1, 1) := by decide +kernel
theorem dX7_order_70 : decode cX7_order 70 = .ok (.iload_n 3, 1) := by decide +kernel
theorem dX7_order_71 : decode cX7_order 71 = .ok (.ishl, 1) := by decide +kernel
theorem dX7_order_72 : decode cX7_order 72 = .ok (.iconst (-1), 1) := by decide +kernel
theorem dX7_order_73 : decode cX7_order 73 = .ok (.ixor, 1) := by decide +kernel
theorem dX7_order_74 : decode cX7_order 74 = .ok (.iand, 1) := by decide +kernel
theorem dX7_order_75 : decode cX7_order 75 = .ok (.istore 4, 2) := by decide +kernel
theorem dX7_order_77 : decode cX7_order 77 = .ok (.iinc 5 1, 3) := by decide +kernel
theorem dX7_order_80 : decode cX7_order 80 = .ok (.goto (-27), 3) := by decide +kernel
theorem dX7_order_83 : decode cX7_order 83 = .ok (.iload_n 3, 1) := by decide +kernel
theorem dX7_order_84 : decode cX7_order 84 = .ok (.ireturn, 1) := by decide +kernel
theorem dX7_fill_0 : decode cX7_fill 0 = .ok (.iconst 1, 1) := by decide +kernel
theorem dX7_fill_1 : decode cX7_fill 1 = .ok (.istore_n 2, 1) := by decide +kernel
theorem dX7_fill_2 : decode cX7_fill 2 = .ok (.iload_n 2, 1) := by decide +kernel
theorem dX7_fill_3 : decode cX7_fill 3 = .ok (.iload_n 1, 1) := by decide +kernel
theorem dX7_fill_4 : decode cX7_fill 4 = .ok (.if_icmp .gt 83, 3) := by decide +kernel
theorem dX7_fill_7 : decode cX7_fill 7 = .ok (.iconst 0, 1) := by decide +kernel
theorem dX7_fill_8 : decode cX7_fill 8 = .ok (.istore_n 3, 1) := by decide +kernel
theorem dX7_fill_9 : decode cX7_fill 9 = .ok (.iload_n 3, 1) := by decide +kernel
theorem dX7_fill_10 : decode cX7_fill 10 = .ok (.aload_n 0, 1) := by decide +kernel
theorem dX7_fill_11 : decode cX7_fill 11 = .ok (.getfield 33, 3) := by decide +kernel
theorem dX7_fill_14 : decode cX7_fill 14 = .ok (.if_icmp .ge 67, 3) := by decide +kernel
theorem dX7_fill_17 : decode cX7_fill 17 = .ok (.iload_n 2, 1) := by decide +kernel
theorem dX7_fill_18 : decode cX7_fill 18 = .ok (.iload_n 1, 1) := by decide +kernel
theorem dX7_fill_19 : decode cX7_fill 19 = .ok (.iand, 1) := by decide +kernel
theorem dX7_fill_20 : decode cX7_fill 20 = .ok (.iload_n 2, 1) := by decide +kernel
theorem dX7_fill_21 : decode cX7_fill 21 = .ok (.if_icmp .ne 60, 3) := by decide +kernel
theorem dX7_fill_24 : decode cX7_fill 24 = .ok (.iload_n 2, 1) := by decide +kernel
theorem dX7_fill_25 : decode cX7_fill 25 = .ok (.iload_n 3, 1) := by decide +kernel
theorem dX7_fill_26 : decode cX7_fill 26 = .ok (.invokestatic 58, 3) := by decide +kernel
theorem dX7_fill_29 : decode cX7_fill 29 = .ok (.ifCond .eq 46, 3) := by decide +kernel
theorem dX7_fill_32 : decode cX7_fill 32 = .ok (.iload_n 2, 1) := by decide +kernel
theorem dX7_fill_33 : decode cX7_fill 33 = .ok (.iconst 1, 1) := by decide +kernel
theorem dX7_fill_34 : decode cX7_fill 34 = .ok (.iload_n 3, 1) := by decide +kernel
theorem dX7_fill_35 : decode cX7_fill 35 = .ok (.ishl, 1) := by decide +kernel
theorem dX7_fill_36 : decode cX7_fill 36 = .ok (.iconst (-1), 1) := by decide +kernel
theorem dX7_fill_37 : decode cX7_fill 37 = .ok (.ixor, 1) := by decide +kernel
theorem dX7_fill_38 : decode cX7_fill 38 = .ok (.iand, 1) := by decide +kernel
theorem dX7_fill_39 : decode cX7_fill 39 = .ok (.istore 4, 2) := by decide +kernel
theorem dX7_fill_41 : decode cX7_fill 41 = .ok (.aload_n 0, 1) := by decide +kernel
theorem dX7_fill_42 : decode cX7_fill 42 = .ok (.getfield 20, 3) := by decide +kernel
theorem dX7_fill_45 : decode cX7_fill 45 = .ok (.iload_n 2, 1) := by decide +kernel
theorem dX7_fill_46 : decode cX7_fill 46 = .ok (.bipush 9, 2) := by decide +kernel
theorem dX7_fill_48 : decode cX7_fill 48 = .ok (.imul, 1) := by decide +kernel
theorem dX7_fill_49 : decode cX7_fill 49 = .ok (.iload_n 3, 1) := by decide +kernel
theorem dX7_fill_50 : decode cX7_fill 50 = .ok (.iadd, 1) := by decide +kernel
theorem dX7_fill_51 : decode cX7_fill 51 = .ok (.iload 4, 2) := by decide +kernel
theorem dX7_fill_53 : decode cX7_fill 53 = .ok (.ifCond .ne 7, 3) := by decide +kernel
theorem dX7_fill_56 : decode cX7_fill 56 = .ok (.iconst 0, 1) := by decide +kernel
theorem dX7_fill_57 : decode cX7_fill 57 = .ok (.goto 17, 3) := by decide +kernel
theorem dX7_fill_60 : decode cX7_fill 60 = .ok (.aload_n 0, 1) := by decide +kernel
theorem dX7_fill_61 : decode cX7_fill 61 = .ok (.iload_n 3, 1) := by decide +kernel
theorem dX7_fill_62 : decode cX7_fill 62 = .ok (.iload 4, 2) := by decide +kernel
theorem dX7_fill_64 : decode cX7_fill 64 = .ok (.aload_n 0, 1) := by decide +kernel
theorem dX7_fill_65 : decode cX7_fill 65 = .ok (.iload_n 3, 1) := by decide +kernel
theorem dX7_fill_66 : decode cX7_fill 66 = .ok (.iload 4, 2) := by decide +kernel
theorem dX7_fill_68 : decode cX7_fill 68 = .ok (.invokevirtual 54, 3) := by decide +kernel
theorem dX7_fill_71 : decode cX7_fill 71 = .ok (.invokevirtual 62, 3) := by decide +kernel
theorem dX7_fill_74 : decode cX7_fill 74 = .ok (.iastore, 1) := by decide +kernel
theorem dX7_fill_75 : decode cX7_fill 75 = .ok (.iinc 3 1, 3) := by decide +kernel
theorem dX7_fill_78 : decode cX7_fill 78 = .ok (.goto (-69), 3) := by decide +kernel
theorem dX7_fill_81 : decode cX7_fill 81 = .ok (.iinc 2 1, 3) := by decide +kernel
theorem dX7_fill_84 : decode cX7_fill 84 = .ok (.goto (-82), 3) := by decide +kernel
theorem dX7_fill_87 : decode cX7_fill 87 = .ok (.return_, 1) := by decide +kernel
theorem dX7_after_0 : decode cX7_after 0 = .ok (.iload_n 1, 1) := by decide +kernel
theorem dX7_after_1 : decode cX7_after 1 = .ok (.iconst (-1), 1) := by decide +kernel
theorem dX7_after_2 : decode cX7_after 2 = .ok (.if_icmp .ne 7, 3) := by decide +kernel
theorem dX7_after_5 : decode cX7_after 5 = .ok (.iconst 0, 1) := by decide +kernel
theorem dX7_after_6 : decode cX7_after 6 = .ok (.goto 11, 3) := by decide +kernel
theorem dX7_after_9 : decode cX7_after 9 = .ok (.aload_n 0, 1) := by decide +kernel
theorem dX7_after_10 : decode cX7_after 10 = .ok (.getfield 17, 3) := by decide +kernel
theorem dX7_after_13 : decode cX7_after 13 = .ok (.iload_n 1, 1) := by decide +kernel
theorem dX7_after_14 : decode cX7_after 14 = .ok (.aaload, 1) := by decide +kernel
theorem dX7_after_15 : decode cX7_after 15 = .ok (.iload_n 3, 1) := by decide +kernel
theorem dX7_after_16 : decode cX7_after 16 = .ok (.iaload, 1) := by decide +kernel
theorem dX7_after_17 : decode cX7_after 17 = .ok (.istore 4, 2) := by decide +kernel
theorem dX7_after_19 : decode cX7_after 19 = .ok (.iload 4, 2) := by decide +kernel
theorem dX7_after_21 : decode cX7_after 21 = .ok (.aload_n 0, 1) := by decide +kernel
theorem dX7_after_22 : decode cX7_after 22 = .ok (.getfield 20, 3) := by decide +kernel
theorem dX7_after_25 : decode cX7_after 25 = .ok (.iload_n 2, 1) := by decide +kernel
theorem dX7_after_26 : decode cX7_after 26 = .ok (.bipush 9, 2) := by decide +kernel
theorem dX7_after_28 : decode cX7_after 28 = .ok (.imul, 1) := by decide +kernel
theorem dX7_after_29 : decode cX7_after 29 = .ok (.iload_n 3, 1) := by decide +kernel
theorem dX7_after_30 : decode cX7_after 30 = .ok (.iadd, 1) := by decide +kernel
theorem dX7_after_31 : decode cX7_after 31 = .ok (.iaload, 1) := by decide +kernel
theorem dX7_after_32 : decode cX7_after 32 = .ok (.iadd, 1) := by decide +kernel
theorem dX7_after_33 : decode cX7_after 33 = .ok (.ireturn, 1) := by decide +kernel
theorem dX7_next_0 : decode cX7_next 0 = .ok (.iconst (-1), 1) := by decide +kernel
theorem dX7_next_1 : decode cX7_next 1 = .ok (.istore_n 3, 1) := by decide +kernel
theorem dX7_next_2 : decode cX7_next 2 = .ok (.iconst 0, 1) := by decide +kernel
theorem dX7_next_3 : decode cX7_next 3 = .ok (.istore 4, 2) := by decide +kernel
theorem dX7_next_5 : decode cX7_next 5 = .ok (.iconst 0, 1) := by decide +kernel
theorem dX7_next_6 : decode cX7_next 6 = .ok (.istore 5, 2) := by decide +kernel
theorem dX7_next_8 : decode cX7_next 8 = .ok (.iload 5, 2) := by decide +kernel
theorem dX7_next_10 : decode cX7_next 10 = .ok (.aload_n 0, 1) := by decide +kernel
theorem dX7_next_11 : decode cX7_next 11 = .ok (.getfield 33, 3) := by decide +kernel
theorem dX7_next_14 : decode cX7_next 14 = .ok (.if_icmp .ge 60, 3) := by decide +kernel
theorem dX7_next_17 : decode cX7_next 17 = .ok (.iload_n 2, 1) := by decide +kernel
theorem dX7_next_18 : decode cX7_next 18 = .ok (.iload 5, 2) := by decide +kernel
theorem dX7_next_20 : decode cX7_next 20 = .ok (.invokestatic 58, 3) := by decide +kernel
theorem dX7_next_23 : decode cX7_next 23 = .ok (.ifCond .eq 14, 3) := by decide +kernel
theorem dX7_next_26 : decode cX7_next 26 = .ok (.aload_n 0, 1) := by decide +kernel
theorem dX7_next_27 : decode cX7_next 27 = .ok (.iload_n 1, 1) := by decide +kernel
theorem dX7_next_28 : decode cX7_next 28 = .ok (.iload_n 2, 1) := by decide +kernel
theorem dX7_next_29 : decode cX7_next 29 = .ok (.iload 5, 2) := by decide +kernel
theorem dX7_next_31 : decode cX7_next 31 = .ok (.invokevirtual 62, 3) := by decide +kernel
theorem dX7_next_34 : decode cX7_next 34 = .ok (.goto 4, 3) := by decide +kernel
theorem dX7_next_37 : decode cX7_next 37 = .ok (.iconst 0, 1) := by decide +kernel
theorem dX7_next_38 : decode cX7_next 38 = .ok (.istore 6, 2) := by decide +kernel
theorem dX7_next_40 : decode cX7_next 40 = .ok (.iload_n 2, 1) := by decide +kernel
theorem dX7_next_41 : decode cX7_next 41 = .ok (.iload 5, 2) := by decide +kernel
theorem dX7_next_43 : decode cX7_next 43 = .ok (.invokestatic 58, 3) := by decide +kernel
theorem dX7_next_46 : decode cX7_next 46 = .ok (.ifCond .eq 22, 3) := by decide +kernel
theorem dX7_next_49 : decode cX7_next 49 = .ok (.iload_n 3, 1) := by decide +kernel
theorem dX7_next_50 : decode cX7_next 50 = .ok (.iconst (-1), 1) := by decide +kernel
theorem dX7_next_51 : decode cX7_next 51 = .ok (.if_icmp .eq 10, 3) := by decide +kernel
theorem dX7_next_54 : decode cX7_next 54 = .ok (.iload 6, 2) := by decide +kernel
theorem dX7_next_56 : decode cX7_next 56 = .ok (.iload 4, 2) := by decide +kernel
theorem dX7_next_58 : decode cX7_next 58 = .ok (.if_icmp .ge 10, 3) := by decide +kernel
theorem dX7_next_61 : decode cX7_next 61 = .ok (.iload 5, 2) := by decide +kernel
theorem dX7_next_63 : decode cX7_next 63 = .ok (.istore_n 3, 1) := by decide +kernel
theorem dX7_next_64 : decode cX7_next 64 = .ok (.iload 6, 2) := by decide +kernel
theorem dX7_next_66 : decode cX7_next 66 = .ok (.istore 4, 2) := by decide +kernel
theorem dX7_next_68 : decode cX7_next 68 = .ok (.iinc 5 1, 3) := by decide +kernel
theorem dX7_next_71 : decode cX7_next 71 = .ok (.goto (-63), 3) := by decide +kernel
theorem dX7_next_74 : decode cX7_next 74 = .ok (.iload_n 3, 1) := by decide +kernel
theorem dX7_next_75 : decode cX7_next 75 = .ok (.ireturn, 1) := by decide +kernel
theorem dX7_fewestNights_0 : decode cX7_fewestNights 0 = .ok (.aload_n 0, 1) := by decide +kernel
theorem dX7_fewestNights_1 : decode cX7_fewestNights 1 = .ok (.iconst (-1), 1) := by decide +kernel
theorem dX7_fewestNights_2 : decode cX7_fewestNights 2 = .ok (.iload_n 1, 1) := by decide +kernel
theorem dX7_fewestNights_3 : decode cX7_fewestNights 3 = .ok (.aload_n 0, 1) := by decide +kernel
theorem dX7_fewestNights_4 : decode cX7_fewestNights 4 = .ok (.iconst (-1), 1) := by decide +kernel
theorem dX7_fewestNights_5 : decode cX7_fewestNights 5 = .ok (.iload_n 1, 1) := by decide +kernel
theorem dX7_fewestNights_6 : decode cX7_fewestNights 6 = .ok (.invokevirtual 54, 3) := by decide +kernel
theorem dX7_fewestNights_9 : decode cX7_fewestNights 9 = .ok (.invokevirtual 62, 3) := by decide +kernel
theorem dX7_fewestNights_12 : decode cX7_fewestNights 12 = .ok (.istore_n 2, 1) := by decide +kernel
theorem dX7_fewestNights_13 : decode cX7_fewestNights 13 = .ok (.iconst 0, 1) := by decide +kernel
theorem dX7_fewestNights_14 : decode cX7_fewestNights 14 = .ok (.istore_n 3, 1) := by decide +kernel
theorem dX7_fewestNights_15 : decode cX7_fewestNights 15 = .ok (.iload_n 3, 1) := by decide +kernel
theorem dX7_fewestNights_16 : decode cX7_fewestNights 16 = .ok (.aload_n 0, 1) := by decide +kernel
theorem dX7_fewestNights_17 : decode cX7_fewestNights 17 = .ok (.getfield 33, 3) := by decide +kernel
theorem dX7_fewestNights_20 : decode cX7_fewestNights 20 = .ok (.if_icmp .ge 26, 3) := by decide +kernel
theorem dX7_fewestNights_23 : decode cX7_fewestNights 23 = .ok (.iload_n 1, 1) := by decide +kernel
theorem dX7_fewestNights_24 : decode cX7_fewestNights 24 = .ok (.iload_n 3, 1) := by decide +kernel
theorem dX7_fewestNights_25 : decode cX7_fewestNights 25 = .ok (.invokestatic 58, 3) := by decide +kernel
theorem dX7_fewestNights_28 : decode cX7_fewestNights 28 = .ok (.ifCond .eq 12, 3) := by decide +kernel
theorem dX7_fewestNights_31 : decode cX7_fewestNights 31 = .ok (.iload_n 2, 1) := by decide +kernel
theorem dX7_fewestNights_32 : decode cX7_fewestNights 32 = .ok (.aload_n 0, 1) := by decide +kernel
theorem dX7_fewestNights_33 : decode cX7_fewestNights 33 = .ok (.getfield 9, 3) := by decide +kernel
theorem dX7_fewestNights_36 : decode cX7_fewestNights 36 = .ok (.iload_n 3, 1) := by decide +kernel
theorem dX7_fewestNights_37 : decode cX7_fewestNights 37 = .ok (.iaload, 1) := by decide +kernel
theorem dX7_fewestNights_38 : decode cX7_fewestNights 38 = .ok (.iadd, 1) := by decide +kernel
theorem dX7_fewestNights_39 : decode cX7_fewestNights 39 = .ok (.istore_n 2, 1) := by decide +kernel
theorem dX7_fewestNights_40 : decode cX7_fewestNights 40 = .ok (.iinc 3 1, 3) := by decide +kernel
theorem dX7_fewestNights_43 : decode cX7_fewestNights 43 = .ok (.goto (-28), 3) := by decide +kernel
theorem dX7_fewestNights_46 : decode cX7_fewestNights 46 = .ok (.iload_n 2, 1) := by decide +kernel
theorem dX7_fewestNights_47 : decode cX7_fewestNights 47 = .ok (.ireturn, 1) := by decide +kernel
theorem dX7_addPerson_0 : decode cX7_addPerson 0 = .ok (.iload_n 1, 1) := by decide +kernel
theorem dX7_addPerson_1 : decode cX7_addPerson 1 = .ok (.iconst 1, 1) := by decide +kernel
theorem dX7_addPerson_2 : decode cX7_addPerson 2 = .ok (.bipush 31, 2) := by decide +kernel
theorem dX7_addPerson_4 : decode cX7_addPerson 4 = .ok (.invokestatic 29, 3) := by decide +kernel
theorem dX7_addPerson_7 : decode cX7_addPerson 7 = .ok (.ifCond .eq 22, 3) := by decide +kernel
theorem dX7_addPerson_10 : decode cX7_addPerson 10 = .ok (.iload_n 2, 1) := by decide +kernel
theorem dX7_addPerson_11 : decode cX7_addPerson 11 = .ok (.iconst 0, 1) := by decide +kernel
theorem dX7_addPerson_12 : decode cX7_addPerson 12 = .ok (.bipush 9, 2) := by decide +kernel
theorem dX7_addPerson_14 : decode cX7_addPerson 14 = .ok (.invokestatic 29, 3) := by decide +kernel
theorem dX7_addPerson_17 : decode cX7_addPerson 17 = .ok (.ifCond .eq 12, 3) := by decide +kernel
theorem dX7_addPerson_20 : decode cX7_addPerson 20 = .ok (.aload_n 0, 1) := by decide +kernel
theorem dX7_addPerson_21 : decode cX7_addPerson 21 = .ok (.getfield 66, 3) := by decide +kernel
theorem dX7_addPerson_24 : decode cX7_addPerson 24 = .ok (.bipush 14, 2) := by decide +kernel
theorem dX7_addPerson_26 : decode cX7_addPerson 26 = .ok (.if_icmp .lt 5, 3) := by decide +kernel
theorem dX7_addPerson_29 : decode cX7_addPerson 29 = .ok (.iconst (-1), 1) := by decide +kernel
theorem dX7_addPerson_30 : decode cX7_addPerson 30 = .ok (.ireturn, 1) := by decide +kernel
theorem dX7_addPerson_31 : decode cX7_addPerson 31 = .ok (.aload_n 0, 1) := by decide +kernel
theorem dX7_addPerson_32 : decode cX7_addPerson 32 = .ok (.getfield 23, 3) := by decide +kernel
theorem dX7_addPerson_35 : decode cX7_addPerson 35 = .ok (.aload_n 0, 1) := by decide +kernel
theorem dX7_addPerson_36 : decode cX7_addPerson 36 = .ok (.getfield 66, 3) := by decide +kernel
theorem dX7_addPerson_39 : decode cX7_addPerson 39 = .ok (.iload_n 1, 1) := by decide +kernel
theorem dX7_addPerson_40 : decode cX7_addPerson 40 = .ok (.iastore, 1) := by decide +kernel
theorem dX7_addPerson_41 : decode cX7_addPerson 41 = .ok (.aload_n 0, 1) := by decide +kernel
theorem dX7_addPerson_42 : decode cX7_addPerson 42 = .ok (.getfield 26, 3) := by decide +kernel
theorem dX7_addPerson_45 : decode cX7_addPerson 45 = .ok (.aload_n 0, 1) := by decide +kernel
theorem dX7_addPerson_46 : decode cX7_addPerson 46 = .ok (.getfield 66, 3) := by decide +kernel
theorem dX7_addPerson_49 : decode cX7_addPerson 49 = .ok (.iload_n 2, 1) := by decide +kernel
theorem dX7_addPerson_50 : decode cX7_addPerson 50 = .ok (.iastore, 1) := by decide +kernel
theorem dX7_addPerson_51 : decode cX7_addPerson 51 = .ok (.aload_n 0, 1) := by decide +kernel
theorem dX7_addPerson_52 : decode cX7_addPerson 52 = .ok (.dup, 1) := by decide +kernel
theorem dX7_addPerson_53 : decode cX7_addPerson 53 = .ok (.getfield 66, 3) := by decide +kernel
theorem dX7_addPerson_56 : decode cX7_addPerson 56 = .ok (.iconst 1, 1) := by decide +kernel
theorem dX7_addPerson_57 : decode cX7_addPerson 57 = .ok (.iadd, 1) := by decide +kernel
theorem dX7_addPerson_58 : decode cX7_addPerson 58 = .ok (.putfield 66, 3) := by decide +kernel
theorem dX7_addPerson_61 : decode cX7_addPerson 61 = .ok (.aload_n 0, 1) := by decide +kernel
theorem dX7_addPerson_62 : decode cX7_addPerson 62 = .ok (.getfield 66, 3) := by decide +kernel
theorem dX7_addPerson_65 : decode cX7_addPerson 65 = .ok (.iconst 1, 1) := by decide +kernel
theorem dX7_addPerson_66 : decode cX7_addPerson 66 = .ok (.isub, 1) := by decide +kernel
theorem dX7_addPerson_67 : decode cX7_addPerson 67 = .ok (.ireturn, 1) := by decide +kernel
theorem dX7_cast_0 : decode cX7_cast 0 = .ok (.iload_n 1, 1) := by decide +kernel
theorem dX7_cast_1 : decode cX7_cast 1 = .ok (.iconst 1, 1) := by decide +kernel
theorem dX7_cast_2 : decode cX7_cast 2 = .ok (.bipush 31, 2) := by decide +kernel
theorem dX7_cast_4 : decode cX7_cast 4 = .ok (.invokestatic 29, 3) := by decide +kernel
theorem dX7_cast_7 : decode cX7_cast 7 = .ok (.ifCond .eq 13, 3) := by decide +kernel
theorem dX7_cast_10 : decode cX7_cast 10 = .ok (.iload_n 2, 1) := by decide +kernel
theorem dX7_cast_11 : decode cX7_cast 11 = .ok (.iconst 0, 1) := by decide +kernel
theorem dX7_cast_12 : decode cX7_cast 12 = .ok (.bipush 9, 2) := by decide +kernel
theorem dX7_cast_14 : decode cX7_cast 14 = .ok (.invokestatic 29, 3) := by decide +kernel
theorem dX7_cast_17 : decode cX7_cast 17 = .ok (.ifCond .ne 5, 3) := by decide +kernel
theorem dX7_cast_20 : decode cX7_cast 20 = .ok (.iconst 0, 1) := by decide +kernel
theorem dX7_cast_21 : decode cX7_cast 21 = .ok (.ireturn, 1) := by decide +kernel
theorem dX7_cast_22 : decode cX7_cast 22 = .ok (.aload_n 0, 1) := by decide +kernel
theorem dX7_cast_23 : decode cX7_cast 23 = .ok (.bipush 6, 2) := by decide +kernel
theorem dX7_cast_25 : decode cX7_cast 25 = .ok (.putfield 69, 3) := by decide +kernel
theorem dX7_cast_28 : decode cX7_cast 28 = .ok (.aload_n 0, 1) := by decide +kernel
theorem dX7_cast_29 : decode cX7_cast 29 = .ok (.iload_n 2, 1) := by decide +kernel
theorem dX7_cast_30 : decode cX7_cast 30 = .ok (.invokevirtual 72, 3) := by decide +kernel
theorem dX7_cast_33 : decode cX7_cast 33 = .ok (.istore_n 3, 1) := by decide +kernel
theorem dX7_cast_34 : decode cX7_cast 34 = .ok (.iconst 1, 1) := by decide +kernel
theorem dX7_cast_35 : decode cX7_cast 35 = .ok (.istore 4, 2) := by decide +kernel
theorem dX7_cast_37 : decode cX7_cast 37 = .ok (.iload 4, 2) := by decide +kernel
theorem dX7_cast_39 : decode cX7_cast 39 = .ok (.iload_n 3, 1) := by decide +kernel
theorem dX7_cast_40 : decode cX7_cast 40 = .ok (.if_icmp .gt 58, 3) := by decide +kernel
theorem dX7_cast_43 : decode cX7_cast 43 = .ok (.iload 4, 2) := by decide +kernel
theorem dX7_cast_45 : decode cX7_cast 45 = .ok (.invokestatic 41, 3) := by decide +kernel
theorem dX7_cast_48 : decode cX7_cast 48 = .ok (.istore 5, 2) := by decide +kernel
theorem dX7_cast_50 : decode cX7_cast 50 = .ok (.iload 4, 2) := by decide +kernel
theorem dX7_cast_52 : decode cX7_cast 52 = .ok (.iload_n 3, 1) := by decide +kernel
theorem dX7_cast_53 : decode cX7_cast 53 = .ok (.iand, 1) := by decide +kernel
theorem dX7_cast_54 : decode cX7_cast 54 = .ok (.iload 4, 2) := by decide +kernel
theorem dX7_cast_56 : decode cX7_cast 56 = .ok (.if_icmp .ne 36, 3) := by decide +kernel
theorem dX7_cast_59 : decode cX7_cast 59 = .ok (.iload 5, 2) := by decide +kernel
theorem dX7_cast_61 : decode cX7_cast 61 = .ok (.aload_n 0, 1) := by decide +kernel
theorem dX7_cast_62 : decode cX7_cast 62 = .ok (.getfield 69, 3) := by decide +kernel
theorem dX7_cast_65 : decode cX7_cast 65 = .ok (.if_icmp .gt 27, 3) := by decide +kernel
theorem dX7_cast_68 : decode cX7_cast 68 = .ok (.iload 5, 2) := by decide +kernel
theorem dX7_cast_70 : decode cX7_cast 70 = .ok (.iconst 5, 1) := by decide +kernel
theorem dX7_cast_71 : decode cX7_cast 71 = .ok (.if_icmp .gt 21, 3) := by decide +kernel
theorem dX7_cast_74 : decode cX7_cast 74 = .ok (.aload_n 0, 1) := by decide +kernel
theorem dX7_cast_75 : decode cX7_cast 75 = .ok (.iload 4, 2) := by decide +kernel
theorem dX7_cast_77 : decode cX7_cast 77 = .ok (.iload_n 1, 1) := by decide +kernel
theorem dX7_cast_78 : decode cX7_cast 78 = .ok (.invokevirtual 75, 3) := by decide +kernel
theorem dX7_cast_81 : decode cX7_cast 81 = .ok (.ifCond .eq 11, 3) := by decide +kernel
theorem dX7_cast_84 : decode cX7_cast 84 = .ok (.aload_n 0, 1) := by decide +kernel
theorem dX7_cast_85 : decode cX7_cast 85 = .ok (.iload 4, 2) := by decide +kernel
theorem dX7_cast_87 : decode cX7_cast 87 = .ok (.iload 5, 2) := by decide +kernel
theorem dX7_cast_89 : decode cX7_cast 89 = .ok (.invokevirtual 78, 3) := by decide +kernel
theorem dX7_cast_92 : decode cX7_cast 92 = .ok (.iinc 4 1, 3) := by decide +kernel
theorem dX7_cast_95 : decode cX7_cast 95 = .ok (.goto (-58), 3) := by decide +kernel
theorem dX7_cast_98 : decode cX7_cast 98 = .ok (.aload_n 0, 1) := by decide +kernel
theorem dX7_cast_99 : decode cX7_cast 99 = .ok (.getfield 69, 3) := by decide +kernel
theorem dX7_cast_102 : decode cX7_cast 102 = .ok (.iconst 5, 1) := by decide +kernel
theorem dX7_cast_103 : decode cX7_cast 103 = .ok (.if_icmp .gt 7, 3) := by decide +kernel
theorem dX7_cast_106 : decode cX7_cast 106 = .ok (.iconst 1, 1) := by decide +kernel
theorem dX7_cast_107 : decode cX7_cast 107 = .ok (.goto 4, 3) := by decide +kernel
theorem dX7_cast_110 : decode cX7_cast 110 = .ok (.iconst 0, 1) := by decide +kernel
theorem dX7_cast_111 : decode cX7_cast 111 = .ok (.ireturn, 1) := by decide +kernel
theorem dX7_ableSet_0 : decode cX7_ableSet 0 = .ok (.iconst 0, 1) := by decide +kernel
theorem dX7_ableSet_1 : decode cX7_ableSet 1 = .ok (.istore_n 2, 1) := by decide +kernel
theorem dX7_ableSet_2 : decode cX7_ableSet 2 = .ok (.iconst 0, 1) := by decide +kernel
theorem dX7_ableSet_3 : decode cX7_ableSet 3 = .ok (.istore_n 3, 1) := by decide +kernel
theorem dX7_ableSet_4 : decode cX7_ableSet 4 = .ok (.iload_n 3, 1) := by decide +kernel
theorem dX7_ableSet_5 : decode cX7_ableSet 5 = .ok (.aload_n 0, 1) := by decide +kernel
theorem dX7_ableSet_6 : decode cX7_ableSet 6 = .ok (.getfield 66, 3) := by decide +kernel
theorem dX7_ableSet_9 : decode cX7_ableSet 9 = .ok (.if_icmp .ge 25, 3) := by decide +kernel
theorem dX7_ableSet_12 : decode cX7_ableSet 12 = .ok (.aload_n 0, 1) := by decide +kernel
theorem dX7_ableSet_13 : decode cX7_ableSet 13 = .ok (.getfield 26, 3) := by decide +kernel
theorem dX7_ableSet_16 : decode cX7_ableSet 16 = .ok (.iload_n 3, 1) := by decide +kernel
theorem dX7_ableSet_17 : decode cX7_ableSet 17 = .ok (.iaload, 1) := by decide +kernel
theorem dX7_ableSet_18 : decode cX7_ableSet 18 = .ok (.iload_n 1, 1) := by decide +kernel
theorem dX7_ableSet_19 : decode cX7_ableSet 19 = .ok (.if_icmp .lt 9, 3) := by decide +kernel
theorem dX7_ableSet_22 : decode cX7_ableSet 22 = .ok (.iload_n 2, 1) := by decide +kernel
theorem dX7_ableSet_23 : decode cX7_ableSet 23 = .ok (.iconst 1, 1) := by decide +kernel
theorem dX7_ableSet_24 : decode cX7_ableSet 24 = .ok (.iload_n 3, 1) := by decide +kernel
theorem dX7_ableSet_25 : decode cX7_ableSet 25 = .ok (.ishl, 1) := by decide +kernel
theorem dX7_ableSet_26 : decode cX7_ableSet 26 = .ok (.ior, 1) := by decide +kernel
theorem dX7_ableSet_27 : decode cX7_ableSet 27 = .ok (.istore_n 2, 1) := by decide +kernel
theorem dX7_ableSet_28 : decode cX7_ableSet 28 = .ok (.iinc 3 1, 3) := by decide +kernel
theorem dX7_ableSet_31 : decode cX7_ableSet 31 = .ok (.goto (-27), 3) := by decide +kernel
theorem dX7_ableSet_34 : decode cX7_ableSet 34 = .ok (.iload_n 2, 1) := by decide +kernel
theorem dX7_ableSet_35 : decode cX7_ableSet 35 = .ok (.ireturn, 1) := by decide +kernel
theorem dX7_speaks_0 : decode cX7_speaks 0 = .ok (.iconst 0, 1) := by decide +kernel
theorem dX7_speaks_1 : decode cX7_speaks 1 = .ok (.istore_n 3, 1) := by decide +kernel
theorem dX7_speaks_2 : decode cX7_speaks 2 = .ok (.iconst 0, 1) := by decide +kernel
theorem dX7_speaks_3 : decode cX7_speaks 3 = .ok (.istore 4, 2) := by decide +kernel
theorem dX7_speaks_5 : decode cX7_speaks 5 = .ok (.iload 4, 2) := by decide +kernel
theorem dX7_speaks_7 : decode cX7_speaks 7 = .ok (.aload_n 0, 1) := by decide +kernel
theorem dX7_speaks_8 : decode cX7_speaks 8 = .ok (.getfield 66, 3) := by decide +kernel
theorem dX7_speaks_11 : decode cX7_speaks 11 = .ok (.if_icmp .ge 28, 3) := by decide +kernel
theorem dX7_speaks_14 : decode cX7_speaks 14 = .ok (.iload_n 1, 1) := by decide +kernel
theorem dX7_speaks_15 : decode cX7_speaks 15 = .ok (.iload 4, 2) := by decide +kernel
theorem dX7_speaks_17 : decode cX7_speaks 17 = .ok (.invokestatic 58, 3) := by decide +kernel
theorem dX7_speaks_20 : decode cX7_speaks 20 = .ok (.ifCond .eq 13, 3) := by decide +kernel
theorem dX7_speaks_23 : decode cX7_speaks 23 = .ok (.iload_n 3, 1) := by decide +kernel
theorem dX7_speaks_24 : decode cX7_speaks 24 = .ok (.aload_n 0, 1) := by decide +kernel
theorem dX7_speaks_25 : decode cX7_speaks 25 = .ok (.getfield 23, 3) := by decide +kernel
theorem dX7_speaks_28 : decode cX7_speaks 28 = .ok (.iload 4, 2) := by decide +kernel
theorem dX7_speaks_30 : decode cX7_speaks 30 = .ok (.iaload, 1) := by decide +kernel
theorem dX7_speaks_31 : decode cX7_speaks 31 = .ok (.ior, 1) := by decide +kernel
theorem dX7_speaks_32 : decode cX7_speaks 32 = .ok (.istore_n 3, 1) := by decide +kernel
theorem dX7_speaks_33 : decode cX7_speaks 33 = .ok (.iinc 4 1, 3) := by decide +kernel
theorem dX7_speaks_36 : decode cX7_speaks 36 = .ok (.goto (-31), 3) := by decide +kernel
theorem dX7_speaks_39 : decode cX7_speaks 39 = .ok (.iload_n 3, 1) := by decide +kernel
theorem dX7_speaks_40 : decode cX7_speaks 40 = .ok (.iload_n 2, 1) := by decide +kernel
theorem dX7_speaks_41 : decode cX7_speaks 41 = .ok (.iand, 1) := by decide +kernel
theorem dX7_speaks_42 : decode cX7_speaks 42 = .ok (.iload_n 2, 1) := by decide +kernel
theorem dX7_speaks_43 : decode cX7_speaks 43 = .ok (.if_icmp .ne 7, 3) := by decide +kernel
theorem dX7_speaks_46 : decode cX7_speaks 46 = .ok (.iconst 1, 1) := by decide +kernel
theorem dX7_speaks_47 : decode cX7_speaks 47 = .ok (.goto 4, 3) := by decide +kernel
theorem dX7_speaks_50 : decode cX7_speaks 50 = .ok (.iconst 0, 1) := by decide +kernel
theorem dX7_speaks_51 : decode cX7_speaks 51 = .ok (.ireturn, 1) := by decide +kernel
theorem dX7_count_0 : decode cX7_count 0 = .ok (.iload_n 2, 1) := by decide +kernel
theorem dX7_count_1 : decode cX7_count 1 = .ok (.aload_n 0, 1) := by decide +kernel
theorem dX7_count_2 : decode cX7_count 2 = .ok (.getfield 69, 3) := by decide +kernel
theorem dX7_count_5 : decode cX7_count 5 = .ok (.if_icmp .ge 18, 3) := by decide +kernel
theorem dX7_count_8 : decode cX7_count 8 = .ok (.aload_n 0, 1) := by decide +kernel
theorem dX7_count_9 : decode cX7_count 9 = .ok (.iload_n 2, 1) := by decide +kernel
theorem dX7_count_10 : decode cX7_count 10 = .ok (.putfield 69, 3) := by decide +kernel
theorem dX7_count_13 : decode cX7_count 13 = .ok (.aload_n 0, 1) := by decide +kernel
theorem dX7_count_14 : decode cX7_count 14 = .ok (.iload_n 1, 1) := by decide +kernel
theorem dX7_count_15 : decode cX7_count 15 = .ok (.putfield 82, 3) := by decide +kernel
theorem dX7_count_18 : decode cX7_count 18 = .ok (.aload_n 0, 1) := by decide +kernel
theorem dX7_count_19 : decode cX7_count 19 = .ok (.iconst 0, 1) := by decide +kernel
theorem dX7_count_20 : decode cX7_count 20 = .ok (.putfield 85, 3) := by decide +kernel
theorem dX7_count_23 : decode cX7_count 23 = .ok (.aload_n 0, 1) := by decide +kernel
theorem dX7_count_24 : decode cX7_count 24 = .ok (.dup, 1) := by decide +kernel
theorem dX7_count_25 : decode cX7_count 25 = .ok (.getfield 85, 3) := by decide +kernel
theorem dX7_count_28 : decode cX7_count 28 = .ok (.iconst 1, 1) := by decide +kernel
theorem dX7_count_29 : decode cX7_count 29 = .ok (.iadd, 1) := by decide +kernel
theorem dX7_count_30 : decode cX7_count 30 = .ok (.putfield 85, 3) := by decide +kernel
theorem dX7_count_33 : decode cX7_count 33 = .ok (.return_, 1) := by decide +kernel
theorem dX8_init_0 : decode cX8_init 0 = .ok (.aload_n 0, 1) := by decide +kernel
theorem dX8_init_1 : decode cX8_init 1 = .ok (.invokespecial 3, 3) := by decide +kernel
theorem dX8_init_4 : decode cX8_init 4 = .ok (.aload_n 0, 1) := by decide +kernel
theorem dX8_init_5 : decode cX8_init 5 = .ok (.sipush 600, 3) := by decide +kernel
theorem dX8_init_8 : decode cX8_init 8 = .ok (.newarray .int, 2) := by decide +kernel
theorem dX8_init_10 : decode cX8_init 10 = .ok (.putfield 11, 3) := by decide +kernel
theorem dX8_init_13 : decode cX8_init 13 = .ok (.aload_n 0, 1) := by decide +kernel
theorem dX8_init_14 : decode cX8_init 14 = .ok (.sipush 600, 3) := by decide +kernel
theorem dX8_init_17 : decode cX8_init 17 = .ok (.newarray .int, 2) := by decide +kernel
theorem dX8_init_19 : decode cX8_init 19 = .ok (.putfield 15, 3) := by decide +kernel
theorem dX8_init_22 : decode cX8_init 22 = .ok (.aload_n 0, 1) := by decide +kernel
theorem dX8_init_23 : decode cX8_init 23 = .ok (.sipush 600, 3) := by decide +kernel
theorem dX8_init_26 : decode cX8_init 26 = .ok (.newarray .int, 2) := by decide +kernel
theorem dX8_init_28 : decode cX8_init 28 = .ok (.putfield 18, 3) := by decide +kernel
theorem dX8_init_31 : decode cX8_init 31 = .ok (.aload_n 0, 1) := by decide +kernel
theorem dX8_init_32 : decode cX8_init 32 = .ok (.sipush 600, 3) := by decide +kernel
theorem dX8_init_35 : decode cX8_init 35 = .ok (.newarray .int, 2) := by decide +kernel
theorem dX8_init_37 : decode cX8_init 37 = .ok (.putfield 21, 3) := by decide +kernel
theorem dX8_init_40 : decode cX8_init 40 = .ok (.return_, 1) := by decide +kernel
theorem dX8_append_0 : decode cX8_append 0 = .ok (.aload_n 0, 1) := by decide +kernel
theorem dX8_append_1 : decode cX8_append 1 = .ok (.getfield 24, 3) := by decide +kernel
theorem dX8_append_4 : decode cX8_append 4 = .ok (.bipush 20, 2) := by decide +kernel
theorem dX8_append_6 : decode cX8_append 6 = .ok (.iadd, 1) := by decide +kernel
theorem dX8_append_7 : decode cX8_append 7 = .ok (.sipush 600, 3) := by decide +kernel
theorem dX8_append_10 : decode cX8_append 10 = .ok (.if_icmp .le 5, 3) := by decide +kernel
theorem dX8_append_13 : decode cX8_append 13 = .ok (.iconst (-1), 1) := by decide +kernel
theorem dX8_append_14 : decode cX8_append 14 = .ok (.ireturn, 1) := by decide +kernel
theorem dX8_append_15 : decode cX8_append 15 = .ok (.aload_n 0, 1) := by decide +kernel
theorem dX8_append_16 : decode cX8_append 16 = .ok (.iload_n 1, 1) := by decide +kernel
theorem dX8_append_17 : decode cX8_append 17 = .ok (.invokevirtual 28, 3) := by decide +kernel
theorem dX8_append_20 : decode cX8_append 20 = .ok (.aload_n 0, 1) := by decide +kernel
theorem dX8_append_21 : decode cX8_append 21 = .ok (.iload_n 2, 1) := by decide +kernel
theorem dX8_append_22 : decode cX8_append 22 = .ok (.invokevirtual 28, 3) := by decide +kernel
theorem dX8_append_25 : decode cX8_append 25 = .ok (.aload_n 0, 1) := by decide +kernel
theorem dX8_append_26 : decode cX8_append 26 = .ok (.iload_n 3, 1) := by decide +kernel
theorem dX8_append_27 : decode cX8_append 27 = .ok (.invokevirtual 28, 3) := by decide +kernel
theorem dX8_append_30 : decode cX8_append 30 = .ok (.aload_n 0, 1) := by decide +kernel
theorem dX8_append_31 : decode cX8_append 31 = .ok (.iload 4, 2) := by decide +kernel
theorem dX8_append_33 : decode cX8_append 33 = .ok (.invokevirtual 28, 3) := by decide +kernel
theorem dX8_append_36 : decode cX8_append 36 = .ok (.aload_n 0, 1) := by decide +kernel
theorem dX8_append_37 : decode cX8_append 37 = .ok (.iload 5, 2) := by decide +kernel
theorem dX8_append_39 : decode cX8_append 39 = .ok (.invokevirtual 28, 3) := by decide +kernel
theorem dX8_append_42 : decode cX8_append 42 = .ok (.aload_n 0, 1) := by decide +kernel
theorem dX8_append_43 : decode cX8_append 43 = .ok (.getfield 24, 3) := by decide +kernel
theorem dX8_append_46 : decode cX8_append 46 = .ok (.ireturn, 1) := by decide +kernel
theorem dX8_appendBytes_0 : decode cX8_appendBytes 0 = .ok (.bipush 24, 2) := by decide +kernel
theorem dX8_appendBytes_2 : decode cX8_appendBytes 2 = .ok (.istore_n 2, 1) := by decide +kernel
theorem dX8_appendBytes_3 : decode cX8_appendBytes 3 = .ok (.iload_n 2, 1) := by decide +kernel
theorem dX8_appendBytes_4 : decode cX8_appendBytes 4 = .ok (.ifCond .lt 45, 3) := by decide +kernel
theorem dX8_appendBytes_7 : decode cX8_appendBytes 7 = .ok (.aload_n 0, 1) := by decide +kernel
theorem dX8_appendBytes_8 : decode cX8_appendBytes 8 = .ok (.getfield 24, 3) := by decide +kernel
theorem dX8_appendBytes_11 : decode cX8_appendBytes 11 = .ok (.sipush 600, 3) := by decide +kernel
theorem dX8_appendBytes_14 : decode cX8_appendBytes 14 = .ok (.if_icmp .ge 29, 3) := by decide +kernel
theorem dX8_appendBytes_17 : decode cX8_appendBytes 17 = .ok (.aload_n 0, 1) := by decide +kernel
theorem dX8_appendBytes_18 : decode cX8_appendBytes 18 = .ok (.getfield 11, 3) := by decide +kernel
theorem dX8_appendBytes_21 : decode cX8_appendBytes 21 = .ok (.aload_n 0, 1) := by decide +kernel
theorem dX8_appendBytes_22 : decode cX8_appendBytes 22 = .ok (.getfield 24, 3) := by decide +kernel
theorem dX8_appendBytes_25 : decode cX8_appendBytes 25 = .ok (.iload_n 1, 1) := by decide +kernel
theorem dX8_appendBytes_26 : decode cX8_appendBytes 26 = .ok (.iload_n 2, 1) := by decide +kernel
theorem dX8_appendBytes_27 : decode cX8_appendBytes 27 = .ok (.iushr, 1) := by decide +kernel
theorem dX8_appendBytes_28 : decode cX8_appendBytes 28 = .ok (.sipush 255, 3) := by decide +kernel
theorem dX8_appendBytes_31 : decode cX8_appendBytes 31 = .ok (.iand, 1) := by decide +kernel
theorem dX8_appendBytes_32 : decode cX8_appendBytes 32 = .ok (.iastore, 1) := by decide +kernel
theorem dX8_appendBytes_33 : decode cX8_appendBytes 33 = .ok (.aload_n 0, 1) := by decide +kernel
theorem dX8_appendBytes_34 : decode cX8_appendBytes 34 = .ok (.dup, 1) := by decide +kernel
theorem dX8_appendBytes_35 : decode cX8_appendBytes 35 = .ok (.getfield 24, 3) := by decide +kernel
theorem dX8_appendBytes_38 : decode cX8_appendBytes 38 = .ok (.iconst 1, 1) := by decide +kernel
theorem dX8_appendBytes_39 : decode cX8_appendBytes 39 = .ok (.iadd, 1) := by decide +kernel
theorem dX8_appendBytes_40 : decode cX8_appendBytes 40 = .ok (.putfield 24, 3) := by decide +kernel
theorem dX8_appendBytes_43 : decode cX8_appendBytes 43 = .ok (.iinc 2 (-8), 3) := by decide +kernel
theorem dX8_appendBytes_46 : decode cX8_appendBytes 46 = .ok (.goto (-43), 3) := by decide +kernel
theorem dX8_appendBytes_49 : decode cX8_appendBytes 49 = .ok (.return_, 1) := by decide +kernel
theorem dX8_cut_0 : decode cX8_cut 0 = .ok (.iload_n 1, 1) := by decide +kernel
theorem dX8_cut_1 : decode cX8_cut 1 = .ok (.iconst 0, 1) := by decide +kernel
theorem dX8_cut_2 : decode cX8_cut 2 = .ok (.aload_n 0, 1) := by decide +kernel
theorem dX8_cut_3 : decode cX8_cut 3 = .ok (.getfield 24, 3) := by decide +kernel
theorem dX8_cut_6 : decode cX8_cut 6 = .ok (.invokestatic 32, 3) := by decide +kernel
theorem dX8_cut_9 : decode cX8_cut 9 = .ok (.ifCond .ne 5, 3) := by decide +kernel
theorem dX8_cut_12 : decode cX8_cut 12 = .ok (.iconst 0, 1) := by decide +kernel
theorem dX8_cut_13 : decode cX8_cut 13 = .ok (.ireturn, 1) := by decide +kernel
theorem dX8_cut_14 : decode cX8_cut 14 = .ok (.aload_n 0, 1) := by decide +kernel
theorem dX8_cut_15 : decode cX8_cut 15 = .ok (.iload_n 1, 1) := by decide +kernel
theorem dX8_cut_16 : decode cX8_cut 16 = .ok (.putfield 24, 3) := by decide +kernel
theorem dX8_cut_19 : decode cX8_cut 19 = .ok (.iconst 1, 1) := by decide +kernel
theorem dX8_cut_20 : decode cX8_cut 20 = .ok (.ireturn, 1) := by decide +kernel
theorem dX8_scan_0 : decode cX8_scan 0 = .ok (.aload_n 0, 1) := by decide +kernel
theorem dX8_scan_1 : decode cX8_scan 1 = .ok (.iconst 0, 1) := by decide +kernel
theorem dX8_scan_2 : decode cX8_scan 2 = .ok (.putfield 36, 3) := by decide +kernel
theorem dX8_scan_5 : decode cX8_scan 5 = .ok (.iconst 0, 1) := by decide +kernel
theorem dX8_scan_6 : decode cX8_scan 6 = .ok (.istore_n 1, 1) := by decide +kernel
theorem dX8_scan_7 : decode cX8_scan 7 = .ok (.iload_n 1, 1) := by decide +kernel
theorem dX8_scan_8 : decode cX8_scan 8 = .ok (.aload_n 0, 1) := by decide +kernel
theorem dX8_scan_9 : decode cX8_scan 9 = .ok (.getfield 24, 3) := by decide +kernel
theorem dX8_scan_12 : decode cX8_scan 12 = .ok (.if_icmp .ge 80, 3) := by decide +kernel
theorem dX8_scan_15 : decode cX8_scan 15 = .ok (.aload_n 0, 1) := by decide +kernel
theorem dX8_scan_16 : decode cX8_scan 16 = .ok (.getfield 11, 3) := by decide +kernel
theorem dX8_scan_19 : decode cX8_scan 19 = .ok (.iload_n 1, 1) := by decide +kernel
theorem dX8_scan_20 : decode cX8_scan 20 = .ok (.iaload, 1) := by decide +kernel
theorem dX8_scan_21 : decode cX8_scan 21 = .ok (.bipush 32, 2) := by decide +kernel
theorem dX8_scan_23 : decode cX8_scan 23 = .ok (.if_icmp .eq 14, 3) := by decide +kernel
theorem dX8_scan_26 : decode cX8_scan 26 = .ok (.aload_n 0, 1) := by decide +kernel
theorem dX8_scan_27 : decode cX8_scan 27 = .ok (.getfield 11, 3) := by decide +kernel
theorem dX8_scan_30 : decode cX8_scan 30 = .ok (.iload_n 1, 1) := by decide +kernel
theorem dX8_scan_31 : decode cX8_scan 31 = .ok (.iaload, 1) := by decide +kernel
theorem dX8_scan_32 : decode cX8_scan 32 = .ok (.bipush 10, 2) := by decide +kernel
theorem dX8_scan_34 : decode cX8_scan 34 = .ok (.if_icmp .ne 7, 3) := by decide +kernel
theorem dX8_scan_37 : decode cX8_scan 37 = .ok (.iconst 1, 1) := by decide +kernel
theorem dX8_scan_38 : decode cX8_scan 38 = .ok (.goto 4, 3) := by decide +kernel
theorem dX8_scan_41 : decode cX8_scan 41 = .ok (.iconst 0, 1) := by decide +kernel
theorem dX8_scan_42 : decode cX8_scan 42 = .ok (.istore_n 2, 1) := by decide +kernel
theorem dX8_scan_43 : decode cX8_scan 43 = .ok (.iload_n 1, 1) := by decide +kernel
theorem dX8_scan_44 : decode cX8_scan 44 = .ok (.ifCond .le 27, 3) := by decide +kernel
theorem dX8_scan_47 : decode cX8_scan 47 = .ok (.aload_n 0, 1) := by decide +kernel
theorem dX8_scan_48 : decode cX8_scan 48 = .ok (.getfield 11, 3) := by decide +kernel
theorem dX8_scan_51 : decode cX8_scan 51 = .ok (.iload_n 1, 1) := by decide +kernel
theorem dX8_scan_52 : decode cX8_scan 52 = .ok (.iconst 1, 1) := by decide +kernel
theorem dX8_scan_53 : decode cX8_scan 53 = .ok (.isub, 1) := by decide +kernel
theorem dX8_scan_54 : decode cX8_scan 54 = .ok (.iaload, 1) := by decide +kernel
theorem dX8_scan_55 : decode cX8_scan 55 = .ok (.aload_n 0, 1) := by decide +kernel
theorem dX8_scan_56 : decode cX8_scan 56 = .ok (.getfield 11, 3) := by decide +kernel
theorem dX8_scan_59 : decode cX8_scan 59 = .ok (.iload_n 1, 1) := by decide +kernel
theorem dX8_scan_60 : decode cX8_scan 60 = .ok (.iaload, 1) := by decide +kernel
theorem dX8_scan_61 : decode cX8_scan 61 = .ok (.invokestatic 39, 3) := by decide +kernel
theorem dX8_scan_64 : decode cX8_scan 64 = .ok (.ifCond .eq 7, 3) := by decide +kernel
theorem dX8_scan_67 : decode cX8_scan 67 = .ok (.iconst 1, 1) := by decide +kernel
theorem dX8_scan_68 : decode cX8_scan 68 = .ok (.goto 4, 3) := by decide +kernel
theorem dX8_scan_71 : decode cX8_scan 71 = .ok (.iconst 0, 1) := by decide +kernel
theorem dX8_scan_72 : decode cX8_scan 72 = .ok (.istore_n 3, 1) := by decide +kernel
theorem dX8_scan_73 : decode cX8_scan 73 = .ok (.iload_n 2, 1) := by decide +kernel
theorem dX8_scan_74 : decode cX8_scan 74 = .ok (.ifCond .ne 12, 3) := by decide +kernel
theorem dX8_scan_77 : decode cX8_scan 77 = .ok (.iload_n 3, 1) := by decide +kernel
theorem dX8_scan_78 : decode cX8_scan 78 = .ok (.ifCond .ne 8, 3) := by decide +kernel
theorem dX8_scan_81 : decode cX8_scan 81 = .ok (.aload_n 0, 1) := by decide +kernel
theorem dX8_scan_82 : decode cX8_scan 82 = .ok (.iload_n 1, 1) := by decide +kernel
theorem dX8_scan_83 : decode cX8_scan 83 = .ok (.invokevirtual 43, 3) := by decide +kernel
theorem dX8_scan_86 : decode cX8_scan 86 = .ok (.iinc 1 1, 3) := by decide +kernel
theorem dX8_scan_89 : decode cX8_scan 89 = .ok (.goto (-82), 3) := by decide +kernel
theorem dX8_scan_92 : decode cX8_scan 92 = .ok (.return_, 1) := by decide +kernel
theorem dX8_isLetter_0 : decode cX8_isLetter 0 = .ok (.iload_n 0, 1) := by decide +kernel
theorem dX8_isLetter_1 : decode cX8_isLetter 1 = .ok (.bipush 97, 2) := by decide +kernel
theorem dX8_isLetter_3 : decode cX8_isLetter 3 = .ok (.bipush 122, 2) := by decide +kernel
theorem dX8_isLetter_5 : decode cX8_isLetter 5 = .ok (.invokestatic 32, 3) := by decide +kernel
theorem dX8_isLetter_8 : decode cX8_isLetter 8 = .ok (.ifCond .ne 14, 3) := by decide +kernel
theorem dX8_isLetter_11 : decode cX8_isLetter 11 = .ok (.iload_n 0, 1) := by decide +kernel
theorem dX8_isLetter_12 : decode cX8_isLetter 12 = .ok (.bipush 65, 2) := by decide +kernel
theorem dX8_isLetter_14 : decode cX8_isLetter 14 = .ok (.bipush 90, 2) := by decide +kernel
theorem dX8_isLetter_16 : decode cX8_isLetter 16 = .ok (.invokestatic 32, 3) := by decide +kernel
theorem dX8_isLetter_19 : decode cX8_isLetter 19 = .ok (.ifCond .eq 7, 3) := by decide +kernel
theorem dX8_isLetter_22 : decode cX8_isLetter 22 = .ok (.iconst 1, 1) := by decide +kernel
theorem dX8_isLetter_23 : decode cX8_isLetter 23 = .ok (.goto 4, 3) := by decide +kernel
theorem dX8_isLetter_26 : decode cX8_isLetter 26 = .ok (.iconst 0, 1) := by decide +kernel
theorem dX8_isLetter_27 : decode cX8_isLetter 27 = .ok (.ireturn, 1) := by decide +kernel
theorem dX8_isDigit_0 : decode cX8_isDigit 0 = .ok (.iload_n 0, 1) := by decide +kernel
theorem dX8_isDigit_1 : decode cX8_isDigit 1 = .ok (.bipush 48, 2) := by decide +kernel
theorem dX8_isDigit_3 : decode cX8_isDigit 3 = .ok (.bipush 57, 2) := by decide +kernel
theorem dX8_isDigit_5 : decode cX8_isDigit 5 = .ok (.invokestatic 32, 3) := by decide +kernel
theorem dX8_isDigit_8 : decode cX8_isDigit 8 = .ok (.ireturn, 1) := by decide +kernel
theorem dX8_standTogether_0 : decode cX8_standTogether 0 = .ok (.iload_n 0, 1) := by decide +kernel
theorem dX8_standTogether_1 : decode cX8_standTogether 1 = .ok (.invokestatic 46, 3) := by decide +kernel
theorem dX8_standTogether_4 : decode cX8_standTogether 4 = .ok (.ifCond .eq 10, 3) := by decide +kernel
theorem dX8_standTogether_7 : decode cX8_standTogether 7 = .ok (.iload_n 1, 1) := by decide +kernel
theorem dX8_standTogether_8 : decode cX8_standTogether 8 = .ok (.invokestatic 46, 3) := by decide +kernel
theorem dX8_standTogether_11 : decode cX8_standTogether 11 = .ok (.ifCond .ne 17, 3) := by decide +kernel
theorem dX8_standTogether_14 : decode cX8_standTogether 14 = .ok (.iload_n 0, 1) := by decide +kernel
theorem dX8_standTogether_15 : decode cX8_standTogether 15 = .ok (.invokestatic 50, 3) := by decide +kernel
theorem dX8_standTogether_18 : decode cX8_standTogether 18 = .ok (.ifCond .eq 14, 3) := by decide +kernel
theorem dX8_standTogether_21 : decode cX8_standTogether 21 = .ok (.iload_n 1, 1) := by decide +kernel
theorem dX8_standTogether_22 : decode cX8_standTogether 22 = .ok (.invokestatic 50, 3) := by decide +kernel
theorem dX8_standTogether_25 : decode cX8_standTogether 25 = .ok (.ifCond .eq 7, 3) := by decide +kernel
theorem dX8_standTogether_28 : decode cX8_standTogether 28 = .ok (.iconst 1, 1) := by decide +kernel
theorem dX8_standTogether_29 : decode cX8_standTogether 29 = .ok (.goto 4, 3) := by decide +kernel
theorem dX8_standTogether_32 : decode cX8_standTogether 32 = .ok (.iconst 0, 1) := by decide +kernel
theorem dX8_standTogether_33 : decode cX8_standTogether 33 = .ok (.ireturn, 1) := by decide +kernel
theorem dX8_addToken_0 : decode cX8_addToken 0 = .ok (.aload_n 0, 1) := by decide +kernel
theorem dX8_addToken_1 : decode cX8_addToken 1 = .ok (.getfield 11, 3) := by decide +kernel
theorem dX8_addToken_4 : decode cX8_addToken 4 = .ok (.iload_n 1, 1) := by decide +kernel
theorem dX8_addToken_5 : decode cX8_addToken 5 = .ok (.iaload, 1) := by decide +kernel
theorem dX8_addToken_6 : decode cX8_addToken 6 = .ok (.istore_n 2, 1) := by decide +kernel
theorem dX8_addToken_7 : decode cX8_addToken 7 = .ok (.iload_n 1, 1) := by decide +kernel
theorem dX8_addToken_8 : decode cX8_addToken 8 = .ok (.iconst 1, 1) := by decide +kernel
theorem dX8_addToken_9 : decode cX8_addToken 9 = .ok (.iadd, 1) := by decide +kernel
theorem dX8_addToken_10 : decode cX8_addToken 10 = .ok (.istore_n 3, 1) := by decide +kernel
theorem dX8_addToken_11 : decode cX8_addToken 11 = .ok (.iload_n 3, 1) := by decide +kernel
theorem dX8_addToken_12 : decode cX8_addToken 12 = .ok (.aload_n 0, 1) := by decide +kernel
theorem dX8_addToken_13 : decode cX8_addToken 13 = .ok (.getfield 24, 3) := by decide +kernel
theorem dX8_addToken_16 : decode cX8_addToken 16 = .ok (.if_icmp .ge 22, 3) := by decide +kernel
theorem dX8_addToken_19 : decode cX8_addToken 19 = .ok (.iload_n 2, 1) := by decide +kernel
theorem dX8_addToken_20 : decode cX8_addToken 20 = .ok (.aload_n 0, 1) := by decide +kernel
theorem dX8_addToken_21 : decode cX8_addToken 21 = .ok (.getfield 11, 3) := by decide +kernel
theorem dX8_addToken_24 : decode cX8_addToken 24 = .ok (.iload_n 3, 1) := by decide +kernel
theorem dX8_addToken_25 : decode cX8_addToken 25 = .ok (.iaload, 1) := by decide +kernel
theorem dX8_addToken_26 : decode cX8_addToken 26 = .ok (.invokestatic 39, 3) := by decide +kernel
theorem dX8_addToken_29 : decode cX8_addToken 29 = .ok (.ifCond .eq 9, 3) := by decide +kernel
theorem dX8_addToken_32 : decode cX8_addToken 32 = .ok (.iinc 3 1, 3) := by decide +kernel
theorem dX8_addToken_35 : decode cX8_addToken 35 = .ok (.goto (-24), 3) := by decide +kernel
theorem dX8_addToken_38 : decode cX8_addToken 38 = .ok (.aload_n 0, 1) := by decide +kernel
theorem dX8_addToken_39 : decode cX8_addToken 39 = .ok (.getfield 15, 3) := by decide +kernel
theorem dX8_addToken_42 : decode cX8_addToken 42 = .ok (.aload_n 0, 1) := by decide +kernel
theorem dX8_addToken_43 : decode cX8_addToken 43 = .ok (.getfield 36, 3) := by decide +kernel
theorem dX8_addToken_46 : decode cX8_addToken 46 = .ok (.iconst 2, 1) := by decide +kernel
theorem dX8_addToken_47 : decode cX8_addToken 47 = .ok (.iastore, 1) := by decide +kernel
theorem dX8_addToken_48 : decode cX8_addToken 48 = .ok (.aload_n 0, 1) := by decide +kernel
theorem dX8_addToken_49 : decode cX8_addToken 49 = .ok (.getfield 18, 3) := by decide +kernel
theorem dX8_addToken_52 : decode cX8_addToken 52 = .ok (.aload_n 0, 1) := by decide +kernel
theorem dX8_addToken_53 : decode cX8_addToken 53 = .ok (.getfield 36, 3) := by decide +kernel
theorem dX8_addToken_56 : decode cX8_addToken 56 = .ok (.iconst 0, 1) := by decide +kernel
theorem dX8_addToken_57 : decode cX8_addToken 57 = .ok (.iastore, 1) := by decide +kernel
theorem dX8_addToken_58 : decode cX8_addToken 58 = .ok (.aload_n 0, 1) := by decide +kernel
theorem dX8_addToken_59 : decode cX8_addToken 59 = .ok (.getfield 21, 3) := by decide +kernel
theorem dX8_addToken_62 : decode cX8_addToken 62 = .ok (.aload_n 0, 1) := by decide +kernel
theorem dX8_addToken_63 : decode cX8_addToken 63 = .ok (.getfield 36, 3) := by decide +kernel
theorem dX8_addToken_66 : decode cX8_addToken 66 = .ok (.iload_n 1, 1) := by decide +kernel
theorem dX8_addToken_67 : decode cX8_addToken 67 = .ok (.iastore, 1) := by decide +kernel
theorem dX8_addToken_68 : decode cX8_addToken 68 = .ok (.iload_n 2, 1) := by decide +kernel
theorem dX8_addToken_69 : decode cX8_addToken 69 = .ok (.invokestatic 46, 3) := by decide +kernel
theorem dX8_addToken_72 : decode cX8_addToken 72 = .ok (.ifCond .eq 23, 3) := by decide +kernel
theorem dX8_addToken_75 : decode cX8_addToken 75 = .ok (.aload_n 0, 1) := by decide +kernel
theorem dX8_addToken_76 : decode cX8_addToken 76 = .ok (.getfield 15, 3) := by decide +kernel
theorem dX8_addToken_79 : decode cX8_addToken 79 = .ok (.aload_n 0, 1) := by decide +kernel
theorem dX8_addToken_80 : decode cX8_addToken 80 = .ok (.getfield 36, 3) := by decide +kernel
theorem dX8_addToken_83 : decode cX8_addToken 83 = .ok (.aload_n 0, 1) := by decide +kernel
theorem dX8_addToken_84 : decode cX8_addToken 84 = .ok (.iload_n 1, 1) := by decide +kernel
theorem dX8_addToken_85 : decode cX8_addToken 85 = .ok (.iload_n 3, 1) := by decide +kernel
theorem dX8_addToken_86 : decode cX8_addToken 86 = .ok (.iload_n 1, 1) := by decide +kernel
theorem dX8_addToken_87 : decode cX8_addToken 87 = .ok (.isub, 1) := by decide +kernel
theorem dX8_addToken_88 : decode cX8_addToken 88 = .ok (.invokevirtual 53, 3) := by decide +kernel
theorem dX8_addToken_91 : decode cX8_addToken 91 = .ok (.iastore, 1) := by decide +kernel
theorem dX8_addToken_92 : decode cX8_addToken 92 = .ok (.goto 39, 3) := by decide +kernel
theorem dX8_addToken_95 : decode cX8_addToken 95 = .ok (.iload_n 2, 1) := by decide +kernel
theorem dX8_addToken_96 : decode cX8_addToken 96 = .ok (.invokestatic 50, 3) := by decide +kernel
theorem dX8_addToken_99 : decode cX8_addToken 99 = .ok (.ifCond .eq 12, 3) := by decide +kernel
theorem dX8_addToken_102 : decode cX8_addToken 102 = .ok (.aload_n 0, 1) := by decide +kernel
theorem dX8_addToken_103 : decode cX8_addToken 103 = .ok (.iload_n 1, 1) := by decide +kernel
theorem dX8_addToken_104 : decode cX8_addToken 104 = .ok (.iload_n 3, 1) := by decide +kernel
theorem dX8_addToken_105 : decode cX8_addToken 105 = .ok (.invokevirtual 57, 3) := by decide +kernel
theorem dX8_addToken_108 : decode cX8_addToken 108 = .ok (.goto 23, 3) := by decide +kernel
theorem dX8_addToken_111 : decode cX8_addToken 111 = .ok (.ldc 61, 2) := by decide +kernel
theorem dX8_addToken_113 : decode cX8_addToken 113 = .ok (.iload_n 2, 1) := by decide +kernel
theorem dX8_addToken_114 : decode cX8_addToken 114 = .ok (.i2c, 1) := by decide +kernel
theorem dX8_addToken_115 : decode cX8_addToken 115 = .ok (.invokevirtual 63, 3) := by decide +kernel
theorem dX8_addToken_118 : decode cX8_addToken 118 = .ok (.ifCond .lt 13, 3) := by decide +kernel
theorem dX8_addToken_121 : decode cX8_addToken 121 = .ok (.aload_n 0, 1) := by decide +kernel
theorem dX8_addToken_122 : decode cX8_addToken 122 = .ok (.getfield 15, 3) := by decide +kernel
theorem dX8_addToken_125 : decode cX8_addToken 125 = .ok (.aload_n 0, 1) := by decide +kernel
theorem dX8_addToken_126 : decode cX8_addToken 126 = .ok (.getfield 36, 3) := by decide +kernel
theorem dX8_addToken_129 : decode cX8_addToken 129 = .ok (.iload_n 2, 1) := by decide +kernel
theorem dX8_addToken_130 : decode cX8_addToken 130 = .ok (.iastore, 1) := by decide +kernel
theorem dX8_addToken_131 : decode cX8_addToken 131 = .ok (.aload_n 0, 1) := by decide +kernel
theorem dX8_addToken_132 : decode cX8_addToken 132 = .ok (.dup, 1) := by decide +kernel
theorem dX8_addToken_133 : decode cX8_addToken 133 = .ok (.getfield 36, 3) := by decide +kernel
theorem dX8_addToken_136 : decode cX8_addToken 136 = .ok (.iconst 1, 1) := by decide +kernel
theorem dX8_addToken_137 : decode cX8_addToken 137 = .ok (.iadd, 1) := by decide +kernel
theorem dX8_addToken_138 : decode cX8_addToken 138 = .ok (.putfield 36, 3) := by decide +kernel
theorem dX8_addToken_141 : decode cX8_addToken 141 = .ok (.return_, 1) := by decide +kernel
theorem dX8_addNumber_0 : decode cX8_addNumber 0 = .ok (.iload_n 2, 1) := by decide +kernel
theorem dX8_addNumber_1 : decode cX8_addNumber 1 = .ok (.iload_n 1, 1) := by decide +kernel
theorem dX8_addNumber_2 : decode cX8_addNumber 2 = .ok (.isub, 1) := by decide +kernel
theorem dX8_addNumber_3 : decode cX8_addNumber 3 = .ok (.iconst 4, 1) := by decide +kernel
theorem dX8_addNumber_4 : decode cX8_addNumber 4 = .ok (.if_icmp .le 4, 3) := by decide +kernel
theorem dX8_addNumber_7 : decode cX8_addNumber 7 = .ok (.return_, 1) := by decide +kernel
theorem dX8_addNumber_8 : decode cX8_addNumber 8 = .ok (.aload_n 0, 1) := by decide +kernel
theorem dX8_addNumber_9 : decode cX8_addNumber 9 = .ok (.getfield 15, 3) := by decide +kernel
theorem dX8_addNumber_12 : decode cX8_addNumber 12 = .ok (.aload_n 0, 1) := by decide +kernel
theorem dX8_addNumber_13 : decode cX8_addNumber 13 = .ok (.getfield 36, 3) := by decide +kernel
theorem dX8_addNumber_16 : decode cX8_addNumber 16 = .ok (.iconst 1, 1) := by decide +kernel
theorem dX8_addNumber_17 : decode cX8_addNumber 17 = .ok (.iastore, 1) := by decide +kernel
theorem dX8_addNumber_18 : decode cX8_addNumber 18 = .ok (.iload_n 1, 1) := by decide +kernel
theorem dX8_addNumber_19 : decode cX8_addNumber 19 = .ok (.istore_n 3, 1) := by decide +kernel
theorem dX8_addNumber_20 : decode cX8_addNumber 20 = .ok (.iload_n 3, 1) := by decide +kernel
theorem dX8_addNumber_21 : decode cX8_addNumber 21 = .ok (.iload_n 2, 1) := by decide +kernel
theorem dX8_addNumber_22 : decode cX8_addNumber 22 = .ok (.if_icmp .ge 40, 3) := by decide +kernel
theorem dX8_addNumber_25 : decode cX8_addNumber 25 = .ok (.aload_n 0, 1) := by decide +kernel
theorem dX8_addNumber_26 : decode cX8_addNumber 26 = .ok (.getfield 18, 3) := by decide +kernel
theorem dX8_addNumber_29 : decode cX8_addNumber 29 = .ok (.aload_n 0, 1) := by decide +kernel
theorem dX8_addNumber_30 : decode cX8_addNumber 30 = .ok (.getfield 36, 3) := by decide +kernel
theorem dX8_addNumber_33 : decode cX8_addNumber 33 = .ok (.aload_n 0, 1) := by decide +kernel
theorem dX8_addNumber_34 : decode cX8_addNumber 34 = .ok (.getfield 18, 3) := by decide +kernel
theorem dX8_addNumber_37 : decode cX8_addNumber 37 = .ok (.aload_n 0, 1) := by decide +kernel
theorem dX8_addNumber_38 : decode cX8_addNumber 38 = .ok (.getfield 36, 3) := by decide +kernel
theorem dX8_addNumber_41 : decode cX8_addNumber 41 = .ok (.iaload, 1) := by decide +kernel
theorem dX8_addNumber_42 : decode cX8_addNumber 42 = .ok (.bipush 10, 2) := by decide +kernel
theorem dX8_addNumber_44 : decode cX8_addNumber 44 = .ok (.imul, 1) := by decide +kernel
theorem dX8_addNumber_45 : decode cX8_addNumber 45 = .ok (.aload_n 0, 1) := by decide +kernel
theorem dX8_addNumber_46 : decode cX8_addNumber 46 = .ok (.getfield 11, 3) := by decide +kernel
theorem dX8_addNumber_49 : decode cX8_addNumber 49 = .ok (.iload_n 3, 1) := by decide +kernel
theorem dX8_addNumber_50 : decode cX8_addNumber 50 = .ok (.iaload, 1) := by decide +kernel
theorem dX8_addNumber_51 : decode cX8_addNumber 51 = .ok (.iadd, 1) := by decide +kernel
theorem dX8_addNumber_52 : decode cX8_addNumber 52 = .ok (.bipush 48, 2) := by decide +kernel
theorem dX8_addNumber_54 : decode cX8_addNumber 54 = .ok (.isub, 1) := by decide +kernel
theorem dX8_addNumber_55 : decode cX8_addNumber 55 = .ok (.iastore, 1) := by decide +kernel
theorem dX8_addNumber_56 : decode cX8_addNumber 56 = .ok (.iinc 3 1, 3) := by decide +kernel
theorem dX8_addNumber_59 : decode cX8_addNumber 59 = .ok (.goto (-39), 3) := by decide +kernel
theorem dX8_addNumber_62 : decode cX8_addNumber 62 = .ok (.return_, 1) := by decide +kernel
theorem dX8_keyword_0 : decode cX8_keyword 0 = .ok (.iconst 0, 1) := by decide +kernel
theorem dX8_keyword_1 : decode cX8_keyword 1 = .ok (.istore_n 3, 1) := by decide +kernel
theorem dX8_keyword_2 : decode cX8_keyword 2 = .ok (.iload_n 3, 1) := by decide +kernel
theorem dX8_keyword_3 : decode cX8_keyword 3 = .ok (.bipush 17, 2) := by decide +kernel
theorem dX8_keyword_5 : decode cX8_keyword 5 = .ok (.if_icmp .ge 31, 3) := by decide +kernel
theorem dX8_keyword_8 : decode cX8_keyword 8 = .ok (.iload_n 2, 1) := by decide +kernel
theorem dX8_keyword_9 : decode cX8_keyword 9 = .ok (.bipush 6, 2) := by decide +kernel
theorem dX8_keyword_11 : decode cX8_keyword 11 = .ok (.if_icmp .gt 19, 3) := by decide +kernel
theorem dX8_keyword_14 : decode cX8_keyword 14 = .ok (.aload_n 0, 1) := by decide +kernel
theorem dX8_keyword_15 : decode cX8_keyword 15 = .ok (.iload_n 3, 1) := by decide +kernel
theorem dX8_keyword_16 : decode cX8_keyword 16 = .ok (.iload_n 1, 1) := by decide +kernel
theorem dX8_keyword_17 : decode cX8_keyword 17 = .ok (.iload_n 2, 1) := by decide +kernel
theorem dX8_keyword_18 : decode cX8_keyword 18 = .ok (.invokevirtual 69, 3) := by decide +kernel
theorem dX8_keyword_21 : decode cX8_keyword 21 = .ok (.ifCond .eq 9, 3) := by decide +kernel
theorem dX8_keyword_24 : decode cX8_keyword 24 = .ok (.sipush 256, 3) := by decide +kernel
theorem dX8_keyword_27 : decode cX8_keyword 27 = .ok (.iload_n 3, 1) := by decide +kernel
theorem dX8_keyword_28 : decode cX8_keyword 28 = .ok (.iadd, 1) := by decide +kernel
theorem dX8_keyword_29 : decode cX8_keyword 29 = .ok (.ireturn, 1) := by decide +kernel
theorem dX8_keyword_30 : decode cX8_keyword 30 = .ok (.iinc 3 1, 3) := by decide +kernel
theorem dX8_keyword_33 : decode cX8_keyword 33 = .ok (.goto (-31), 3) := by decide +kernel
theorem dX8_keyword_36 : decode cX8_keyword 36 = .ok (.iconst 2, 1) := by decide +kernel
theorem dX8_keyword_37 : decode cX8_keyword 37 = .ok (.ireturn, 1) := by decide +kernel
theorem dX8_isWord_0 : decode cX8_isWord 0 = .ok (.iconst 0, 1) := by decide +kernel
theorem dX8_isWord_1 : decode cX8_isWord 1 = .ok (.istore 4, 2) := by decide +kernel
theorem dX8_isWord_3 : decode cX8_isWord 3 = .ok (.iload 4, 2) := by decide +kernel
theorem dX8_isWord_5 : decode cX8_isWord 5 = .ok (.bipush 6, 2) := by decide +kernel
theorem dX8_isWord_7 : decode cX8_isWord 7 = .ok (.if_icmp .ge 50, 3) := by decide +kernel
theorem dX8_isWord_10 : decode cX8_isWord 10 = .ok (.iload 4, 2) := by decide +kernel
theorem dX8_isWord_12 : decode cX8_isWord 12 = .ok (.iload_n 3, 1) := by decide +kernel
theorem dX8_isWord_13 : decode cX8_isWord 13 = .ok (.if_icmp .ge 15, 3) := by decide +kernel
theorem dX8_isWord_16 : decode cX8_isWord 16 = .ok (.aload_n 0, 1) := by decide +kernel
theorem dX8_isWord_17 : decode cX8_isWord 17 = .ok (.getfield 11, 3) := by decide +kernel
theorem dX8_isWord_20 : decode cX8_isWord 20 = .ok (.iload_n 2, 1) := by decide +kernel
theorem dX8_isWord_21 : decode cX8_isWord 21 = .ok (.iload 4, 2) := by decide +kernel
theorem dX8_isWord_23 : decode cX8_isWord 23 = .ok (.iadd, 1) := by decide +kernel
theorem dX8_isWord_24 : decode cX8_isWord 24 = .ok (.iaload, 1) := by decide +kernel
theorem dX8_isWord_25 : decode cX8_isWord 25 = .ok (.goto 5, 3) := by decide +kernel
theorem dX8_isWord_28 : decode cX8_isWord 28 = .ok (.bipush 32, 2) := by decide +kernel
theorem dX8_isWord_30 : decode cX8_isWord 30 = .ok (.istore 5, 2) := by decide +kernel
theorem dX8_isWord_32 : decode cX8_isWord 32 = .ok (.ldc 72, 2) := by decide +kernel
theorem dX8_isWord_34 : decode cX8_isWord 34 = .ok (.iload_n 1, 1) := by decide +kernel
theorem dX8_isWord_35 : decode cX8_isWord 35 = .ok (.bipush 6, 2) := by decide +kernel
theorem dX8_isWord_37 : decode cX8_isWord 37 = .ok (.imul, 1) := by decide +kernel
theorem dX8_isWord_38 : decode cX8_isWord 38 = .ok (.iload 4, 2) := by decide +kernel
theorem dX8_isWord_40 : decode cX8_isWord 40 = .ok (.iadd, 1) := by decide +kernel
theorem dX8_isWord_41 : decode cX8_isWord 41 = .ok (.invokevirtual 74, 3) := by decide +kernel
theorem dX8_isWord_44 : decode cX8_isWord 44 = .ok (.iload 5, 2) := by decide +kernel
theorem dX8_isWord_46 : decode cX8_isWord 46 = .ok (.if_icmp .eq 5, 3) := by decide +kernel
theorem dX8_isWord_49 : decode cX8_isWord 49 = .ok (.iconst 0, 1) := by decide +kernel
theorem dX8_isWord_50 : decode cX8_isWord 50 = .ok (.ireturn, 1) := by decide +kernel
theorem dX8_isWord_51 : decode cX8_isWord 51 = .ok (.iinc 4 1, 3) := by decide +kernel
theorem dX8_isWord_54 : decode cX8_isWord 54 = .ok (.goto (-51), 3) := by decide +kernel
theorem dX8_isWord_57 : decode cX8_isWord 57 = .ok (.iconst 1, 1) := by decide +kernel
theorem dX8_isWord_58 : decode cX8_isWord 58 = .ok (.ireturn, 1) := by decide +kernel
theorem dX9_init_0 : decode cX9_init 0 = .ok (.aload_n 0, 1) := by decide +kernel
theorem dX9_init_1 : decode cX9_init 1 = .ok (.invokespecial 3, 3) := by decide +kernel
theorem dX9_init_4 : decode cX9_init 4 = .ok (.aload_n 0, 1) := by decide +kernel
theorem dX9_init_5 : decode cX9_init 5 = .ok (.iconst 3, 1) := by decide +kernel
theorem dX9_init_6 : decode cX9_init 6 = .ok (.bipush 9, 2) := by decide +kernel
theorem dX9_init_8 : decode cX9_init 8 = .ok (.multianewarray 9 2, 4) := by decide +kernel
theorem dX9_init_12 : decode cX9_init 12 = .ok (.putfield 11, 3) := by decide +kernel
theorem dX9_init_15 : decode cX9_init 15 = .ok (.aload_n 0, 1) := by decide +kernel
theorem dX9_init_16 : decode cX9_init 16 = .ok (.iconst 3, 1) := by decide +kernel
theorem dX9_init_17 : decode cX9_init 17 = .ok (.newarray .int, 2) := by decide +kernel
theorem dX9_init_19 : decode cX9_init 19 = .ok (.putfield 16, 3) := by decide +kernel
theorem dX9_init_22 : decode cX9_init 22 = .ok (.return_, 1) := by decide +kernel
theorem dX9_addClause_0 : decode cX9_addClause 0 = .ok (.iload_n 1, 1) := by decide +kernel
theorem dX9_addClause_1 : decode cX9_addClause 1 = .ok (.bipush (-99), 2) := by decide +kernel
theorem dX9_addClause_3 : decode cX9_addClause 3 = .ok (.bipush 99, 2) := by decide +kernel
theorem dX9_addClause_5 : decode cX9_addClause 5 = .ok (.invokestatic 20, 3) := by decide +kernel
theorem dX9_addClause_8 : decode cX9_addClause 8 = .ok (.ifCond .eq 29, 3) := by decide +kernel
theorem dX9_addClause_11 : decode cX9_addClause 11 = .ok (.iload_n 2, 1) := by decide +kernel
theorem dX9_addClause_12 : decode cX9_addClause 12 = .ok (.bipush (-99), 2) := by decide +kernel
theorem dX9_addClause_14 : decode cX9_addClause 14 = .ok (.bipush 99, 2) := by decide +kernel
theorem dX9_addClause_16 : decode cX9_addClause 16 = .ok (.invokestatic 20, 3) := by decide +kernel
theorem dX9_addClause_19 : decode cX9_addClause 19 = .ok (.ifCond .eq 18, 3) := by decide +kernel
theorem dX9_addClause_22 : decode cX9_addClause 22 = .ok (.iload_n 3, 1) := by decide +kernel
theorem dX9_addClause_23 : decode cX9_addClause 23 = .ok (.bipush (-99), 2) := by decide +kernel
theorem dX9_addClause_25 : decode cX9_addClause 25 = .ok (.bipush 99, 2) := by decide +kernel
theorem dX9_addClause_27 : decode cX9_addClause 27 = .ok (.invokestatic 20, 3) := by decide +kernel
theorem dX9_addClause_30 : decode cX9_addClause 30 = .ok (.ifCond .eq 7, 3) := by decide +kernel
theorem dX9_addClause_33 : decode cX9_addClause 33 = .ok (.iconst 1, 1) := by decide +kernel
theorem dX9_addClause_34 : decode cX9_addClause 34 = .ok (.goto 4, 3) := by decide +kernel
theorem dX9_addClause_37 : decode cX9_addClause 37 = .ok (.iconst 0, 1) := by decide +kernel
theorem dX9_addClause_38 : decode cX9_addClause 38 = .ok (.istore 4, 2) := by decide +kernel
theorem dX9_addClause_40 : decode cX9_addClause 40 = .ok (.iload 4, 2) := by decide +kernel
theorem dX9_addClause_42 : decode cX9_addClause 42 = .ok (.ifCond .eq 12, 3) := by decide +kernel
theorem dX9_addClause_45 : decode cX9_addClause 45 = .ok (.aload_n 0, 1) := by decide +kernel
theorem dX9_addClause_46 : decode cX9_addClause 46 = .ok (.getfield 24, 3) := by decide +kernel
theorem dX9_addClause_49 : decode cX9_addClause 49 = .ok (.bipush 9, 2) := by decide +kernel
theorem dX9_addClause_51 : decode cX9_addClause 51 = .ok (.if_icmp .lt 5, 3) := by decide +kernel
theorem dX9_addClause_54 : decode cX9_addClause 54 = .ok (.iconst (-1), 1) := by decide +kernel
theorem dX9_addClause_55 : decode cX9_addClause 55 = .ok (.ireturn, 1) := by decide +kernel
theorem dX9_addClause_56 : decode cX9_addClause 56 = .ok (.aload_n 0, 1) := by decide +kernel
theorem dX9_addClause_57 : decode cX9_addClause 57 = .ok (.getfield 11, 3) := by decide +kernel
theorem dX9_addClause_60 : decode cX9_addClause 60 = .ok (.iconst 0, 1) := by decide +kernel
theorem dX9_addClause_61 : decode cX9_addClause 61 = .ok (.aaload, 1) := by decide +kernel
theorem dX9_addClause_62 : decode cX9_addClause 62 = .ok (.aload_n 0, 1) := by decide +kernel
theorem dX9_addClause_63 : decode cX9_addClause 63 = .ok (.getfield 24, 3) := by decide +kernel
theorem dX9_addClause_66 : decode cX9_addClause 66 = .ok (.iload_n 1, 1) := by decide +kernel
theorem dX9_addClause_67 : decode cX9_addClause 67 = .ok (.iastore, 1) := by decide +kernel
theorem dX9_addClause_68 : decode cX9_addClause 68 = .ok (.aload_n 0, 1) := by decide +kernel
theorem dX9_addClause_69 : decode cX9_addClause 69 = .ok (.getfield 11, 3) := by decide +kernel
theorem dX9_addClause_72 : decode cX9_addClause 72 = .ok (.iconst 1, 1) := by decide +kernel
theorem dX9_addClause_73 : decode cX9_addClause 73 = .ok (.aaload, 1) := by decide +kernel
theorem dX9_addClause_74 : decode cX9_addClause 74 = .ok (.aload_n 0, 1) := by decide +kernel
theorem dX9_addClause_75 : decode cX9_addClause 75 = .ok (.getfield 24, 3) := by decide +kernel
theorem dX9_addClause_78 : decode cX9_addClause 78 = .ok (.iload_n 2, 1) := by decide +kernel
theorem dX9_addClause_79 : decode cX9_addClause 79 = .ok (.iastore, 1) := by decide +kernel
theorem dX9_addClause_80 : decode cX9_addClause 80 = .ok (.aload_n 0, 1) := by decide +kernel
theorem dX9_addClause_81 : decode cX9_addClause 81 = .ok (.getfield 11, 3) := by decide +kernel
theorem dX9_addClause_84 : decode cX9_addClause 84 = .ok (.iconst 2, 1) := by decide +kernel
theorem dX9_addClause_85 : decode cX9_addClause 85 = .ok (.aaload, 1) := by decide +kernel
theorem dX9_addClause_86 : decode cX9_addClause 86 = .ok (.aload_n 0, 1) := by decide +kernel
theorem dX9_addClause_87 : decode cX9_addClause 87 = .ok (.getfield 24, 3) := by decide +kernel
theorem dX9_addClause_90 : decode cX9_addClause 90 = .ok (.iload_n 3, 1) := by decide +kernel
theorem dX9_addClause_91 : decode cX9_addClause 91 = .ok (.iastore, 1) := by decide +kernel
theorem dX9_addClause_92 : decode cX9_addClause 92 = .ok (.aload_n 0, 1) := by decide +kernel
theorem dX9_addClause_93 : decode cX9_addClause 93 = .ok (.dup, 1) := by decide +kernel
theorem dX9_addClause_94 : decode cX9_addClause 94 = .ok (.getfield 24, 3) := by decide +kernel
theorem dX9_addClause_97 : decode cX9_addClause 97 = .ok (.iconst 1, 1) := by decide +kernel
theorem dX9_addClause_98 : decode cX9_addClause 98 = .ok (.iadd, 1) := by decide +kernel
theorem dX9_addClause_99 : decode cX9_addClause 99 = .ok (.putfield 24, 3) := by decide +kernel
theorem dX9_addClause_102 : decode cX9_addClause 102 = .ok (.aload_n 0, 1) := by decide +kernel
theorem dX9_addClause_103 : decode cX9_addClause 103 = .ok (.getfield 24, 3) := by decide +kernel
theorem dX9_addClause_106 : decode cX9_addClause 106 = .ok (.iconst 1, 1) := by decide +kernel
theorem dX9_addClause_107 : decode cX9_addClause 107 = .ok (.isub, 1) := by decide +kernel
theorem dX9_addClause_108 : decode cX9_addClause 108 = .ok (.ireturn, 1) := by decide +kernel
theorem dX9_insist_0 : decode cX9_insist 0 = .ok (.iload_n 1, 1) := by decide +kernel
theorem dX9_insist_1 : decode cX9_insist 1 = .ok (.iconst 0, 1) := by decide +kernel
theorem dX9_insist_2 : decode cX9_insist 2 = .ok (.iconst 2, 1) := by decide +kernel
theorem dX9_insist_3 : decode cX9_insist 3 = .ok (.invokestatic 20, 3) := by decide +kernel
theorem dX9_insist_6 : decode cX9_insist 6 = .ok (.ifCond .eq 16, 3) := by decide +kernel
theorem dX9_insist_9 : decode cX9_insist 9 = .ok (.iload_n 2, 1) := by decide +kernel
theorem dX9_insist_10 : decode cX9_insist 10 = .ok (.sipush (-999), 3) := by decide +kernel
theorem dX9_insist_13 : decode cX9_insist 13 = .ok (.sipush 999, 3) := by decide +kernel
theorem dX9_insist_16 : decode cX9_insist 16 = .ok (.invokestatic 20, 3) := by decide +kernel
theorem dX9_insist_19 : decode cX9_insist 19 = .ok (.ifCond .ne 5, 3) := by decide +kernel
theorem dX9_insist_22 : decode cX9_insist 22 = .ok (.iconst 0, 1) := by decide +kernel
theorem dX9_insist_23 : decode cX9_insist 23 = .ok (.ireturn, 1) := by decide +kernel
theorem dX9_insist_24 : decode cX9_insist 24 = .ok (.aload_n 0, 1) := by decide +kernel
theorem dX9_insist_25 : decode cX9_insist 25 = .ok (.getfield 16, 3) := by decide +kernel
theorem dX9_insist_28 : decode cX9_insist 28 = .ok (.iload_n 1, 1) := by decide +kernel
theorem dX9_insist_29 : decode cX9_insist 29 = .ok (.iload_n 2, 1) := by decide +kernel
theorem dX9_insist_30 : decode cX9_insist 30 = .ok (.iastore, 1) := by decide +kernel
theorem dX9_insist_31 : decode cX9_insist 31 = .ok (.iconst 1, 1) := by decide +kernel
theorem dX9_insist_32 : decode cX9_insist 32 = .ok (.ireturn, 1) := by decide +kernel
theorem dX9_worthTo_0 : decode cX9_worthTo 0 = .ok (.iconst 0, 1) := by decide +kernel
theorem dX9_worthTo_1 : decode cX9_worthTo 1 = .ok (.istore_n 3, 1) := by decide +kernel
theorem dX9_worthTo_2 : decode cX9_worthTo 2 = .ok (.iconst 0, 1) := by decide +kernel
theorem dX9_worthTo_3 : decode cX9_worthTo 3 = .ok (.istore 4, 2) := by decide +kernel
theorem dX9_worthTo_5 : decode cX9_worthTo 5 = .ok (.iload 4, 2) := by decide +kernel
theorem dX9_worthTo_7 : decode cX9_worthTo 7 = .ok (.aload_n 0, 1) := by decide +kernel
theorem dX9_worthTo_8 : decode cX9_worthTo 8 = .ok (.getfield 24, 3) := by decide +kernel
theorem dX9_worthTo_11 : decode cX9_worthTo 11 = .ok (.if_icmp .ge 30, 3) := by decide +kernel
theorem dX9_worthTo_14 : decode cX9_worthTo 14 = .ok (.iload_n 2, 1) := by decide +kernel
theorem dX9_worthTo_15 : decode cX9_worthTo 15 = .ok (.iload 4, 2) := by decide +kernel
theorem dX9_worthTo_17 : decode cX9_worthTo 17 = .ok (.invokestatic 28, 3) := by decide +kernel
theorem dX9_worthTo_20 : decode cX9_worthTo 20 = .ok (.ifCond .eq 15, 3) := by decide +kernel
theorem dX9_worthTo_23 : decode cX9_worthTo 23 = .ok (.iload_n 3, 1) := by decide +kernel
theorem dX9_worthTo_24 : decode cX9_worthTo 24 = .ok (.aload_n 0, 1) := by decide +kernel
theorem dX9_worthTo_25 : decode cX9_worthTo 25 = .ok (.getfield 11, 3) := by decide +kernel
theorem dX9_worthTo_28 : decode cX9_worthTo 28 = .ok (.iload_n 1, 1) := by decide +kernel
theorem dX9_worthTo_29 : decode cX9_worthTo 29 = .ok (.aaload, 1) := by decide +kernel
theorem dX9_worthTo_30 : decode cX9_worthTo 30 = .ok (.iload 4, 2) := by decide +kernel
theorem dX9_worthTo_32 : decode cX9_worthTo 32 = .ok (.iaload, 1) := by decide +kernel
theorem dX9_worthTo_33 : decode cX9_worthTo 33 = .ok (.iadd, 1) := by decide +kernel
theorem dX9_worthTo_34 : decode cX9_worthTo 34 = .ok (.istore_n 3, 1) := by decide +kernel
theorem dX9_worthTo_35 : decode cX9_worthTo 35 = .ok (.iinc 4 1, 3) := by decide +kernel
theorem dX9_worthTo_38 : decode cX9_worthTo 38 = .ok (.goto (-33), 3) := by decide +kernel
theorem dX9_worthTo_41 : decode cX9_worthTo 41 = .ok (.iload_n 3, 1) := by decide +kernel
theorem dX9_worthTo_42 : decode cX9_worthTo 42 = .ok (.ireturn, 1) := by decide +kernel
theorem dX9_bargain_0 : decode cX9_bargain 0 = .ok (.iconst 3, 1) := by decide +kernel
theorem dX9_bargain_1 : decode cX9_bargain 1 = .ok (.istore_n 1, 1) := by decide +kernel
theorem dX9_bargain_2 : decode cX9_bargain 2 = .ok (.aload_n 0, 1) := by decide +kernel
theorem dX9_bargain_3 : decode cX9_bargain 3 = .ok (.iconst (-1), 1) := by decide +kernel
theorem dX9_bargain_4 : decode cX9_bargain 4 = .ok (.putfield 32, 3) := by decide +kernel
theorem dX9_bargain_7 : decode cX9_bargain 7 = .ok (.aload_n 0, 1) := by decide +kernel
theorem dX9_bargain_8 : decode cX9_bargain 8 = .ok (.iconst 0, 1) := by decide +kernel
theorem dX9_bargain_9 : decode cX9_bargain 9 = .ok (.putfield 35, 3) := by decide +kernel
theorem dX9_bargain_12 : decode cX9_bargain 12 = .ok (.iconst 0, 1) := by decide +kernel
theorem dX9_bargain_13 : decode cX9_bargain 13 = .ok (.istore_n 2, 1) := by decide +kernel
theorem dX9_bargain_14 : decode cX9_bargain 14 = .ok (.iload_n 2, 1) := by decide +kernel
theorem dX9_bargain_15 : decode cX9_bargain 15 = .ok (.iconst 1, 1) := by decide +kernel
theorem dX9_bargain_16 : decode cX9_bargain 16 = .ok (.aload_n 0, 1) := by decide +kernel
theorem dX9_bargain_17 : decode cX9_bargain 17 = .ok (.getfield 24, 3) := by decide +kernel
theorem dX9_bargain_20 : decode cX9_bargain 20 = .ok (.ishl, 1) := by decide +kernel
theorem dX9_bargain_21 : decode cX9_bargain 21 = .ok (.if_icmp .ge 35, 3) := by decide +kernel
theorem dX9_bargain_24 : decode cX9_bargain 24 = .ok (.aload_n 0, 1) := by decide +kernel
theorem dX9_bargain_25 : decode cX9_bargain 25 = .ok (.iload_n 2, 1) := by decide +kernel
theorem dX9_bargain_26 : decode cX9_bargain 26 = .ok (.invokevirtual 38, 3) := by decide +kernel
theorem dX9_bargain_29 : decode cX9_bargain 29 = .ok (.istore_n 3, 1) := by decide +kernel
theorem dX9_bargain_30 : decode cX9_bargain 30 = .ok (.iload_n 3, 1) := by decide +kernel
theorem dX9_bargain_31 : decode cX9_bargain 31 = .ok (.bipush 7, 2) := by decide +kernel
theorem dX9_bargain_33 : decode cX9_bargain 33 = .ok (.if_icmp .ne 8, 3) := by decide +kernel
theorem dX9_bargain_36 : decode cX9_bargain 36 = .ok (.aload_n 0, 1) := by decide +kernel
theorem dX9_bargain_37 : decode cX9_bargain 37 = .ok (.iload_n 2, 1) := by decide +kernel
theorem dX9_bargain_38 : decode cX9_bargain 38 = .ok (.invokevirtual 42, 3) := by decide +kernel
theorem dX9_bargain_41 : decode cX9_bargain 41 = .ok (.iload_n 1, 1) := by decide +kernel
theorem dX9_bargain_42 : decode cX9_bargain 42 = .ok (.iload_n 3, 1) := by decide +kernel
theorem dX9_bargain_43 : decode cX9_bargain 43 = .ok (.invokestatic 46, 3) := by decide +kernel
theorem dX9_bargain_46 : decode cX9_bargain 46 = .ok (.invokestatic 49, 3) := by decide +kernel
theorem dX9_bargain_49 : decode cX9_bargain 49 = .ok (.istore_n 1, 1) := by decide +kernel
theorem dX9_bargain_50 : decode cX9_bargain 50 = .ok (.iinc 2 1, 3) := by decide +kernel
theorem dX9_bargain_53 : decode cX9_bargain 53 = .ok (.goto (-39), 3) := by decide +kernel
theorem dX9_bargain_56 : decode cX9_bargain 56 = .ok (.aload_n 0, 1) := by decide +kernel
theorem dX9_bargain_57 : decode cX9_bargain 57 = .ok (.aload_n 0, 1) := by decide +kernel
theorem dX9_bargain_58 : decode cX9_bargain 58 = .ok (.getfield 32, 3) := by decide +kernel
theorem dX9_bargain_61 : decode cX9_bargain 61 = .ok (.iconst (-1), 1) := by decide +kernel
theorem dX9_bargain_62 : decode cX9_bargain 62 = .ok (.if_icmp .ne 7, 3) := by decide +kernel
theorem dX9_bargain_65 : decode cX9_bargain 65 = .ok (.iload_n 1, 1) := by decide +kernel
theorem dX9_bargain_66 : decode cX9_bargain 66 = .ok (.goto 4, 3) := by decide +kernel
theorem dX9_bargain_69 : decode cX9_bargain 69 = .ok (.iconst (-1), 1) := by decide +kernel
theorem dX9_bargain_70 : decode cX9_bargain 70 = .ok (.putfield 55, 3) := by decide +kernel
theorem dX9_bargain_73 : decode cX9_bargain 73 = .ok (.return_, 1) := by decide +kernel
theorem dX9_signers_0 : decode cX9_signers 0 = .ok (.iconst 0, 1) := by decide +kernel
theorem dX9_signers_1 : decode cX9_signers 1 = .ok (.istore_n 2, 1) := by decide +kernel
theorem dX9_signers_2 : decode cX9_signers 2 = .ok (.iconst 0, 1) := by decide +kernel
theorem dX9_signers_3 : decode cX9_signers 3 = .ok (.istore_n 3, 1) := by decide +kernel
theorem dX9_signers_4 : decode cX9_signers 4 = .ok (.iload_n 3, 1) := by decide +kernel
theorem dX9_signers_5 : decode cX9_signers 5 = .ok (.iconst 3, 1) := by decide +kernel
theorem dX9_signers_6 : decode cX9_signers 6 = .ok (.if_icmp .ge 30, 3) := by decide +kernel
theorem dX9_signers_9 : decode cX9_signers 9 = .ok (.aload_n 0, 1) := by decide +kernel
theorem dX9_signers_10 : decode cX9_signers 10 = .ok (.iload_n 3, 1) := by decide +kernel
theorem dX9_signers_11 : decode cX9_signers 11 = .ok (.iload_n 1, 1) := by decide +kernel
theorem dX9_signers_12 : decode cX9_signers 12 = .ok (.invokevirtual 58, 3) := by decide +kernel
theorem dX9_signers_15 : decode cX9_signers 15 = .ok (.aload_n 0, 1) := by decide +kernel
theorem dX9_signers_16 : decode cX9_signers 16 = .ok (.getfield 16, 3) := by decide +kernel
theorem dX9_signers_19 : decode cX9_signers 19 = .ok (.iload_n 3, 1) := by decide +kernel
theorem dX9_signers_20 : decode cX9_signers 20 = .ok (.iaload, 1) := by decide +kernel
theorem dX9_signers_21 : decode cX9_signers 21 = .ok (.if_icmp .lt 9, 3) := by decide +kernel
theorem dX9_signers_24 : decode cX9_signers 24 = .ok (.iload_n 2, 1) := by decide +kernel
theorem dX9_signers_25 : decode cX9_signers 25 = .ok (.iconst 1, 1) := by decide +kernel
theorem dX9_signers_26 : decode cX9_signers 26 = .ok (.iload_n 3, 1) := by decide +kernel
theorem dX9_signers_27 : decode cX9_signers 27 = .ok (.ishl, 1) := by decide +kernel
theorem dX9_signers_28 : decode cX9_signers 28 = .ok (.ior, 1) := by decide +kernel
theorem dX9_signers_29 : decode cX9_signers 29 = .ok (.istore_n 2, 1) := by decide +kernel
theorem dX9_signers_30 : decode cX9_signers 30 = .ok (.iinc 3 1, 3) := by decide +kernel
theorem dX9_signers_33 : decode cX9_signers 33 = .ok (.goto (-29), 3) := by decide +kernel
theorem dX9_signers_36 : decode cX9_signers 36 = .ok (.iload_n 2, 1) := by decide +kernel
theorem dX9_signers_37 : decode cX9_signers 37 = .ok (.ireturn, 1) := by decide +kernel
theorem dX9_offer_0 : decode cX9_offer 0 = .ok (.aload_n 0, 1) := by decide +kernel
theorem dX9_offer_1 : decode cX9_offer 1 = .ok (.iconst 0, 1) := by decide +kernel
theorem dX9_offer_2 : decode cX9_offer 2 = .ok (.iload_n 1, 1) := by decide +kernel
theorem dX9_offer_3 : decode cX9_offer 3 = .ok (.invokevirtual 58, 3) := by decide +kernel
theorem dX9_offer_6 : decode cX9_offer 6 = .ok (.aload_n 0, 1) := by decide +kernel
theorem dX9_offer_7 : decode cX9_offer 7 = .ok (.iconst 1, 1) := by decide +kernel
theorem dX9_offer_8 : decode cX9_offer 8 = .ok (.iload_n 1, 1) := by decide +kernel
theorem dX9_offer_9 : decode cX9_offer 9 = .ok (.invokevirtual 58, 3) := by decide +kernel
theorem dX9_offer_12 : decode cX9_offer 12 = .ok (.iadd, 1) := by decide +kernel
theorem dX9_offer_13 : decode cX9_offer 13 = .ok (.aload_n 0, 1) := by decide +kernel
theorem dX9_offer_14 : decode cX9_offer 14 = .ok (.iconst 2, 1) := by decide +kernel
theorem dX9_offer_15 : decode cX9_offer 15 = .ok (.iload_n 1, 1) := by decide +kernel
theorem dX9_offer_16 : decode cX9_offer 16 = .ok (.invokevirtual 58, 3) := by decide +kernel
theorem dX9_offer_19 : decode cX9_offer 19 = .ok (.iadd, 1) := by decide +kernel
theorem dX9_offer_20 : decode cX9_offer 20 = .ok (.istore_n 2, 1) := by decide +kernel
theorem dX9_offer_21 : decode cX9_offer 21 = .ok (.aload_n 0, 1) := by decide +kernel
theorem dX9_offer_22 : decode cX9_offer 22 = .ok (.getfield 32, 3) := by decide +kernel
theorem dX9_offer_25 : decode cX9_offer 25 = .ok (.iconst (-1), 1) := by decide +kernel
theorem dX9_offer_26 : decode cX9_offer 26 = .ok (.if_icmp .eq 11, 3) := by decide +kernel
theorem dX9_offer_29 : decode cX9_offer 29 = .ok (.iload_n 2, 1) := by decide +kernel
theorem dX9_offer_30 : decode cX9_offer 30 = .ok (.aload_n 0, 1) := by decide +kernel
theorem dX9_offer_31 : decode cX9_offer 31 = .ok (.getfield 35, 3) := by decide +kernel
theorem dX9_offer_34 : decode cX9_offer 34 = .ok (.if_icmp .le 13, 3) := by decide +kernel
theorem dX9_offer_37 : decode cX9_offer 37 = .ok (.aload_n 0, 1) := by decide +kernel
theorem dX9_offer_38 : decode cX9_offer 38 = .ok (.iload_n 1, 1) := by decide +kernel
theorem dX9_offer_39 : decode cX9_offer 39 = .ok (.putfield 32, 3) := by decide +kernel
theorem dX9_offer_42 : decode cX9_offer 42 = .ok (.aload_n 0, 1) := by decide +kernel
theorem dX9_offer_43 : decode cX9_offer 43 = .ok (.iload_n 2, 1) := by decide +kernel
theorem dX9_offer_44 : decode cX9_offer 44 = .ok (.putfield 35, 3) := by decide +kernel
theorem dX9_offer_47 : decode cX9_offer 47 = .ok (.return_, 1) := by decide +kernel
theorem dX9_outOf_0 : decode cX9_outOf 0 = .ok (.iconst 0, 1) := by decide +kernel
theorem dX9_outOf_1 : decode cX9_outOf 1 = .ok (.istore_n 1, 1) := by decide +kernel
theorem dX9_outOf_2 : decode cX9_outOf 2 = .ok (.iload_n 1, 1) := by decide +kernel
theorem dX9_outOf_3 : decode cX9_outOf 3 = .ok (.iconst 3, 1) := by decide +kernel
theorem dX9_outOf_4 : decode cX9_outOf 4 = .ok (.if_icmp .ge 21, 3) := by decide +kernel
theorem dX9_outOf_7 : decode cX9_outOf 7 = .ok (.iload_n 0, 1) := by decide +kernel
theorem dX9_outOf_8 : decode cX9_outOf 8 = .ok (.iconst 1, 1) := by decide +kernel
theorem dX9_outOf_9 : decode cX9_outOf 9 = .ok (.iload_n 1, 1) := by decide +kernel
theorem dX9_outOf_10 : decode cX9_outOf 10 = .ok (.ishl, 1) := by decide +kernel
theorem dX9_outOf_11 : decode cX9_outOf 11 = .ok (.ior, 1) := by decide +kernel
theorem dX9_outOf_12 : decode cX9_outOf 12 = .ok (.bipush 7, 2) := by decide +kernel
theorem dX9_outOf_14 : decode cX9_outOf 14 = .ok (.if_icmp .ne 5, 3) := by decide +kernel
theorem dX9_outOf_17 : decode cX9_outOf 17 = .ok (.iload_n 1, 1) := by decide +kernel
theorem dX9_outOf_18 : decode cX9_outOf 18 = .ok (.ireturn, 1) := by decide +kernel
theorem dX9_outOf_19 : decode cX9_outOf 19 = .ok (.iinc 1 1, 3) := by decide +kernel
theorem dX9_outOf_22 : decode cX9_outOf 22 = .ok (.goto (-20), 3) := by decide +kernel
theorem dX9_outOf_25 : decode cX9_outOf 25 = .ok (.iconst 3, 1) := by decide +kernel
theorem dX9_outOf_26 : decode cX9_outOf 26 = .ok (.ireturn, 1) := by decide +kernel
theorem dX10_init_0 : decode cX10_init 0 = .ok (.aload_n 0, 1) := by decide +kernel
theorem dX10_init_1 : decode cX10_init 1 = .ok (.invokespecial 3, 3) := by decide +kernel
theorem dX10_init_4 : decode cX10_init 4 = .ok (.aload_n 0, 1) := by decide +kernel
theorem dX10_init_5 : decode cX10_init 5 = .ok (.bipush 16, 2) := by decide +kernel
theorem dX10_init_7 : decode cX10_init 7 = .ok (.newarray .int, 2) := by decide +kernel
theorem dX10_init_9 : decode cX10_init 9 = .ok (.putfield 9, 3) := by decide +kernel
theorem dX10_init_12 : decode cX10_init 12 = .ok (.aload_n 0, 1) := by decide +kernel
theorem dX10_init_13 : decode cX10_init 13 = .ok (.bipush 16, 2) := by decide +kernel
theorem dX10_init_15 : decode cX10_init 15 = .ok (.newarray .int, 2) := by decide +kernel
theorem dX10_init_17 : decode cX10_init 17 = .ok (.putfield 15, 3) := by decide +kernel
theorem dX10_init_20 : decode cX10_init 20 = .ok (.aload_n 0, 1) := by decide +kernel
theorem dX10_init_21 : decode cX10_init 21 = .ok (.bipush 9, 2) := by decide +kernel
theorem dX10_init_23 : decode cX10_init 23 = .ok (.newarray .int, 2) := by decide +kernel
theorem dX10_init_25 : decode cX10_init 25 = .ok (.putfield 18, 3) := by decide +kernel
theorem dX10_init_28 : decode cX10_init 28 = .ok (.aload_n 0, 1) := by decide +kernel
theorem dX10_init_29 : decode cX10_init 29 = .ok (.sipush 512, 3) := by decide +kernel
theorem dX10_init_32 : decode cX10_init 32 = .ok (.newarray .int, 2) := by decide +kernel
theorem dX10_init_34 : decode cX10_init 34 = .ok (.putfield 21, 3) := by decide +kernel
theorem dX10_init_37 : decode cX10_init 37 = .ok (.aload_n 0, 1) := by decide +kernel
theorem dX10_init_38 : decode cX10_init 38 = .ok (.sipush 2048, 3) := by decide +kernel
theorem dX10_init_41 : decode cX10_init 41 = .ok (.newarray .int, 2) := by decide +kernel
theorem dX10_init_43 : decode cX10_init 43 = .ok (.putfield 24, 3) := by decide +kernel
theorem dX10_init_46 : decode cX10_init 46 = .ok (.aload_n 0, 1) := by decide +kernel
theorem dX10_init_47 : decode cX10_init 47 = .ok (.aload_n 1, 1) := by decide +kernel
theorem dX10_init_48 : decode cX10_init 48 = .ok (.putfield 27, 3) := by decide +kernel
theorem dX10_init_51 : decode cX10_init 51 = .ok (.iconst 0, 1) := by decide +kernel
theorem dX10_init_52 : decode cX10_init 52 = .ok (.istore_n 2, 1) := by decide +kernel
theorem dX10_init_53 : decode cX10_init 53 = .ok (.iload_n 2, 1) := by decide +kernel
theorem dX10_init_54 : decode cX10_init 54 = .ok (.bipush 16, 2) := by decide +kernel
theorem dX10_init_56 : decode cX10_init 56 = .ok (.if_icmp .ge 16, 3) := by decide +kernel
theorem dX10_init_59 : decode cX10_init 59 = .ok (.aload_n 0, 1) := by decide +kernel
theorem dX10_init_60 : decode cX10_init 60 = .ok (.getfield 9, 3) := by decide +kernel
theorem dX10_init_63 : decode cX10_init 63 = .ok (.iload_n 2, 1) := by decide +kernel
theorem dX10_init_64 : decode cX10_init 64 = .ok (.iconst 1, 1) := by decide +kernel
theorem dX10_init_65 : decode cX10_init 65 = .ok (.iastore, 1) := by decide +kernel
theorem dX10_init_66 : decode cX10_init 66 = .ok (.iinc 2 1, 3) := by decide +kernel
theorem dX10_init_69 : decode cX10_init 69 = .ok (.goto (-16), 3) := by decide +kernel
theorem dX10_init_72 : decode cX10_init 72 = .ok (.return_, 1) := by decide +kernel
theorem dX10_demand_0 : decode cX10_demand 0 = .ok (.aload_n 0, 1) := by decide +kernel
theorem dX10_demand_1 : decode cX10_demand 1 = .ok (.getfield 27, 3) := by decide +kernel
theorem dX10_demand_4 : decode cX10_demand 4 = .ok (.iload_n 1, 1) := by decide +kernel
theorem dX10_demand_5 : decode cX10_demand 5 = .ok (.invokevirtual 31, 3) := by decide +kernel
theorem dX10_demand_8 : decode cX10_demand 8 = .ok (.ifCond .eq 24, 3) := by decide +kernel
theorem dX10_demand_11 : decode cX10_demand 11 = .ok (.iload_n 2, 1) := by decide +kernel
theorem dX10_demand_12 : decode cX10_demand 12 = .ok (.iconst 1, 1) := by decide +kernel
theorem dX10_demand_13 : decode cX10_demand 13 = .ok (.bipush 9, 2) := by decide +kernel
theorem dX10_demand_15 : decode cX10_demand 15 = .ok (.invokestatic 37, 3) := by decide +kernel
theorem dX10_demand_18 : decode cX10_demand 18 = .ok (.ifCond .eq 14, 3) := by decide +kernel
theorem dX10_demand_21 : decode cX10_demand 21 = .ok (.iload_n 3, 1) := by decide +kernel
theorem dX10_demand_22 : decode cX10_demand 22 = .ok (.iconst 0, 1) := by decide +kernel
theorem dX10_demand_23 : decode cX10_demand 23 = .ok (.sipush 999, 3) := by decide +kernel
theorem dX10_demand_26 : decode cX10_demand 26 = .ok (.invokestatic 37, 3) := by decide +kernel
theorem dX10_demand_29 : decode cX10_demand 29 = .ok (.ifCond .ne 5, 3) := by decide +kernel
theorem dX10_demand_32 : decode cX10_demand 32 = .ok (.iconst 0, 1) := by decide +kernel
theorem dX10_demand_33 : decode cX10_demand 33 = .ok (.ireturn, 1) := by decide +kernel
theorem dX10_demand_34 : decode cX10_demand 34 = .ok (.aload_n 0, 1) := by decide +kernel
theorem dX10_demand_35 : decode cX10_demand 35 = .ok (.getfield 9, 3) := by decide +kernel
theorem dX10_demand_38 : decode cX10_demand 38 = .ok (.iload_n 1, 1) := by decide +kernel
theorem dX10_demand_39 : decode cX10_demand 39 = .ok (.iload_n 2, 1) := by decide +kernel
theorem dX10_demand_40 : decode cX10_demand 40 = .ok (.iastore, 1) := by decide +kernel
theorem dX10_demand_41 : decode cX10_demand 41 = .ok (.aload_n 0, 1) := by decide +kernel
theorem dX10_demand_42 : decode cX10_demand 42 = .ok (.getfield 15, 3) := by decide +kernel
theorem dX10_demand_45 : decode cX10_demand 45 = .ok (.iload_n 1, 1) := by decide +kernel
theorem dX10_demand_46 : decode cX10_demand 46 = .ok (.iload_n 3, 1) := by decide +kernel
theorem dX10_demand_47 : decode cX10_demand 47 = .ok (.iastore, 1) := by decide +kernel
theorem dX10_demand_48 : decode cX10_demand 48 = .ok (.iconst 1, 1) := by decide +kernel
theorem dX10_demand_49 : decode cX10_demand 49 = .ok (.ireturn, 1) := by decide +kernel
theorem dX10_order_0 : decode cX10_order 0 = .ok (.iload_n 1, 1) := by decide +kernel
theorem dX10_order_1 : decode cX10_order 1 = .ok (.iconst 1, 1) := by decide +kernel
theorem dX10_order_2 : decode cX10_order 2 = .ok (.iconst 1, 1) := by decide +kernel
theorem dX10_order_3 : decode cX10_order 3 = .ok (.aload_n 0, 1) := by decide +kernel
theorem dX10_order_4 : decode cX10_order 4 = .ok (.getfield 27, 3) := by decide +kernel
theorem dX10_order_7 : decode cX10_order 7 = .ok (.getfield 41, 3) := by decide +kernel
theorem dX10_order_10 : decode cX10_order 10 = .ok (.ishl, 1) := by decide +kernel
theorem dX10_order_11 : decode cX10_order 11 = .ok (.iconst 1, 1) := by decide +kernel
theorem dX10_order_12 : decode cX10_order 12 = .ok (.isub, 1) := by decide +kernel
theorem dX10_order_13 : decode cX10_order 13 = .ok (.invokestatic 37, 3) := by decide +kernel
theorem dX10_order_16 : decode cX10_order 16 = .ok (.ifCond .eq 16, 3) := by decide +kernel
theorem dX10_order_19 : decode cX10_order 19 = .ok (.iload_n 1, 1) := by decide +kernel
theorem dX10_order_20 : decode cX10_order 20 = .ok (.invokestatic 45, 3) := by decide +kernel
theorem dX10_order_23 : decode cX10_order 23 = .ok (.bipush 9, 2) := by decide +kernel
theorem dX10_order_25 : decode cX10_order 25 = .ok (.if_icmp .gt 7, 3) := by decide +kernel
theorem dX10_order_28 : decode cX10_order 28 = .ok (.iconst 1, 1) := by decide +kernel
theorem dX10_order_29 : decode cX10_order 29 = .ok (.goto 4, 3) := by decide +kernel
theorem dX10_order_32 : decode cX10_order 32 = .ok (.iconst 0, 1) := by decide +kernel
theorem dX10_order_33 : decode cX10_order 33 = .ok (.istore_n 3, 1) := by decide +kernel
theorem dX10_order_34 : decode cX10_order 34 = .ok (.iload_n 3, 1) := by decide +kernel
theorem dX10_order_35 : decode cX10_order 35 = .ok (.ifCond .eq 15, 3) := by decide +kernel
theorem dX10_order_38 : decode cX10_order 38 = .ok (.iload_n 2, 1) := by decide +kernel
theorem dX10_order_39 : decode cX10_order 39 = .ok (.iconst 0, 1) := by decide +kernel
theorem dX10_order_40 : decode cX10_order 40 = .ok (.iload_n 1, 1) := by decide +kernel
theorem dX10_order_41 : decode cX10_order 41 = .ok (.invokestatic 45, 3) := by decide +kernel
theorem dX10_order_44 : decode cX10_order 44 = .ok (.invokestatic 37, 3) := by decide +kernel
theorem dX10_order_47 : decode cX10_order 47 = .ok (.ifCond .ne 5, 3) := by decide +kernel
theorem dX10_order_50 : decode cX10_order 50 = .ok (.iconst (-1), 1) := by decide +kernel
theorem dX10_order_51 : decode cX10_order 51 = .ok (.ireturn, 1) := by decide +kernel
theorem dX10_order_52 : decode cX10_order 52 = .ok (.aload_n 0, 1) := by decide +kernel
theorem dX10_order_53 : decode cX10_order 53 = .ok (.iload_n 1, 1) := by decide +kernel
theorem dX10_order_54 : decode cX10_order 54 = .ok (.invokevirtual 51, 3) := by decide +kernel
theorem dX10_order_57 : decode cX10_order 57 = .ok (.aload_n 0, 1) := by decide +kernel
theorem dX10_order_58 : decode cX10_order 58 = .ok (.invokevirtual 55, 3) := by decide +kernel
theorem dX10_order_61 : decode cX10_order 61 = .ok (.iconst 1, 1) := by decide +kernel
theorem dX10_order_62 : decode cX10_order 62 = .ok (.aload_n 0, 1) := by decide +kernel
theorem dX10_order_63 : decode cX10_order 63 = .ok (.getfield 58, 3) := by decide +kernel
theorem dX10_order_66 : decode cX10_order 66 = .ok (.ishl, 1) := by decide +kernel
theorem dX10_order_67 : decode cX10_order 67 = .ok (.iconst 1, 1) := by decide +kernel
theorem dX10_order_68 : decode cX10_order 68 = .ok (.isub, 1) := by decide +kernel
theorem dX10_order_69 : decode cX10_order 69 = .ok (.istore 4, 2) := by decide +kernel
theorem dX10_order_71 : decode cX10_order 71 = .ok (.iconst 0, 1) := by decide +kernel
theorem dX10_order_72 : decode cX10_order 72 = .ok (.istore 5, 2) := by decide +kernel
theorem dX10_order_74 : decode cX10_order 74 = .ok (.iload_n 2, 1) := by decide +kernel
theorem dX10_order_75 : decode cX10_order 75 = .ok (.ifCond .ne 16, 3) := by decide +kernel
theorem dX10_order_78 : decode cX10_order 78 = .ok (.aload_n 0, 1) := by decide +kernel
theorem dX10_order_79 : decode cX10_order 79 = .ok (.getfield 24, 3) := by decide +kernel
theorem dX10_order_82 : decode cX10_order 82 = .ok (.iload 4, 2) := by decide +kernel
theorem dX10_order_84 : decode cX10_order 84 = .ok (.iconst 4, 1) := by decide +kernel
theorem dX10_order_85 : decode cX10_order 85 = .ok (.imul, 1) := by decide +kernel
theorem dX10_order_86 : decode cX10_order 86 = .ok (.iload 5, 2) := by decide +kernel
theorem dX10_order_88 : decode cX10_order 88 = .ok (.iadd, 1) := by decide +kernel
theorem dX10_order_89 : decode cX10_order 89 = .ok (.iaload, 1) := by decide +kernel
theorem dX10_order_90 : decode cX10_order 90 = .ok (.ireturn, 1) := by decide +kernel
theorem dX10_order_91 : decode cX10_order 91 = .ok (.iconst (-1), 1) := by decide +kernel
theorem dX10_order_92 : decode cX10_order 92 = .ok (.istore 6, 2) := by decide +kernel
theorem dX10_order_94 : decode cX10_order 94 = .ok (.iconst 0, 1) := by decide +kernel
theorem dX10_order_95 : decode cX10_order 95 = .ok (.istore 7, 2) := by decide +kernel
theorem dX10_order_97 : decode cX10_order 97 = .ok (.iload 7, 2) := by decide +kernel
theorem dX10_order_99 : decode cX10_order 99 = .ok (.iload_n 2, 1) := by decide +kernel
theorem dX10_order_100 : decode cX10_order 100 = .ok (.if_icmp .ge 51, 3) := by decide +kernel
theorem dX10_order_103 : decode cX10_order 103 = .ok (.aload_n 0, 1) := by decide +kernel
theorem dX10_order_104 : decode cX10_order 104 = .ok (.iload 4, 2) := by decide +kernel
theorem dX10_order_106 : decode cX10_order 106 = .ok (.iload 5, 2) := by decide +kernel
theorem dX10_order_108 : decode cX10_order 108 = .ok (.invokevirtual 61, 3) := by decide +kernel
theorem dX10_order_111 : decode cX10_order 111 = .ok (.istore 8, 2) := by decide +kernel
theorem dX10_order_113 : decode cX10_order 113 = .ok (.aload_n 0, 1) := by decide +kernel
theorem dX10_order_114 : decode cX10_order 114 = .ok (.getfield 18, 3) := by decide +kernel
theorem dX10_order_117 : decode cX10_order 117 = .ok (.iload 8, 2) := by decide +kernel
theorem dX10_order_119 : decode cX10_order 119 = .ok (.iaload, 1) := by decide +kernel
theorem dX10_order_120 : decode cX10_order 120 = .ok (.istore 6, 2) := by decide +kernel
theorem dX10_order_122 : decode cX10_order 122 = .ok (.aload_n 0, 1) := by decide +kernel
theorem dX10_order_123 : decode cX10_order 123 = .ok (.getfield 27, 3) := by decide +kernel
theorem dX10_order_126 : decode cX10_order 126 = .ok (.getfield 65, 3) := by decide +kernel
theorem dX10_order_129 : decode cX10_order 129 = .ok (.iload 6, 2) := by decide +kernel
theorem dX10_order_131 : decode cX10_order 131 = .ok (.iaload, 1) := by decide +kernel
theorem dX10_order_132 : decode cX10_order 132 = .ok (.istore 5, 2) := by decide +kernel
theorem dX10_order_134 : decode cX10_order 134 = .ok (.iload 4, 2) := by decide +kernel
theorem dX10_order_136 : decode cX10_order 136 = .ok (.iconst 1, 1) := by decide +kernel
theorem dX10_order_137 : decode cX10_order 137 = .ok (.iload 8, 2) := by decide +kernel
theorem dX10_order_139 : decode cX10_order 139 = .ok (.ishl, 1) := by decide +kernel
theorem dX10_order_140 : decode cX10_order 140 = .ok (.iconst (-1), 1) := by decide +kernel
theorem dX10_order_141 : decode cX10_order 141 = .ok (.ixor, 1) := by decide +kernel
theorem dX10_order_142 : decode cX10_order 142 = .ok (.iand, 1) := by decide +kernel
theorem dX10_order_143 : decode cX10_order 143 = .ok (.istore 4, 2) := by decide +kernel
theorem dX10_order_145 : decode cX10_order 145 = .ok (.iinc 7 1, 3) := by decide +kernel
theorem dX10_order_148 : decode cX10_order 148 = .ok (.goto (-51), 3) := by decide +kernel
theorem dX10_order_151 : decode cX10_order 151 = .ok (.iload 6, 2) := by decide +kernel
theorem dX10_order_153 : decode cX10_order 153 = .ok (.ireturn, 1) := by decide +kernel
theorem dX10_enlist_0 : decode cX10_enlist 0 = .ok (.aload_n 0, 1) := by decide +kernel
theorem dX10_enlist_1 : decode cX10_enlist 1 = .ok (.iconst 0, 1) := by decide +kernel
theorem dX10_enlist_2 : decode cX10_enlist 2 = .ok (.putfield 58, 3) := by decide +kernel
theorem dX10_enlist_5 : decode cX10_enlist 5 = .ok (.iconst 0, 1) := by decide +kernel
theorem dX10_enlist_6 : decode cX10_enlist 6 = .ok (.istore_n 2, 1) := by decide +kernel
theorem dX10_enlist_7 : decode cX10_enlist 7 = .ok (.iload_n 2, 1) := by decide +kernel
theorem dX10_enlist_8 : decode cX10_enlist 8 = .ok (.aload_n 0, 1) := by decide +kernel
theorem dX10_enlist_9 : decode cX10_enlist 9 = .ok (.getfield 27, 3) := by decide +kernel
theorem dX10_enlist_12 : decode cX10_enlist 12 = .ok (.getfield 41, 3) := by decide +kernel
theorem dX10_enlist_15 : decode cX10_enlist 15 = .ok (.if_icmp .ge 46, 3) := by decide +kernel
theorem dX10_enlist_18 : decode cX10_enlist 18 = .ok (.iload_n 1, 1) := by decide +kernel
theorem dX10_enlist_19 : decode cX10_enlist 19 = .ok (.iload_n 2, 1) := by decide +kernel
theorem dX10_enlist_20 : decode cX10_enlist 20 = .ok (.invokestatic 68, 3) := by decide +kernel
theorem dX10_enlist_23 : decode cX10_enlist 23 = .ok (.ifCond .eq 32, 3) := by decide +kernel
theorem dX10_enlist_26 : decode cX10_enlist 26 = .ok (.aload_n 0, 1) := by decide +kernel
theorem dX10_enlist_27 : decode cX10_enlist 27 = .ok (.getfield 58, 3) := by decide +kernel
theorem dX10_enlist_30 : decode cX10_enlist 30 = .ok (.bipush 9, 2) := by decide +kernel
theorem dX10_enlist_32 : decode cX10_enlist 32 = .ok (.if_icmp .ge 23, 3) := by decide +kernel
theorem dX10_enlist_35 : decode cX10_enlist 35 = .ok (.aload_n 0, 1) := by decide +kernel
theorem dX10_enlist_36 : decode cX10_enlist 36 = .ok (.getfield 18, 3) := by decide +kernel
theorem dX10_enlist_39 : decode cX10_enlist 39 = .ok (.aload_n 0, 1) := by decide +kernel
theorem dX10_enlist_40 : decode cX10_enlist 40 = .ok (.getfield 58, 3) := by decide +kernel
theorem dX10_enlist_43 : decode cX10_enlist 43 = .ok (.iload_n 2, 1) := by decide +kernel
theorem dX10_enlist_44 : decode cX10_enlist 44 = .ok (.iastore, 1) := by decide +kernel
theorem dX10_enlist_45 : decode cX10_enlist 45 = .ok (.aload_n 0, 1) := by decide +kernel
theorem dX10_enlist_46 : decode cX10_enlist 46 = .ok (.dup, 1) := by decide +kernel
theorem dX10_enlist_47 : decode cX10_enlist 47 = .ok (.getfield 58, 3) := by decide +kernel
theorem dX10_enlist_50 : decode cX10_enlist 50 = .ok (.iconst 1, 1) := by decide +kernel
theorem dX10_enlist_51 : decode cX10_enlist 51 = .ok (.iadd, 1) := by decide +kernel
theorem dX10_enlist_52 : decode cX10_enlist 52 = .ok (.putfield 58, 3) := by decide +kernel
theorem dX10_enlist_55 : decode cX10_enlist 55 = .ok (.iinc 2 1, 3) := by decide +kernel
theorem dX10_enlist_58 : decode cX10_enlist 58 = .ok (.goto (-51), 3) := by decide +kernel
theorem dX10_enlist_61 : decode cX10_enlist 61 = .ok (.return_, 1) := by decide +kernel
theorem dX10_fill_0 : decode cX10_fill 0 = .ok (.iconst 1, 1) := by decide +kernel
theorem dX10_fill_1 : decode cX10_fill 1 = .ok (.istore_n 1, 1) := by decide +kernel
theorem dX10_fill_2 : decode cX10_fill 2 = .ok (.iload_n 1, 1) := by decide +kernel
theorem dX10_fill_3 : decode cX10_fill 3 = .ok (.iconst 1, 1) := by decide +kernel
theorem dX10_fill_4 : decode cX10_fill 4 = .ok (.aload_n 0, 1) := by decide +kernel
theorem dX10_fill_5 : decode cX10_fill 5 = .ok (.getfield 58, 3) := by decide +kernel
theorem dX10_fill_8 : decode cX10_fill 8 = .ok (.ishl, 1) := by decide +kernel
theorem dX10_fill_9 : decode cX10_fill 9 = .ok (.if_icmp .ge 80, 3) := by decide +kernel
theorem dX10_fill_12 : decode cX10_fill 12 = .ok (.aload_n 0, 1) := by decide +kernel
theorem dX10_fill_13 : decode cX10_fill 13 = .ok (.iload_n 1, 1) := by decide +kernel
theorem dX10_fill_14 : decode cX10_fill 14 = .ok (.invokevirtual 72, 3) := by decide +kernel
theorem dX10_fill_17 : decode cX10_fill 17 = .ok (.istore_n 2, 1) := by decide +kernel
theorem dX10_fill_18 : decode cX10_fill 18 = .ok (.aload_n 0, 1) := by decide +kernel
theorem dX10_fill_19 : decode cX10_fill 19 = .ok (.getfield 21, 3) := by decide +kernel
theorem dX10_fill_22 : decode cX10_fill 22 = .ok (.iload_n 1, 1) := by decide +kernel
theorem dX10_fill_23 : decode cX10_fill 23 = .ok (.aload_n 0, 1) := by decide +kernel
theorem dX10_fill_24 : decode cX10_fill 24 = .ok (.getfield 21, 3) := by decide +kernel
theorem dX10_fill_27 : decode cX10_fill 27 = .ok (.iload_n 1, 1) := by decide +kernel
theorem dX10_fill_28 : decode cX10_fill 28 = .ok (.iconst 1, 1) := by decide +kernel
theorem dX10_fill_29 : decode cX10_fill 29 = .ok (.iload_n 2, 1) := by decide +kernel
theorem dX10_fill_30 : decode cX10_fill 30 = .ok (.ishl, 1) := by decide +kernel
theorem dX10_fill_31 : decode cX10_fill 31 = .ok (.iconst (-1), 1) := by decide +kernel
theorem dX10_fill_32 : decode cX10_fill 32 = .ok (.ixor, 1) := by decide +kernel
theorem dX10_fill_33 : decode cX10_fill 33 = .ok (.iand, 1) := by decide +kernel
theorem dX10_fill_34 : decode cX10_fill 34 = .ok (.iaload, 1) := by decide +kernel
theorem dX10_fill_35 : decode cX10_fill 35 = .ok (.aload_n 0, 1) := by decide +kernel
theorem dX10_fill_36 : decode cX10_fill 36 = .ok (.getfield 15, 3) := by decide +kernel
theorem dX10_fill_39 : decode cX10_fill 39 = .ok (.aload_n 0, 1) := by decide +kernel
theorem dX10_fill_40 : decode cX10_fill 40 = .ok (.getfield 18, 3) := by decide +kernel
theorem dX10_fill_43 : decode cX10_fill 43 = .ok (.iload_n 2, 1) := by decide +kernel
theorem dX10_fill_44 : decode cX10_fill 44 = .ok (.iaload, 1) := by decide +kernel
theorem dX10_fill_45 : decode cX10_fill 45 = .ok (.iaload, 1) := by decide +kernel
theorem dX10_fill_46 : decode cX10_fill 46 = .ok (.iadd, 1) := by decide +kernel
theorem dX10_fill_47 : decode cX10_fill 47 = .ok (.iastore, 1) := by decide +kernel
theorem dX10_fill_48 : decode cX10_fill 48 = .ok (.iconst 0, 1) := by decide +kernel
theorem dX10_fill_49 : decode cX10_fill 49 = .ok (.istore_n 3, 1) := by decide +kernel
theorem dX10_fill_50 : decode cX10_fill 50 = .ok (.iload_n 3, 1) := by decide +kernel
theorem dX10_fill_51 : decode cX10_fill 51 = .ok (.iconst 4, 1) := by decide +kernel
theorem dX10_fill_52 : decode cX10_fill 52 = .ok (.if_icmp .ge 31, 3) := by decide +kernel
theorem dX10_fill_55 : decode cX10_fill 55 = .ok (.aload_n 0, 1) := by decide +kernel
theorem dX10_fill_56 : decode cX10_fill 56 = .ok (.getfield 24, 3) := by decide +kernel
theorem dX10_fill_59 : decode cX10_fill 59 = .ok (.iload_n 1, 1) := by decide +kernel
theorem dX10_fill_60 : decode cX10_fill 60 = .ok (.iconst 4, 1) := by decide +kernel
theorem dX10_fill_61 : decode cX10_fill 61 = .ok (.imul, 1) := by decide +kernel
theorem dX10_fill_62 : decode cX10_fill 62 = .ok (.iload_n 3, 1) := by decide +kernel
theorem dX10_fill_63 : decode cX10_fill 63 = .ok (.iadd, 1) := by decide +kernel
theorem dX10_fill_64 : decode cX10_fill 64 = .ok (.aload_n 0, 1) := by decide +kernel
theorem dX10_fill_65 : decode cX10_fill 65 = .ok (.iload_n 1, 1) := by decide +kernel
theorem dX10_fill_66 : decode cX10_fill 66 = .ok (.iload_n 3, 1) := by decide +kernel
theorem dX10_fill_67 : decode cX10_fill 67 = .ok (.aload_n 0, 1) := by decide +kernel
theorem dX10_fill_68 : decode cX10_fill 68 = .ok (.iload_n 1, 1) := by decide +kernel
theorem dX10_fill_69 : decode cX10_fill 69 = .ok (.iload_n 3, 1) := by decide +kernel
theorem dX10_fill_70 : decode cX10_fill 70 = .ok (.invokevirtual 61, 3) := by decide +kernel
theorem dX10_fill_73 : decode cX10_fill 73 = .ok (.invokevirtual 75, 3) := by decide +kernel
theorem dX10_fill_76 : decode cX10_fill 76 = .ok (.iastore, 1) := by decide +kernel
theorem dX10_fill_77 : decode cX10_fill 77 = .ok (.iinc 3 1, 3) := by decide +kernel
theorem dX10_fill_80 : decode cX10_fill 80 = .ok (.goto (-30), 3) := by decide +kernel
theorem dX10_fill_83 : decode cX10_fill 83 = .ok (.iinc 1 1, 3) := by decide +kernel
theorem dX10_fill_86 : decode cX10_fill 86 = .ok (.goto (-84), 3) := by decide +kernel
theorem dX10_fill_89 : decode cX10_fill 89 = .ok (.return_, 1) := by decide +kernel
theorem dX10_lastOf_0 : decode cX10_lastOf 0 = .ok (.iconst 0, 1) := by decide +kernel
theorem dX10_lastOf_1 : decode cX10_lastOf 1 = .ok (.istore_n 2, 1) := by decide +kernel
theorem dX10_lastOf_2 : decode cX10_lastOf 2 = .ok (.iconst 0, 1) := by decide +kernel
theorem dX10_lastOf_3 : decode cX10_lastOf 3 = .ok (.istore_n 3, 1) := by decide +kernel
theorem dX10_lastOf_4 : decode cX10_lastOf 4 = .ok (.iload_n 3, 1) := by decide +kernel
theorem dX10_lastOf_5 : decode cX10_lastOf 5 = .ok (.aload_n 0, 1) := by decide +kernel
theorem dX10_lastOf_6 : decode cX10_lastOf 6 = .ok (.getfield 58, 3) := by decide +kernel
theorem dX10_lastOf_9 : decode cX10_lastOf 9 = .ok (.if_icmp .ge 19, 3) := by decide +kernel
theorem dX10_lastOf_12 : decode cX10_lastOf 12 = .ok (.iload_n 1, 1) := by decide +kernel
theorem dX10_lastOf_13 : decode cX10_lastOf 13 = .ok (.iload_n 3, 1) := by decide +kernel
theorem dX10_lastOf_14 : decode cX10_lastOf 14 = .ok (.invokestatic 68, 3) := by decide +kernel
theorem dX10_lastOf_17 : decode cX10_lastOf 17 = .ok (.ifCond .eq 5, 3) := by decide +kernel
theorem dX10_lastOf_20 : decode cX10_lastOf 20 = .ok (.iload_n 3, 1) := by decide +kernel
theorem dX10_lastOf_21 : decode cX10_lastOf 21 = .ok (.istore_n 2, 1) := by decide +kernel
theorem dX10_lastOf_22 : decode cX10_lastOf 22 = .ok (.iinc 3 1, 3) := by decide +kernel
theorem dX10_lastOf_25 : decode cX10_lastOf 25 = .ok (.goto (-21), 3) := by decide +kernel
theorem dX10_lastOf_28 : decode cX10_lastOf 28 = .ok (.iload_n 2, 1) := by decide +kernel
theorem dX10_lastOf_29 : decode cX10_lastOf 29 = .ok (.ireturn, 1) := by decide +kernel
theorem dX10_after_0 : decode cX10_after 0 = .ok (.aload_n 0, 1) := by decide +kernel
theorem dX10_after_1 : decode cX10_after 1 = .ok (.getfield 18, 3) := by decide +kernel
theorem dX10_after_4 : decode cX10_after 4 = .ok (.iload_n 3, 1) := by decide +kernel
theorem dX10_after_5 : decode cX10_after 5 = .ok (.iaload, 1) := by decide +kernel
theorem dX10_after_6 : decode cX10_after 6 = .ok (.istore 4, 2) := by decide +kernel
theorem dX10_after_8 : decode cX10_after 8 = .ok (.aload_n 0, 1) := by decide +kernel
theorem dX10_after_9 : decode cX10_after 9 = .ok (.getfield 27, 3) := by decide +kernel
theorem dX10_after_12 : decode cX10_after 12 = .ok (.getfield 65, 3) := by decide +kernel
theorem dX10_after_15 : decode cX10_after 15 = .ok (.iload 4, 2) := by decide +kernel
theorem dX10_after_17 : decode cX10_after 17 = .ok (.iaload, 1) := by decide +kernel
theorem dX10_after_18 : decode cX10_after 18 = .ok (.istore 5, 2) := by decide +kernel
theorem dX10_after_20 : decode cX10_after 20 = .ok (.iload_n 2, 1) := by decide +kernel
theorem dX10_after_21 : decode cX10_after 21 = .ok (.iload 5, 2) := by decide +kernel
theorem dX10_after_23 : decode cX10_after 23 = .ok (.isub, 1) := by decide +kernel
theorem dX10_after_24 : decode cX10_after 24 = .ok (.invokestatic 79, 3) := by decide +kernel
theorem dX10_after_27 : decode cX10_after 27 = .ok (.aload_n 0, 1) := by decide +kernel
theorem dX10_after_28 : decode cX10_after 28 = .ok (.getfield 9, 3) := by decide +kernel
theorem dX10_after_31 : decode cX10_after 31 = .ok (.iload 4, 2) := by decide +kernel
theorem dX10_after_33 : decode cX10_after 33 = .ok (.iaload, 1) := by decide +kernel
theorem dX10_after_34 : decode cX10_after 34 = .ok (.iadd, 1) := by decide +kernel
theorem dX10_after_35 : decode cX10_after 35 = .ok (.istore 6, 2) := by decide +kernel
theorem dX10_after_37 : decode cX10_after 37 = .ok (.iload 6, 2) := by decide +kernel
theorem dX10_after_39 : decode cX10_after 39 = .ok (.aload_n 0, 1) := by decide +kernel
theorem dX10_after_40 : decode cX10_after 40 = .ok (.getfield 21, 3) := by decide +kernel
theorem dX10_after_43 : decode cX10_after 43 = .ok (.iload_n 1, 1) := by decide +kernel
theorem dX10_after_44 : decode cX10_after 44 = .ok (.iaload, 1) := by decide +kernel
theorem dX10_after_45 : decode cX10_after 45 = .ok (.imul, 1) := by decide +kernel
theorem dX10_after_46 : decode cX10_after 46 = .ok (.aload_n 0, 1) := by decide +kernel
theorem dX10_after_47 : decode cX10_after 47 = .ok (.getfield 24, 3) := by decide +kernel
theorem dX10_after_50 : decode cX10_after 50 = .ok (.iload_n 1, 1) := by decide +kernel
theorem dX10_after_51 : decode cX10_after 51 = .ok (.iconst 1, 1) := by decide +kernel
theorem dX10_after_52 : decode cX10_after 52 = .ok (.iload_n 3, 1) := by decide +kernel
theorem dX10_after_53 : decode cX10_after 53 = .ok (.ishl, 1) := by decide +kernel
theorem dX10_after_54 : decode cX10_after 54 = .ok (.iconst (-1), 1) := by decide +kernel
theorem dX10_after_55 : decode cX10_after 55 = .ok (.ixor, 1) := by decide +kernel
theorem dX10_after_56 : decode cX10_after 56 = .ok (.iand, 1) := by decide +kernel
theorem dX10_after_57 : decode cX10_after 57 = .ok (.iconst 4, 1) := by decide +kernel
theorem dX10_after_58 : decode cX10_after 58 = .ok (.imul, 1) := by decide +kernel
theorem dX10_after_59 : decode cX10_after 59 = .ok (.iload 5, 2) := by decide +kernel
theorem dX10_after_61 : decode cX10_after 61 = .ok (.iadd, 1) := by decide +kernel
theorem dX10_after_62 : decode cX10_after 62 = .ok (.iaload, 1) := by decide +kernel
theorem dX10_after_63 : decode cX10_after 63 = .ok (.iadd, 1) := by decide +kernel
theorem dX10_after_64 : decode cX10_after 64 = .ok (.ireturn, 1) := by decide +kernel
theorem dX10_next_0 : decode cX10_next 0 = .ok (.iconst (-1), 1) := by decide +kernel
theorem dX10_next_1 : decode cX10_next 1 = .ok (.istore_n 3, 1) := by decide +kernel
theorem dX10_next_2 : decode cX10_next 2 = .ok (.iconst 0, 1) := by decide +kernel
theorem dX10_next_3 : decode cX10_next 3 = .ok (.istore 4, 2) := by decide +kernel
theorem dX10_next_5 : decode cX10_next 5 = .ok (.iconst 0, 1) := by decide +kernel
theorem dX10_next_6 : decode cX10_next 6 = .ok (.istore 5, 2) := by decide +kernel
theorem dX10_next_8 : decode cX10_next 8 = .ok (.iload 5, 2) := by decide +kernel
theorem dX10_next_10 : decode cX10_next 10 = .ok (.aload_n 0, 1) := by decide +kernel
theorem dX10_next_11 : decode cX10_next 11 = .ok (.getfield 58, 3) := by decide +kernel
theorem dX10_next_14 : decode cX10_next 14 = .ok (.if_icmp .ge 60, 3) := by decide +kernel
theorem dX10_next_17 : decode cX10_next 17 = .ok (.iload_n 1, 1) := by decide +kernel
theorem dX10_next_18 : decode cX10_next 18 = .ok (.iload 5, 2) := by decide +kernel
theorem dX10_next_20 : decode cX10_next 20 = .ok (.invokestatic 68, 3) := by decide +kernel
theorem dX10_next_23 : decode cX10_next 23 = .ok (.ifCond .eq 14, 3) := by decide +kernel
theorem dX10_next_26 : decode cX10_next 26 = .ok (.aload_n 0, 1) := by decide +kernel
theorem dX10_next_27 : decode cX10_next 27 = .ok (.iload_n 1, 1) := by decide +kernel
theorem dX10_next_28 : decode cX10_next 28 = .ok (.iload_n 2, 1) := by decide +kernel
theorem dX10_next_29 : decode cX10_next 29 = .ok (.iload 5, 2) := by decide +kernel
theorem dX10_next_31 : decode cX10_next 31 = .ok (.invokevirtual 75, 3) := by decide +kernel
theorem dX10_next_34 : decode cX10_next 34 = .ok (.goto 4, 3) := by decide +kernel
theorem dX10_next_37 : decode cX10_next 37 = .ok (.iconst 0, 1) := by decide +kernel
theorem dX10_next_38 : decode cX10_next 38 = .ok (.istore 6, 2) := by decide +kernel
theorem dX10_next_40 : decode cX10_next 40 = .ok (.iload_n 1, 1) := by decide +kernel
theorem dX10_next_41 : decode cX10_next 41 = .ok (.iload 5, 2) := by decide +kernel
theorem dX10_next_43 : decode cX10_next 43 = .ok (.invokestatic 68, 3) := by decide +kernel
theorem dX10_next_46 : decode cX10_next 46 = .ok (.ifCond .eq 22, 3) := by decide +kernel
theorem dX10_next_49 : decode cX10_next 49 = .ok (.iload_n 3, 1) := by decide +kernel
theorem dX10_next_50 : decode cX10_next 50 = .ok (.iconst (-1), 1) := by decide +kernel
theorem dX10_next_51 : decode cX10_next 51 = .ok (.if_icmp .eq 10, 3) := by decide +kernel
theorem dX10_next_54 : decode cX10_next 54 = .ok (.iload 6, 2) := by decide +kernel
theorem dX10_next_56 : decode cX10_next 56 = .ok (.iload 4, 2) := by decide +kernel
theorem dX10_next_58 : decode cX10_next 58 = .ok (.if_icmp .ge 10, 3) := by decide +kernel
theorem dX10_next_61 : decode cX10_next 61 = .ok (.iload 5, 2) := by decide +kernel
theorem dX10_next_63 : decode cX10_next 63 = .ok (.istore_n 3, 1) := by decide +kernel
theorem dX10_next_64 : decode cX10_next 64 = .ok (.iload 6, 2) := by decide +kernel
theorem dX10_next_66 : decode cX10_next 66 = .ok (.istore 4, 2) := by decide +kernel
theorem dX10_next_68 : decode cX10_next 68 = .ok (.iinc 5 1, 3) := by decide +kernel
theorem dX10_next_71 : decode cX10_next 71 = .ok (.goto (-63), 3) := by decide +kernel
theorem dX10_next_74 : decode cX10_next 74 = .ok (.iload_n 3, 1) := by decide +kernel
theorem dX10_next_75 : decode cX10_next 75 = .ok (.ireturn, 1) := by decide +kernel
theorem dX11_init_0 : decode cX11_init 0 = .ok (.aload_n 0, 1) := by decide +kernel
theorem dX11_init_1 : decode cX11_init 1 = .ok (.invokespecial 1, 3) := by decide +kernel
theorem dX11_init_4 : decode cX11_init 4 = .ok (.aload_n 0, 1) := by decide +kernel
theorem dX11_init_5 : decode cX11_init 5 = .ok (.new 7, 3) := by decide +kernel
theorem dX11_init_8 : decode cX11_init 8 = .ok (.dup, 1) := by decide +kernel
theorem dX11_init_9 : decode cX11_init 9 = .ok (.invokespecial 9, 3) := by decide +kernel
theorem dX11_init_12 : decode cX11_init 12 = .ok (.putfield 10, 3) := by decide +kernel
theorem dX11_init_15 : decode cX11_init 15 = .ok (.aload_n 0, 1) := by decide +kernel
theorem dX11_init_16 : decode cX11_init 16 = .ok (.new 16, 3) := by decide +kernel
theorem dX11_init_19 : decode cX11_init 19 = .ok (.dup, 1) := by decide +kernel
theorem dX11_init_20 : decode cX11_init 20 = .ok (.invokespecial 18, 3) := by decide +kernel
theorem dX11_init_23 : decode cX11_init 23 = .ok (.putfield 19, 3) := by decide +kernel
theorem dX11_init_26 : decode cX11_init 26 = .ok (.aload_n 0, 1) := by decide +kernel
theorem dX11_init_27 : decode cX11_init 27 = .ok (.new 23, 3) := by decide +kernel
theorem dX11_init_30 : decode cX11_init 30 = .ok (.dup, 1) := by decide +kernel
theorem dX11_init_31 : decode cX11_init 31 = .ok (.invokespecial 25, 3) := by decide +kernel
theorem dX11_init_34 : decode cX11_init 34 = .ok (.putfield 26, 3) := by decide +kernel
theorem dX11_init_37 : decode cX11_init 37 = .ok (.aload_n 0, 1) := by decide +kernel
theorem dX11_init_38 : decode cX11_init 38 = .ok (.new 30, 3) := by decide +kernel
theorem dX11_init_41 : decode cX11_init 41 = .ok (.dup, 1) := by decide +kernel
theorem dX11_init_42 : decode cX11_init 42 = .ok (.aload_n 0, 1) := by decide +kernel
theorem dX11_init_43 : decode cX11_init 43 = .ok (.getfield 26, 3) := by decide +kernel
theorem dX11_init_46 : decode cX11_init 46 = .ok (.invokespecial 32, 3) := by decide +kernel
theorem dX11_init_49 : decode cX11_init 49 = .ok (.putfield 35, 3) := by decide +kernel
theorem dX11_init_52 : decode cX11_init 52 = .ok (.aload_n 0, 1) := by decide +kernel
theorem dX11_init_53 : decode cX11_init 53 = .ok (.new 39, 3) := by decide +kernel
theorem dX11_init_56 : decode cX11_init 56 = .ok (.dup, 1) := by decide +kernel
theorem dX11_init_57 : decode cX11_init 57 = .ok (.aload_n 0, 1) := by decide +kernel
theorem dX11_init_58 : decode cX11_init 58 = .ok (.getfield 10, 3) := by decide +kernel
theorem dX11_init_61 : decode cX11_init 61 = .ok (.aload_n 0, 1) := by decide +kernel
theorem dX11_init_62 : decode cX11_init 62 = .ok (.getfield 19, 3) := by decide +kernel
theorem dX11_init_65 : decode cX11_init 65 = .ok (.invokespecial 41, 3) := by decide +kernel
theorem dX11_init_68 : decode cX11_init 68 = .ok (.putfield 44, 3) := by decide +kernel
theorem dX11_init_71 : decode cX11_init 71 = .ok (.aload_n 0, 1) := by decide +kernel
theorem dX11_init_72 : decode cX11_init 72 = .ok (.new 48, 3) := by decide +kernel
theorem dX11_init_75 : decode cX11_init 75 = .ok (.dup, 1) := by decide +kernel
theorem dX11_init_76 : decode cX11_init 76 = .ok (.aload_n 0, 1) := by decide +kernel
theorem dX11_init_77 : decode cX11_init 77 = .ok (.getfield 10, 3) := by decide +kernel
theorem dX11_init_80 : decode cX11_init 80 = .ok (.aload_n 0, 1) := by decide +kernel
theorem dX11_init_81 : decode cX11_init 81 = .ok (.getfield 19, 3) := by decide +kernel
theorem dX11_init_84 : decode cX11_init 84 = .ok (.aload_n 0, 1) := by decide +kernel
theorem dX11_init_85 : decode cX11_init 85 = .ok (.getfield 44, 3) := by decide +kernel
theorem dX11_init_88 : decode cX11_init 88 = .ok (.invokespecial 50, 3) := by decide +kernel
theorem dX11_init_91 : decode cX11_init 91 = .ok (.putfield 53, 3) := by decide +kernel
theorem dX11_init_94 : decode cX11_init 94 = .ok (.aload_n 0, 1) := by decide +kernel
theorem dX11_init_95 : decode cX11_init 95 = .ok (.new 57, 3) := by decide +kernel
theorem dX11_init_98 : decode cX11_init 98 = .ok (.dup, 1) := by decide +kernel
theorem dX11_init_99 : decode cX11_init 99 = .ok (.invokespecial 59, 3) := by decide +kernel
theorem dX11_init_102 : decode cX11_init 102 = .ok (.putfield 60, 3) := by decide +kernel
theorem dX11_init_105 : decode cX11_init 105 = .ok (.aload_n 0, 1) := by decide +kernel
theorem dX11_init_106 : decode cX11_init 106 = .ok (.new 64, 3) := by decide +kernel
theorem dX11_init_109 : decode cX11_init 109 = .ok (.dup, 1) := by decide +kernel
theorem dX11_init_110 : decode cX11_init 110 = .ok (.aload_n 0, 1) := by decide +kernel
theorem dX11_init_111 : decode cX11_init 111 = .ok (.getfield 19, 3) := by decide +kernel
theorem dX11_init_114 : decode cX11_init 114 = .ok (.invokespecial 66, 3) := by decide +kernel
theorem dX11_init_117 : decode cX11_init 117 = .ok (.putfield 69, 3) := by decide +kernel
theorem dX11_init_120 : decode cX11_init 120 = .ok (.aload_n 0, 1) := by decide +kernel
theorem dX11_init_121 : decode cX11_init 121 = .ok (.new 73, 3) := by decide +kernel
theorem dX11_init_124 : decode cX11_init 124 = .ok (.dup, 1) := by decide +kernel
theorem dX11_init_125 : decode cX11_init 125 = .ok (.aload_n 0, 1) := by decide +kernel
theorem dX11_init_126 : decode cX11_init 126 = .ok (.getfield 19, 3) := by decide +kernel
theorem dX11_init_129 : decode cX11_init 129 = .ok (.invokespecial 75, 3) := by decide +kernel
theorem dX11_init_132 : decode cX11_init 132 = .ok (.putfield 76, 3) := by decide +kernel
theorem dX11_init_135 : decode cX11_init 135 = .ok (.aload_n 0, 1) := by decide +kernel
theorem dX11_init_136 : decode cX11_init 136 = .ok (.new 80, 3) := by decide +kernel
theorem dX11_init_139 : decode cX11_init 139 = .ok (.dup, 1) := by decide +kernel
theorem dX11_init_140 : decode cX11_init 140 = .ok (.invokespecial 82, 3) := by decide +kernel
theorem dX11_init_143 : decode cX11_init 143 = .ok (.putfield 83, 3) := by decide +kernel
theorem dX11_init_146 : decode cX11_init 146 = .ok (.aload_n 0, 1) := by decide +kernel
theorem dX11_init_147 : decode cX11_init 147 = .ok (.iconst 0, 1) := by decide +kernel
theorem dX11_init_148 : decode cX11_init 148 = .ok (.putfield 87, 3) := by decide +kernel
theorem dX11_init_151 : decode cX11_init 151 = .ok (.return_, 1) := by decide +kernel
theorem dX11_picture_0 : decode cX11_picture 0 = .ok (.aload_n 0, 1) := by decide +kernel
theorem dX11_picture_1 : decode cX11_picture 1 = .ok (.getfield 10, 3) := by decide +kernel
theorem dX11_picture_4 : decode cX11_picture 4 = .ok (.iload_n 1, 1) := by decide +kernel
theorem dX11_picture_5 : decode cX11_picture 5 = .ok (.iload_n 2, 1) := by decide +kernel
theorem dX11_picture_6 : decode cX11_picture 6 = .ok (.iload_n 3, 1) := by decide +kernel
theorem dX11_picture_7 : decode cX11_picture 7 = .ok (.iload 4, 2) := by decide +kernel
theorem dX11_picture_9 : decode cX11_picture 9 = .ok (.iload 5, 2) := by decide +kernel
theorem dX11_picture_11 : decode cX11_picture 11 = .ok (.invokevirtual 91, 3) := by decide +kernel
theorem dX11_picture_14 : decode cX11_picture 14 = .ok (.ireturn, 1) := by decide +kernel
theorem dX11_print_0 : decode cX11_print 0 = .ok (.aload_n 0, 1) := by decide +kernel
theorem dX11_print_1 : decode cX11_print 1 = .ok (.getfield 10, 3) := by decide +kernel
theorem dX11_print_4 : decode cX11_print 4 = .ok (.iload_n 1, 1) := by decide +kernel
theorem dX11_print_5 : decode cX11_print 5 = .ok (.invokevirtual 95, 3) := by decide +kernel
theorem dX11_print_8 : decode cX11_print 8 = .ok (.ireturn, 1) := by decide +kernel
theorem dX11_event_0 : decode cX11_event 0 = .ok (.aload_n 0, 1) := by decide +kernel
theorem dX11_event_1 : decode cX11_event 1 = .ok (.getfield 10, 3) := by decide +kernel
theorem dX11_event_4 : decode cX11_event 4 = .ok (.iload_n 1, 1) := by decide +kernel
theorem dX11_event_5 : decode cX11_event 5 = .ok (.iload_n 2, 1) := by decide +kernel
theorem dX11_event_6 : decode cX11_event 6 = .ok (.iload_n 3, 1) := by decide +kernel
theorem dX11_event_7 : decode cX11_event 7 = .ok (.iload 4, 2) := by decide +kernel
theorem dX11_event_9 : decode cX11_event 9 = .ok (.aload_n 0, 1) := by decide +kernel
theorem dX11_event_10 : decode cX11_event 10 = .ok (.getfield 87, 3) := by decide +kernel
theorem dX11_event_13 : decode cX11_event 13 = .ok (.invokevirtual 99, 3) := by decide +kernel
theorem dX11_event_16 : decode cX11_event 16 = .ok (.ireturn, 1) := by decide +kernel
theorem dX11_lead_0 : decode cX11_lead 0 = .ok (.iload_n 3, 1) := by decide +kernel
theorem dX11_lead_1 : decode cX11_lead 1 = .ok (.iconst 0, 1) := by decide +kernel
theorem dX11_lead_2 : decode cX11_lead 2 = .ok (.aload_n 0, 1) := by decide +kernel
theorem dX11_lead_3 : decode cX11_lead 3 = .ok (.getfield 87, 3) := by decide +kernel
theorem dX11_lead_6 : decode cX11_lead 6 = .ok (.invokestatic 102, 3) := by decide +kernel
theorem dX11_lead_9 : decode cX11_lead 9 = .ok (.ifCond .eq 15, 3) := by decide +kernel
theorem dX11_lead_12 : decode cX11_lead 12 = .ok (.aload_n 0, 1) := by decide +kernel
theorem dX11_lead_13 : decode cX11_lead 13 = .ok (.getfield 10, 3) := by decide +kernel
theorem dX11_lead_16 : decode cX11_lead 16 = .ok (.iload_n 1, 1) := by decide +kernel
theorem dX11_lead_17 : decode cX11_lead 17 = .ok (.iload_n 2, 1) := by decide +kernel
theorem dX11_lead_18 : decode cX11_lead 18 = .ok (.invokevirtual 106, 3) := by decide +kernel
theorem dX11_lead_21 : decode cX11_lead 21 = .ok (.ifCond .ne 7, 3) := by decide +kernel
theorem dX11_lead_24 : decode cX11_lead 24 = .ok (.sipush (-9999), 3) := by decide +kernel
theorem dX11_lead_27 : decode cX11_lead 27 = .ok (.ireturn, 1) := by decide +kernel
theorem dX11_lead_28 : decode cX11_lead 28 = .ok (.aload_n 0, 1) := by decide +kernel
theorem dX11_lead_29 : decode cX11_lead 29 = .ok (.getfield 10, 3) := by decide +kernel
theorem dX11_lead_32 : decode cX11_lead 32 = .ok (.iload_n 1, 1) := by decide +kernel
theorem dX11_lead_33 : decode cX11_lead 33 = .ok (.iload_n 2, 1) := by decide +kernel
theorem dX11_lead_34 : decode cX11_lead 34 = .ok (.iload_n 3, 1) := by decide +kernel
theorem dX11_lead_35 : decode cX11_lead 35 = .ok (.invokevirtual 110, 3) := by decide +kernel
theorem dX11_lead_38 : decode cX11_lead 38 = .ok (.ireturn, 1) := by decide +kernel
theorem dX11_off_0 : decode cX11_off 0 = .ok (.iload_n 2, 1) := by decide +kernel
theorem dX11_off_1 : decode cX11_off 1 = .ok (.iconst 0, 1) := by decide +kernel
theorem dX11_off_2 : decode cX11_off 2 = .ok (.aload_n 0, 1) := by decide +kernel
theorem dX11_off_3 : decode cX11_off 3 = .ok (.getfield 87, 3) := by decide +kernel
theorem dX11_off_6 : decode cX11_off 6 = .ok (.invokestatic 102, 3) := by decide +kernel
theorem dX11_off_9 : decode cX11_off 9 = .ok (.ifCond .eq 14, 3) := by decide +kernel
theorem dX11_off_12 : decode cX11_off 12 = .ok (.aload_n 0, 1) := by decide +kernel
theorem dX11_off_13 : decode cX11_off 13 = .ok (.getfield 10, 3) := by decide +kernel
theorem dX11_off_16 : decode cX11_off 16 = .ok (.iload_n 1, 1) := by decide +kernel
theorem dX11_off_17 : decode cX11_off 17 = .ok (.invokevirtual 114, 3) := by decide +kernel
theorem dX11_off_20 : decode cX11_off 20 = .ok (.ifCond .ne 5, 3) := by decide +kernel
theorem dX11_off_23 : decode cX11_off 23 = .ok (.iconst (-1), 1) := by decide +kernel
theorem dX11_off_24 : decode cX11_off 24 = .ok (.ireturn, 1) := by decide +kernel
theorem dX11_off_25 : decode cX11_off 25 = .ok (.aload_n 0, 1) := by decide +kernel
theorem dX11_off_26 : decode cX11_off 26 = .ok (.getfield 10, 3) := by decide +kernel
theorem dX11_off_29 : decode cX11_off 29 = .ok (.iload_n 1, 1) := by decide +kernel
theorem dX11_off_30 : decode cX11_off 30 = .ok (.iload_n 2, 1) := by decide +kernel
theorem dX11_off_31 : decode cX11_off 31 = .ok (.invokevirtual 118, 3) := by decide +kernel
theorem dX11_off_34 : decode cX11_off 34 = .ok (.ireturn, 1) := by decide +kernel
theorem dX11_hall_0 : decode cX11_hall 0 = .ok (.aload_n 0, 1) := by decide +kernel
theorem dX11_hall_1 : decode cX11_hall 1 = .ok (.getfield 19, 3) := by decide +kernel
theorem dX11_hall_4 : decode cX11_hall 4 = .ok (.iload_n 1, 1) := by decide +kernel
theorem dX11_hall_5 : decode cX11_hall 5 = .ok (.iload_n 2, 1) := by decide +kernel
theorem dX11_hall_6 : decode cX11_hall 6 = .ok (.iload_n 3, 1) := by decide +kernel
theorem dX11_hall_7 : decode cX11_hall 7 = .ok (.iload 4, 2) := by decide +kernel
theorem dX11_hall_9 : decode cX11_hall 9 = .ok (.invokevirtual 122, 3) := by decide +kernel
theorem dX11_hall_12 : decode cX11_hall 12 = .ok (.ireturn, 1) := by decide +kernel
theorem dX11_asks_0 : decode cX11_asks 0 = .ok (.aload_n 0, 1) := by decide +kernel
theorem dX11_asks_1 : decode cX11_asks 1 = .ok (.getfield 19, 3) := by decide +kernel
theorem dX11_asks_4 : decode cX11_asks 4 = .ok (.iload_n 1, 1) := by decide +kernel
theorem dX11_asks_5 : decode cX11_asks 5 = .ok (.iload_n 2, 1) := by decide +kernel
theorem dX11_asks_6 : decode cX11_asks 6 = .ok (.iload_n 3, 1) := by decide +kernel
theorem dX11_asks_7 : decode cX11_asks 7 = .ok (.invokevirtual 126, 3) := by decide +kernel
theorem dX11_asks_10 : decode cX11_asks 10 = .ok (.ireturn, 1) := by decide +kernel
theorem dX11_set_0 : decode cX11_set 0 = .ok (.aload_n 0, 1) := by decide +kernel
theorem dX11_set_1 : decode cX11_set 1 = .ok (.getfield 19, 3) := by decide +kernel
theorem dX11_set_4 : decode cX11_set 4 = .ok (.iload_n 1, 1) := by decide +kernel
theorem dX11_set_5 : decode cX11_set 5 = .ok (.iload_n 2, 1) := by decide +kernel
theorem dX11_set_6 : decode cX11_set 6 = .ok (.iload_n 3, 1) := by decide +kernel
theorem dX11_set_7 : decode cX11_set 7 = .ok (.invokevirtual 129, 3) := by decide +kernel
theorem dX11_set_10 : decode cX11_set 10 = .ok (.ireturn, 1) := by decide +kernel
theorem dX11_hire_0 : decode cX11_hire 0 = .ok (.aload_n 0, 1) := by decide +kernel
theorem dX11_hire_1 : decode cX11_hire 1 = .ok (.getfield 19, 3) := by decide +kernel
theorem dX11_hire_4 : decode cX11_hire 4 = .ok (.iload_n 1, 1) := by decide +kernel
theorem dX11_hire_5 : decode cX11_hire 5 = .ok (.invokevirtual 132, 3) := by decide +kernel
theorem dX11_hire_8 : decode cX11_hire 8 = .ok (.ifCond .eq 40, 3) := by decide +kernel
theorem dX11_hire_11 : decode cX11_hire 11 = .ok (.aload_n 0, 1) := by decide +kernel
theorem dX11_hire_12 : decode cX11_hire 12 = .ok (.getfield 19, 3) := by decide +kernel
theorem dX11_hire_15 : decode cX11_hire 15 = .ok (.iload_n 2, 1) := by decide +kernel
theorem dX11_hire_16 : decode cX11_hire 16 = .ok (.invokevirtual 135, 3) := by decide +kernel
theorem dX11_hire_19 : decode cX11_hire 19 = .ok (.ifCond .eq 29, 3) := by decide +kernel
theorem dX11_hire_22 : decode cX11_hire 22 = .ok (.iload_n 1, 1) := by decide +kernel
theorem dX11_hire_23 : decode cX11_hire 23 = .ok (.iload_n 2, 1) := by decide +kernel
theorem dX11_hire_24 : decode cX11_hire 24 = .ok (.aload_n 0, 1) := by decide +kernel
theorem dX11_hire_25 : decode cX11_hire 25 = .ok (.getfield 19, 3) := by decide +kernel
theorem dX11_hire_28 : decode cX11_hire 28 = .ok (.getfield 138, 3) := by decide +kernel
theorem dX11_hire_31 : decode cX11_hire 31 = .ok (.aload_n 0, 1) := by decide +kernel
theorem dX11_hire_32 : decode cX11_hire 32 = .ok (.getfield 19, 3) := by decide +kernel
theorem dX11_hire_35 : decode cX11_hire 35 = .ok (.getfield 142, 3) := by decide +kernel
theorem dX11_hire_38 : decode cX11_hire 38 = .ok (.invokestatic 145, 3) := by decide +kernel
theorem dX11_hire_41 : decode cX11_hire 41 = .ok (.ifCond .eq 7, 3) := by decide +kernel
theorem dX11_hire_44 : decode cX11_hire 44 = .ok (.iconst 1, 1) := by decide +kernel
theorem dX11_hire_45 : decode cX11_hire 45 = .ok (.goto 4, 3) := by decide +kernel
theorem dX11_hire_48 : decode cX11_hire 48 = .ok (.iconst 0, 1) := by decide +kernel
theorem dX11_hire_49 : decode cX11_hire 49 = .ok (.ireturn, 1) := by decide +kernel
theorem dX11_book_0 : decode cX11_book 0 = .ok (.aload_n 0, 1) := by decide +kernel
theorem dX11_book_1 : decode cX11_book 1 = .ok (.getfield 10, 3) := by decide +kernel
theorem dX11_book_4 : decode cX11_book 4 = .ok (.iload_n 1, 1) := by decide +kernel
theorem dX11_book_5 : decode cX11_book 5 = .ok (.invokevirtual 114, 3) := by decide +kernel
theorem dX11_book_8 : decode cX11_book 8 = .ok (.ifCond .eq 40, 3) := by decide +kernel
theorem dX11_book_11 : decode cX11_book 11 = .ok (.aload_n 0, 1) := by decide +kernel
theorem dX11_book_12 : decode cX11_book 12 = .ok (.getfield 19, 3) := by decide +kernel
theorem dX11_book_15 : decode cX11_book 15 = .ok (.iload_n 2, 1) := by decide +kernel
theorem dX11_book_16 : decode cX11_book 16 = .ok (.invokevirtual 135, 3) := by decide +kernel
theorem dX11_book_19 : decode cX11_book 19 = .ok (.ifCond .eq 29, 3) := by decide +kernel
theorem dX11_book_22 : decode cX11_book 22 = .ok (.iload_n 1, 1) := by decide +kernel
theorem dX11_book_23 : decode cX11_book 23 = .ok (.iload_n 2, 1) := by decide +kernel
theorem dX11_book_24 : decode cX11_book 24 = .ok (.aload_n 0, 1) := by decide +kernel
theorem dX11_book_25 : decode cX11_book 25 = .ok (.getfield 10, 3) := by decide +kernel
theorem dX11_book_28 : decode cX11_book 28 = .ok (.getfield 149, 3) := by decide +kernel
theorem dX11_book_31 : decode cX11_book 31 = .ok (.aload_n 0, 1) := by decide +kernel
theorem dX11_book_32 : decode cX11_book 32 = .ok (.getfield 19, 3) := by decide +kernel
theorem dX11_book_35 : decode cX11_book 35 = .ok (.getfield 152, 3) := by decide +kernel
theorem dX11_book_38 : decode cX11_book 38 = .ok (.invokestatic 145, 3) := by decide +kernel
theorem dX11_book_41 : decode cX11_book 41 = .ok (.ifCond .eq 7, 3) := by decide +kernel
theorem dX11_book_44 : decode cX11_book 44 = .ok (.iconst 1, 1) := by decide +kernel
theorem dX11_book_45 : decode cX11_book 45 = .ok (.goto 4, 3) := by decide +kernel
theorem dX11_book_48 : decode cX11_book 48 = .ok (.iconst 0, 1) := by decide +kernel
theorem dX11_book_49 : decode cX11_book 49 = .ok (.ireturn, 1) := by decide +kernel
theorem dX11_feed_0 : decode cX11_feed 0 = .ok (.aload_n 0, 1) := by decide +kernel
theorem dX11_feed_1 : decode cX11_feed 1 = .ok (.getfield 26, 3) := by decide +kernel
theorem dX11_feed_4 : decode cX11_feed 4 = .ok (.iload_n 1, 1) := by decide +kernel
theorem dX11_feed_5 : decode cX11_feed 5 = .ok (.iload_n 2, 1) := by decide +kernel
theorem dX11_feed_6 : decode cX11_feed 6 = .ok (.iload_n 3, 1) := by decide +kernel
theorem dX11_feed_7 : decode cX11_feed 7 = .ok (.iload 4, 2) := by decide +kernel
theorem dX11_feed_9 : decode cX11_feed 9 = .ok (.iload 5, 2) := by decide +kernel
theorem dX11_feed_11 : decode cX11_feed 11 = .ok (.invokevirtual 155, 3) := by decide +kernel
theorem dX11_feed_14 : decode cX11_feed 14 = .ok (.ireturn, 1) := by decide +kernel
theorem dX11_end_0 : decode cX11_end 0 = .ok (.aload_n 0, 1) := by decide +kernel
theorem dX11_end_1 : decode cX11_end 1 = .ok (.getfield 26, 3) := by decide +kernel
theorem dX11_end_4 : decode cX11_end 4 = .ok (.iload_n 1, 1) := by decide +kernel
theorem dX11_end_5 : decode cX11_end 5 = .ok (.invokevirtual 158, 3) := by decide +kernel
theorem dX11_end_8 : decode cX11_end 8 = .ok (.ireturn, 1) := by decide +kernel
theorem dX11_rules_0 : decode cX11_rules 0 = .ok (.iconst (-1), 1) := by decide +kernel
theorem dX11_rules_1 : decode cX11_rules 1 = .ok (.istore_n 2, 1) := by decide +kernel
theorem dX11_rules_2 : decode cX11_rules 2 = .ok (.aload_n 0, 1) := by decide +kernel
theorem dX11_rules_3 : decode cX11_rules 3 = .ok (.getfield 35, 3) := by decide +kernel
theorem dX11_rules_6 : decode cX11_rules 6 = .ok (.invokevirtual 161, 3) := by decide +kernel
theorem dX11_rules_9 : decode cX11_rules 9 = .ok (.iload_n 1, 1) := by decide +kernel
theorem dX11_rules_10 : decode cX11_rules 10 = .ok (.iconst 0, 1) := by decide +kernel
theorem dX11_rules_11 : decode cX11_rules 11 = .ok (.iconst 2, 1) := by decide +kernel
theorem dX11_rules_12 : decode cX11_rules 12 = .ok (.invokestatic 102, 3) := by decide +kernel
theorem dX11_rules_15 : decode cX11_rules 15 = .ok (.ifCond .eq 44, 3) := by decide +kernel
theorem dX11_rules_18 : decode cX11_rules 18 = .ok (.aload_n 0, 1) := by decide +kernel
theorem dX11_rules_19 : decode cX11_rules 19 = .ok (.getfield 35, 3) := by decide +kernel
theorem dX11_rules_22 : decode cX11_rules 22 = .ok (.invokevirtual 164, 3) := by decide +kernel
theorem dX11_rules_25 : decode cX11_rules 25 = .ok (.ifCond .eq 34, 3) := by decide +kernel
theorem dX11_rules_28 : decode cX11_rules 28 = .ok (.aload_n 0, 1) := by decide +kernel
theorem dX11_rules_29 : decode cX11_rules 29 = .ok (.getfield 35, 3) := by decide +kernel
theorem dX11_rules_32 : decode cX11_rules 32 = .ok (.aload_n 0, 1) := by decide +kernel
theorem dX11_rules_33 : decode cX11_rules 33 = .ok (.getfield 44, 3) := by decide +kernel
theorem dX11_rules_36 : decode cX11_rules 36 = .ok (.iload_n 1, 1) := by decide +kernel
theorem dX11_rules_37 : decode cX11_rules 37 = .ok (.aload_n 0, 1) := by decide +kernel
theorem dX11_rules_38 : decode cX11_rules 38 = .ok (.getfield 35, 3) := by decide +kernel
theorem dX11_rules_41 : decode cX11_rules 41 = .ok (.getfield 168, 3) := by decide +kernel
theorem dX11_rules_44 : decode cX11_rules 44 = .ok (.invokevirtual 172, 3) := by decide +kernel
theorem dX11_rules_47 : decode cX11_rules 47 = .ok (.putfield 168, 3) := by decide +kernel
theorem dX11_rules_50 : decode cX11_rules 50 = .ok (.aload_n 0, 1) := by decide +kernel
theorem dX11_rules_51 : decode cX11_rules 51 = .ok (.getfield 44, 3) := by decide +kernel
theorem dX11_rules_54 : decode cX11_rules 54 = .ok (.iload_n 1, 1) := by decide +kernel
theorem dX11_rules_55 : decode cX11_rules 55 = .ok (.invokevirtual 176, 3) := by decide +kernel
theorem dX11_rules_58 : decode cX11_rules 58 = .ok (.istore_n 2, 1) := by decide +kernel
theorem dX11_rules_59 : decode cX11_rules 59 = .ok (.aload_n 0, 1) := by decide +kernel
theorem dX11_rules_60 : decode cX11_rules 60 = .ok (.getfield 26, 3) := by decide +kernel
theorem dX11_rules_63 : decode cX11_rules 63 = .ok (.iconst 0, 1) := by decide +kernel
theorem dX11_rules_64 : decode cX11_rules 64 = .ok (.invokevirtual 158, 3) := by decide +kernel
theorem dX11_rules_67 : decode cX11_rules 67 = .ok (.pop, 1) := by decide +kernel
theorem dX11_rules_68 : decode cX11_rules 68 = .ok (.iload_n 2, 1) := by decide +kernel
theorem dX11_rules_69 : decode cX11_rules 69 = .ok (.ireturn, 1) := by decide +kernel
theorem dX11_fault_0 : decode cX11_fault 0 = .ok (.iload_n 1, 1) := by decide +kernel
theorem dX11_fault_1 : decode cX11_fault 1 = .ok (.ifCond .ne 11, 3) := by decide +kernel
theorem dX11_fault_4 : decode cX11_fault 4 = .ok (.aload_n 0, 1) := by decide +kernel
theorem dX11_fault_5 : decode cX11_fault 5 = .ok (.getfield 35, 3) := by decide +kernel
theorem dX11_fault_8 : decode cX11_fault 8 = .ok (.getfield 179, 3) := by decide +kernel
theorem dX11_fault_11 : decode cX11_fault 11 = .ok (.ireturn, 1) := by decide +kernel
theorem dX11_fault_12 : decode cX11_fault 12 = .ok (.iload_n 1, 1) := by decide +kernel
theorem dX11_fault_13 : decode cX11_fault 13 = .ok (.iconst 1, 1) := by decide +kernel
theorem dX11_fault_14 : decode cX11_fault 14 = .ok (.if_icmp .ne 13, 3) := by decide +kernel
theorem dX11_fault_17 : decode cX11_fault 17 = .ok (.aload_n 0, 1) := by decide +kernel
theorem dX11_fault_18 : decode cX11_fault 18 = .ok (.getfield 35, 3) := by decide +kernel
theorem dX11_fault_21 : decode cX11_fault 21 = .ok (.getfield 182, 3) := by decide +kernel
theorem dX11_fault_24 : decode cX11_fault 24 = .ok (.goto 4, 3) := by decide +kernel
theorem dX11_fault_27 : decode cX11_fault 27 = .ok (.iconst (-1), 1) := by decide +kernel
theorem dX11_fault_28 : decode cX11_fault 28 = .ok (.ireturn, 1) := by decide +kernel
theorem dX11_runs_0 : decode cX11_runs 0 = .ok (.aload_n 0, 1) := by decide +kernel
theorem dX11_runs_1 : decode cX11_runs 1 = .ok (.getfield 10, 3) := by decide +kernel
theorem dX11_runs_4 : decode cX11_runs 4 = .ok (.iload_n 1, 1) := by decide +kernel
theorem dX11_runs_5 : decode cX11_runs 5 = .ok (.invokevirtual 114, 3) := by decide +kernel
theorem dX11_runs_8 : decode cX11_runs 8 = .ok (.ifCond .eq 14, 3) := by decide +kernel
theorem dX11_runs_11 : decode cX11_runs 11 = .ok (.aload_n 0, 1) := by decide +kernel
theorem dX11_runs_12 : decode cX11_runs 12 = .ok (.getfield 19, 3) := by decide +kernel
theorem dX11_runs_15 : decode cX11_runs 15 = .ok (.iload_n 2, 1) := by decide +kernel
theorem dX11_runs_16 : decode cX11_runs 16 = .ok (.invokevirtual 185, 3) := by decide +kernel
theorem dX11_runs_19 : decode cX11_runs 19 = .ok (.ifCond .ne 5, 3) := by decide +kernel
theorem dX11_runs_22 : decode cX11_runs 22 = .ok (.iconst (-1), 1) := by decide +kernel
theorem dX11_runs_23 : decode cX11_runs 23 = .ok (.ireturn, 1) := by decide +kernel
theorem dX11_runs_24 : decode cX11_runs 24 = .ok (.aload_n 0, 1) := by decide +kernel
theorem dX11_runs_25 : decode cX11_runs 25 = .ok (.getfield 44, 3) := by decide +kernel
theorem dX11_runs_28 : decode cX11_runs 28 = .ok (.iload_n 1, 1) := by decide +kernel
theorem dX11_runs_29 : decode cX11_runs 29 = .ok (.iload_n 2, 1) := by decide +kernel
theorem dX11_runs_30 : decode cX11_runs 30 = .ok (.aload_n 0, 1) := by decide +kernel
theorem dX11_runs_31 : decode cX11_runs 31 = .ok (.getfield 87, 3) := by decide +kernel
theorem dX11_runs_34 : decode cX11_runs 34 = .ok (.invokevirtual 188, 3) := by decide +kernel
theorem dX11_runs_37 : decode cX11_runs 37 = .ok (.iload_n 3, 1) := by decide +kernel
theorem dX11_runs_38 : decode cX11_runs 38 = .ok (.tableswitch 76 0 4 #[34, 44, 52, 60, 68], 34) := by decide +kernel
theorem dX11_runs_72 : decode cX11_runs 72 = .ok (.aload_n 0, 1) := by decide +kernel
theorem dX11_runs_73 : decode cX11_runs 73 = .ok (.getfield 44, 3) := by decide +kernel
theorem dX11_runs_76 : decode cX11_runs 76 = .ok (.iload_n 1, 1) := by decide +kernel
theorem dX11_runs_77 : decode cX11_runs 77 = .ok (.iload_n 2, 1) := by decide +kernel
theorem dX11_runs_78 : decode cX11_runs 78 = .ok (.invokevirtual 192, 3) := by decide +kernel
theorem dX11_runs_81 : decode cX11_runs 81 = .ok (.ireturn, 1) := by decide +kernel
theorem dX11_runs_82 : decode cX11_runs 82 = .ok (.aload_n 0, 1) := by decide +kernel
theorem dX11_runs_83 : decode cX11_runs 83 = .ok (.getfield 44, 3) := by decide +kernel
theorem dX11_runs_86 : decode cX11_runs 86 = .ok (.getfield 195, 3) := by decide +kernel
theorem dX11_runs_89 : decode cX11_runs 89 = .ok (.ireturn, 1) := by decide +kernel
theorem dX11_runs_90 : decode cX11_runs 90 = .ok (.aload_n 0, 1) := by decide +kernel
theorem dX11_runs_91 : decode cX11_runs 91 = .ok (.getfield 44, 3) := by decide +kernel
theorem dX11_runs_94 : decode cX11_runs 94 = .ok (.getfield 198, 3) := by decide +kernel
theorem dX11_runs_97 : decode cX11_runs 97 = .ok (.ireturn, 1) := by decide +kernel
theorem dX11_runs_98 : decode cX11_runs 98 = .ok (.aload_n 0, 1) := by decide +kernel
theorem dX11_runs_99 : decode cX11_runs 99 = .ok (.getfield 44, 3) := by decide +kernel
theorem dX11_runs_102 : decode cX11_runs 102 = .ok (.getfield 201, 3) := by decide +kernel
theorem dX11_runs_105 : decode cX11_runs 105 = .ok (.ireturn, 1) := by decide +kernel
theorem dX11_runs_106 : decode cX11_runs 106 = .ok (.aload_n 0, 1) := by decide +kernel
theorem dX11_runs_107 : decode cX11_runs 107 = .ok (.getfield 44, 3) := by decide +kernel
theorem dX11_runs_110 : decode cX11_runs 110 = .ok (.getfield 204, 3) := by decide +kernel
theorem dX11_runs_113 : decode cX11_runs 113 = .ok (.ireturn, 1) := by decide +kernel
theorem dX11_runs_114 : decode cX11_runs 114 = .ok (.iconst (-1), 1) := by decide +kernel
theorem dX11_runs_115 : decode cX11_runs 115 = .ok (.ireturn, 1) := by decide +kernel
theorem dX11_crowd_0 : decode cX11_crowd 0 = .ok (.aload_n 0, 1) := by decide +kernel
theorem dX11_crowd_1 : decode cX11_crowd 1 = .ok (.getfield 53, 3) := by decide +kernel
theorem dX11_crowd_4 : decode cX11_crowd 4 = .ok (.iload_n 1, 1) := by decide +kernel
theorem dX11_crowd_5 : decode cX11_crowd 5 = .ok (.iload_n 2, 1) := by decide +kernel
theorem dX11_crowd_6 : decode cX11_crowd 6 = .ok (.iload_n 3, 1) := by decide +kernel
theorem dX11_crowd_7 : decode cX11_crowd 7 = .ok (.iload 4, 2) := by decide +kernel
theorem dX11_crowd_9 : decode cX11_crowd 9 = .ok (.iload 5, 2) := by decide +kernel
theorem dX11_crowd_11 : decode cX11_crowd 11 = .ok (.invokevirtual 207, 3) := by decide +kernel
theorem dX11_crowd_14 : decode cX11_crowd 14 = .ok (.ireturn, 1) := by decide +kernel
theorem dX11_worth_0 : decode cX11_worth 0 = .ok (.aload_n 0, 1) := by decide +kernel
theorem dX11_worth_1 : decode cX11_worth 1 = .ok (.getfield 53, 3) := by decide +kernel
theorem dX11_worth_4 : decode cX11_worth 4 = .ok (.iload_n 1, 1) := by decide +kernel
theorem dX11_worth_5 : decode cX11_worth 5 = .ok (.invokevirtual 210, 3) := by decide +kernel
theorem dX11_worth_8 : decode cX11_worth 8 = .ok (.ifCond .eq 14, 3) := by decide +kernel
theorem dX11_worth_11 : decode cX11_worth 11 = .ok (.aload_n 0, 1) := by decide +kernel
theorem dX11_worth_12 : decode cX11_worth 12 = .ok (.getfield 19, 3) := by decide +kernel
theorem dX11_worth_15 : decode cX11_worth 15 = .ok (.iload_n 2, 1) := by decide +kernel
theorem dX11_worth_16 : decode cX11_worth 16 = .ok (.invokevirtual 185, 3) := by decide +kernel
theorem dX11_worth_19 : decode cX11_worth 19 = .ok (.ifCond .ne 6, 3) := by decide +kernel
theorem dX11_worth_22 : decode cX11_worth 22 = .ok (.bipush (-99), 2) := by decide +kernel
theorem dX11_worth_24 : decode cX11_worth 24 = .ok (.ireturn, 1) := by decide +kernel
theorem dX11_worth_25 : decode cX11_worth 25 = .ok (.aload_n 0, 1) := by decide +kernel
theorem dX11_worth_26 : decode cX11_worth 26 = .ok (.getfield 53, 3) := by decide +kernel
theorem dX11_worth_29 : decode cX11_worth 29 = .ok (.iload_n 2, 1) := by decide +kernel
theorem dX11_worth_30 : decode cX11_worth 30 = .ok (.aload_n 0, 1) := by decide +kernel
theorem dX11_worth_31 : decode cX11_worth 31 = .ok (.getfield 87, 3) := by decide +kernel
theorem dX11_worth_34 : decode cX11_worth 34 = .ok (.invokevirtual 213, 3) := by decide +kernel
theorem dX11_worth_37 : decode cX11_worth 37 = .ok (.aload_n 0, 1) := by decide +kernel
theorem dX11_worth_38 : decode cX11_worth 38 = .ok (.getfield 53, 3) := by decide +kernel
theorem dX11_worth_41 : decode cX11_worth 41 = .ok (.iload_n 1, 1) := by decide +kernel
theorem dX11_worth_42 : decode cX11_worth 42 = .ok (.iload_n 2, 1) := by decide +kernel
theorem dX11_worth_43 : decode cX11_worth 43 = .ok (.invokevirtual 217, 3) := by decide +kernel
theorem dX11_worth_46 : decode cX11_worth 46 = .ok (.ireturn, 1) := by decide +kernel
theorem dX11_heard_0 : decode cX11_heard 0 = .ok (.aload_n 0, 1) := by decide +kernel
theorem dX11_heard_1 : decode cX11_heard 1 = .ok (.getfield 53, 3) := by decide +kernel
theorem dX11_heard_4 : decode cX11_heard 4 = .ok (.iload_n 1, 1) := by decide +kernel
theorem dX11_heard_5 : decode cX11_heard 5 = .ok (.invokevirtual 210, 3) := by decide +kernel
theorem dX11_heard_8 : decode cX11_heard 8 = .ok (.ifCond .eq 14, 3) := by decide +kernel
theorem dX11_heard_11 : decode cX11_heard 11 = .ok (.aload_n 0, 1) := by decide +kernel
theorem dX11_heard_12 : decode cX11_heard 12 = .ok (.getfield 10, 3) := by decide +kernel
theorem dX11_heard_15 : decode cX11_heard 15 = .ok (.iload_n 2, 1) := by decide +kernel
theorem dX11_heard_16 : decode cX11_heard 16 = .ok (.invokevirtual 220, 3) := by decide +kernel
theorem dX11_heard_19 : decode cX11_heard 19 = .ok (.ifCond .ne 6, 3) := by decide +kernel
theorem dX11_heard_22 : decode cX11_heard 22 = .ok (.bipush (-99), 2) := by decide +kernel
theorem dX11_heard_24 : decode cX11_heard 24 = .ok (.ireturn, 1) := by decide +kernel
theorem dX11_heard_25 : decode cX11_heard 25 = .ok (.aload_n 0, 1) := by decide +kernel
theorem dX11_heard_26 : decode cX11_heard 26 = .ok (.getfield 53, 3) := by decide +kernel
theorem dX11_heard_29 : decode cX11_heard 29 = .ok (.getfield 223, 3) := by decide +kernel
theorem dX11_heard_32 : decode cX11_heard 32 = .ok (.iload_n 1, 1) := by decide +kernel
theorem dX11_heard_33 : decode cX11_heard 33 = .ok (.aaload, 1) := by decide +kernel
theorem dX11_heard_34 : decode cX11_heard 34 = .ok (.iload_n 2, 1) := by decide +kernel
theorem dX11_heard_35 : decode cX11_heard 35 = .ok (.iaload, 1) := by decide +kernel
theorem dX11_heard_36 : decode cX11_heard 36 = .ok (.ireturn, 1) := by decide +kernel
theorem dX11_weeks_0 : decode cX11_weeks 0 = .ok (.iload_n 1, 1) := by decide +kernel
theorem dX11_weeks_1 : decode cX11_weeks 1 = .ok (.iconst 1, 1) := by decide +kernel
theorem dX11_weeks_2 : decode cX11_weeks 2 = .ok (.bipush 20, 2) := by decide +kernel
theorem dX11_weeks_4 : decode cX11_weeks 4 = .ok (.invokestatic 102, 3) := by decide +kernel
theorem dX11_weeks_7 : decode cX11_weeks 7 = .ok (.ifCond .eq 15, 3) := by decide +kernel
theorem dX11_weeks_10 : decode cX11_weeks 10 = .ok (.aload_n 0, 1) := by decide +kernel
theorem dX11_weeks_11 : decode cX11_weeks 11 = .ok (.getfield 87, 3) := by decide +kernel
theorem dX11_weeks_14 : decode cX11_weeks 14 = .ok (.iload_n 1, 1) := by decide +kernel
theorem dX11_weeks_15 : decode cX11_weeks 15 = .ok (.iadd, 1) := by decide +kernel
theorem dX11_weeks_16 : decode cX11_weeks 16 = .ok (.sipush 199, 3) := by decide +kernel
theorem dX11_weeks_19 : decode cX11_weeks 19 = .ok (.if_icmp .le 5, 3) := by decide +kernel
theorem dX11_weeks_22 : decode cX11_weeks 22 = .ok (.iconst (-1), 1) := by decide +kernel
theorem dX11_weeks_23 : decode cX11_weeks 23 = .ok (.ireturn, 1) := by decide +kernel
theorem dX11_weeks_24 : decode cX11_weeks 24 = .ok (.iconst 0, 1) := by decide +kernel
theorem dX11_weeks_25 : decode cX11_weeks 25 = .ok (.istore_n 2, 1) := by decide +kernel
theorem dX11_weeks_26 : decode cX11_weeks 26 = .ok (.iload_n 2, 1) := by decide +kernel
theorem dX11_weeks_27 : decode cX11_weeks 27 = .ok (.iload_n 1, 1) := by decide +kernel
theorem dX11_weeks_28 : decode cX11_weeks 28 = .ok (.if_icmp .ge 30, 3) := by decide +kernel
theorem dX11_weeks_31 : decode cX11_weeks 31 = .ok (.aload_n 0, 1) := by decide +kernel
theorem dX11_weeks_32 : decode cX11_weeks 32 = .ok (.getfield 53, 3) := by decide +kernel
theorem dX11_weeks_35 : decode cX11_weeks 35 = .ok (.aload_n 0, 1) := by decide +kernel
theorem dX11_weeks_36 : decode cX11_weeks 36 = .ok (.getfield 87, 3) := by decide +kernel
theorem dX11_weeks_39 : decode cX11_weeks 39 = .ok (.invokevirtual 227, 3) := by decide +kernel
theorem dX11_weeks_42 : decode cX11_weeks 42 = .ok (.aload_n 0, 1) := by decide +kernel
theorem dX11_weeks_43 : decode cX11_weeks 43 = .ok (.dup, 1) := by decide +kernel
theorem dX11_weeks_44 : decode cX11_weeks 44 = .ok (.getfield 87, 3) := by decide +kernel
theorem dX11_weeks_47 : decode cX11_weeks 47 = .ok (.iconst 1, 1) := by decide +kernel
theorem dX11_weeks_48 : decode cX11_weeks 48 = .ok (.iadd, 1) := by decide +kernel
theorem dX11_weeks_49 : decode cX11_weeks 49 = .ok (.putfield 87, 3) := by decide +kernel
theorem dX11_weeks_52 : decode cX11_weeks 52 = .ok (.iinc 2 1, 3) := by decide +kernel
theorem dX11_weeks_55 : decode cX11_weeks 55 = .ok (.goto (-29), 3) := by decide +kernel
theorem dX11_weeks_58 : decode cX11_weeks 58 = .ok (.aload_n 0, 1) := by decide +kernel
theorem dX11_weeks_59 : decode cX11_weeks 59 = .ok (.getfield 87, 3) := by decide +kernel
theorem dX11_weeks_62 : decode cX11_weeks 62 = .ok (.ireturn, 1) := by decide +kernel
theorem dX11_of_0 : decode cX11_of 0 = .ok (.aload_n 0, 1) := by decide +kernel
theorem dX11_of_1 : decode cX11_of 1 = .ok (.getfield 19, 3) := by decide +kernel
theorem dX11_of_4 : decode cX11_of 4 = .ok (.iload_n 1, 1) := by decide +kernel
theorem dX11_of_5 : decode cX11_of 5 = .ok (.iload_n 2, 1) := by decide +kernel
theorem dX11_of_6 : decode cX11_of 6 = .ok (.invokevirtual 231, 3) := by decide +kernel
theorem dX11_of_9 : decode cX11_of 9 = .ok (.lreturn, 1) := by decide +kernel
theorem dX11_at_0 : decode cX11_at 0 = .ok (.aload_n 0, 1) := by decide +kernel
theorem dX11_at_1 : decode cX11_at 1 = .ok (.getfield 10, 3) := by decide +kernel
theorem dX11_at_4 : decode cX11_at 4 = .ok (.iload_n 1, 1) := by decide +kernel
theorem dX11_at_5 : decode cX11_at 5 = .ok (.iload_n 2, 1) := by decide +kernel
theorem dX11_at_6 : decode cX11_at 6 = .ok (.invokevirtual 234, 3) := by decide +kernel
theorem dX11_at_9 : decode cX11_at 9 = .ok (.ireturn, 1) := by decide +kernel
theorem dX11_version_0 : decode cX11_version 0 = .ok (.aload_n 0, 1) := by decide +kernel
theorem dX11_version_1 : decode cX11_version 1 = .ok (.getfield 60, 3) := by decide +kernel
theorem dX11_version_4 : decode cX11_version 4 = .ok (.iload_n 1, 1) := by decide +kernel
theorem dX11_version_5 : decode cX11_version 5 = .ok (.invokevirtual 237, 3) := by decide +kernel
theorem dX11_version_8 : decode cX11_version 8 = .ok (.ireturn, 1) := by decide +kernel
theorem dX11_change_0 : decode cX11_change 0 = .ok (.aload_n 0, 1) := by decide +kernel
theorem dX11_change_1 : decode cX11_change 1 = .ok (.getfield 60, 3) := by decide +kernel
theorem dX11_change_4 : decode cX11_change 4 = .ok (.iload_n 1, 1) := by decide +kernel
theorem dX11_change_5 : decode cX11_change 5 = .ok (.iload_n 2, 1) := by decide +kernel
theorem dX11_change_6 : decode cX11_change 6 = .ok (.iload_n 3, 1) := by decide +kernel
theorem dX11_change_7 : decode cX11_change 7 = .ok (.invokevirtual 240, 3) := by decide +kernel
theorem dX11_change_10 : decode cX11_change 10 = .ok (.ireturn, 1) := by decide +kernel
theorem dX11_stage_0 : decode cX11_stage 0 = .ok (.aload_n 0, 1) := by decide +kernel
theorem dX11_stage_1 : decode cX11_stage 1 = .ok (.getfield 60, 3) := by decide +kernel
theorem dX11_stage_4 : decode cX11_stage 4 = .ok (.iload_n 1, 1) := by decide +kernel
theorem dX11_stage_5 : decode cX11_stage 5 = .ok (.iload_n 2, 1) := by decide +kernel
theorem dX11_stage_6 : decode cX11_stage 6 = .ok (.invokevirtual 243, 3) := by decide +kernel
theorem dX11_stage_9 : decode cX11_stage 9 = .ok (.ireturn, 1) := by decide +kernel
theorem dX11_person_0 : decode cX11_person 0 = .ok (.aload_n 0, 1) := by decide +kernel
theorem dX11_person_1 : decode cX11_person 1 = .ok (.getfield 60, 3) := by decide +kernel
theorem dX11_person_4 : decode cX11_person 4 = .ok (.iload_n 1, 1) := by decide +kernel
theorem dX11_person_5 : decode cX11_person 5 = .ok (.iload_n 2, 1) := by decide +kernel
theorem dX11_person_6 : decode cX11_person 6 = .ok (.invokevirtual 246, 3) := by decide +kernel
theorem dX11_person_9 : decode cX11_person 9 = .ok (.ireturn, 1) := by decide +kernel
theorem dX11_faces_0 : decode cX11_faces 0 = .ok (.iload_n 3, 1) := by decide +kernel
theorem dX11_faces_1 : decode cX11_faces 1 = .ok (.iconst 0, 1) := by decide +kernel
theorem dX11_faces_2 : decode cX11_faces 2 = .ok (.iconst 2, 1) := by decide +kernel
theorem dX11_faces_3 : decode cX11_faces 3 = .ok (.invokestatic 102, 3) := by decide +kernel
theorem dX11_faces_6 : decode cX11_faces 6 = .ok (.ifCond .eq 15, 3) := by decide +kernel
theorem dX11_faces_9 : decode cX11_faces 9 = .ok (.aload_n 0, 1) := by decide +kernel
theorem dX11_faces_10 : decode cX11_faces 10 = .ok (.getfield 60, 3) := by decide +kernel
theorem dX11_faces_13 : decode cX11_faces 13 = .ok (.iload_n 1, 1) := by decide +kernel
theorem dX11_faces_14 : decode cX11_faces 14 = .ok (.iload_n 2, 1) := by decide +kernel
theorem dX11_faces_15 : decode cX11_faces 15 = .ok (.invokevirtual 249, 3) := by decide +kernel
theorem dX11_faces_18 : decode cX11_faces 18 = .ok (.ifCond .ne 5, 3) := by decide +kernel
theorem dX11_faces_21 : decode cX11_faces 21 = .ok (.iconst (-1), 1) := by decide +kernel
theorem dX11_faces_22 : decode cX11_faces 22 = .ok (.ireturn, 1) := by decide +kernel
theorem dX11_faces_23 : decode cX11_faces 23 = .ok (.iload_n 3, 1) := by decide +kernel
theorem dX11_faces_24 : decode cX11_faces 24 = .ok (.ifCond .ne 11, 3) := by decide +kernel
theorem dX11_faces_27 : decode cX11_faces 27 = .ok (.aload_n 0, 1) := by decide +kernel
theorem dX11_faces_28 : decode cX11_faces 28 = .ok (.getfield 60, 3) := by decide +kernel
theorem dX11_faces_31 : decode cX11_faces 31 = .ok (.getfield 252, 3) := by decide +kernel
theorem dX11_faces_34 : decode cX11_faces 34 = .ok (.ireturn, 1) := by decide +kernel
theorem dX11_faces_35 : decode cX11_faces 35 = .ok (.iload_n 3, 1) := by decide +kernel
theorem dX11_faces_36 : decode cX11_faces 36 = .ok (.iconst 1, 1) := by decide +kernel
theorem dX11_faces_37 : decode cX11_faces 37 = .ok (.if_icmp .ne 13, 3) := by decide +kernel
theorem dX11_faces_40 : decode cX11_faces 40 = .ok (.aload_n 0, 1) := by decide +kernel
theorem dX11_faces_41 : decode cX11_faces 41 = .ok (.getfield 60, 3) := by decide +kernel
theorem dX11_faces_44 : decode cX11_faces 44 = .ok (.getfield 255, 3) := by decide +kernel
theorem dX11_faces_47 : decode cX11_faces 47 = .ok (.goto 10, 3) := by decide +kernel
theorem dX11_faces_50 : decode cX11_faces 50 = .ok (.aload_n 0, 1) := by decide +kernel
theorem dX11_faces_51 : decode cX11_faces 51 = .ok (.getfield 60, 3) := by decide +kernel
theorem dX11_faces_54 : decode cX11_faces 54 = .ok (.getfield 258, 3) := by decide +kernel
theorem dX11_faces_57 : decode cX11_faces 57 = .ok (.ireturn, 1) := by decide +kernel
theorem dX11_needs_0 : decode cX11_needs 0 = .ok (.aload_n 0, 1) := by decide +kernel
theorem dX11_needs_1 : decode cX11_needs 1 = .ok (.getfield 69, 3) := by decide +kernel
theorem dX11_needs_4 : decode cX11_needs 4 = .ok (.iload_n 1, 1) := by decide +kernel
theorem dX11_needs_5 : decode cX11_needs 5 = .ok (.iload_n 2, 1) := by decide +kernel
theorem dX11_needs_6 : decode cX11_needs 6 = .ok (.iload_n 3, 1) := by decide +kernel
theorem dX11_needs_7 : decode cX11_needs 7 = .ok (.invokevirtual 261, 3) := by decide +kernel
theorem dX11_needs_10 : decode cX11_needs 10 = .ok (.ireturn, 1) := by decide +kernel
theorem dX11_wire_0 : decode cX11_wire 0 = .ok (.aload_n 0, 1) := by decide +kernel
theorem dX11_wire_1 : decode cX11_wire 1 = .ok (.getfield 69, 3) := by decide +kernel
theorem dX11_wire_4 : decode cX11_wire 4 = .ok (.iload_n 1, 1) := by decide +kernel
theorem dX11_wire_5 : decode cX11_wire 5 = .ok (.iload_n 2, 1) := by decide +kernel
theorem dX11_wire_6 : decode cX11_wire 6 = .ok (.invokevirtual 262, 3) := by decide +kernel
theorem dX11_wire_9 : decode cX11_wire 9 = .ok (.ireturn, 1) := by decide +kernel
theorem dX11_owe_0 : decode cX11_owe 0 = .ok (.aload_n 0, 1) := by decide +kernel
theorem dX11_owe_1 : decode cX11_owe 1 = .ok (.getfield 76, 3) := by decide +kernel
theorem dX11_owe_4 : decode cX11_owe 4 = .ok (.iload_n 1, 1) := by decide +kernel
theorem dX11_owe_5 : decode cX11_owe 5 = .ok (.iload_n 2, 1) := by decide +kernel
theorem dX11_owe_6 : decode cX11_owe 6 = .ok (.iload_n 3, 1) := by decide +kernel
theorem dX11_owe_7 : decode cX11_owe 7 = .ok (.invokevirtual 263, 3) := by decide +kernel
theorem dX11_owe_10 : decode cX11_owe 10 = .ok (.ireturn, 1) := by decide +kernel
theorem dX11_purse_0 : decode cX11_purse 0 = .ok (.aload_n 0, 1) := by decide +kernel
theorem dX11_purse_1 : decode cX11_purse 1 = .ok (.getfield 76, 3) := by decide +kernel
theorem dX11_purse_4 : decode cX11_purse 4 = .ok (.iload_n 1, 1) := by decide +kernel
theorem dX11_purse_5 : decode cX11_purse 5 = .ok (.iload_n 2, 1) := by decide +kernel
theorem dX11_purse_6 : decode cX11_purse 6 = .ok (.invokevirtual 266, 3) := by decide +kernel
theorem dX11_purse_9 : decode cX11_purse 9 = .ok (.ireturn, 1) := by decide +kernel
theorem dX11_clear_0 : decode cX11_clear 0 = .ok (.iload_n 1, 1) := by decide +kernel
theorem dX11_clear_1 : decode cX11_clear 1 = .ok (.iconst 0, 1) := by decide +kernel
theorem dX11_clear_2 : decode cX11_clear 2 = .ok (.bipush 100, 2) := by decide +kernel
theorem dX11_clear_4 : decode cX11_clear 4 = .ok (.invokestatic 102, 3) := by decide +kernel
theorem dX11_clear_7 : decode cX11_clear 7 = .ok (.ifCond .eq 22, 3) := by decide +kernel
theorem dX11_clear_10 : decode cX11_clear 10 = .ok (.iload_n 2, 1) := by decide +kernel
theorem dX11_clear_11 : decode cX11_clear 11 = .ok (.iconst 0, 1) := by decide +kernel
theorem dX11_clear_12 : decode cX11_clear 12 = .ok (.bipush 19, 2) := by decide +kernel
theorem dX11_clear_14 : decode cX11_clear 14 = .ok (.invokestatic 102, 3) := by decide +kernel
theorem dX11_clear_17 : decode cX11_clear 17 = .ok (.ifCond .eq 12, 3) := by decide +kernel
theorem dX11_clear_20 : decode cX11_clear 20 = .ok (.iload_n 3, 1) := by decide +kernel
theorem dX11_clear_21 : decode cX11_clear 21 = .ok (.iconst 0, 1) := by decide +kernel
theorem dX11_clear_22 : decode cX11_clear 22 = .ok (.iconst 3, 1) := by decide +kernel
theorem dX11_clear_23 : decode cX11_clear 23 = .ok (.invokestatic 102, 3) := by decide +kernel
theorem dX11_clear_26 : decode cX11_clear 26 = .ok (.ifCond .ne 7, 3) := by decide +kernel
theorem dX11_clear_29 : decode cX11_clear 29 = .ok (.ldc2_w 269, 3) := by decide +kernel
theorem dX11_clear_32 : decode cX11_clear 32 = .ok (.lreturn, 1) := by decide +kernel
theorem dX11_clear_33 : decode cX11_clear 33 = .ok (.aload_n 0, 1) := by decide +kernel
theorem dX11_clear_34 : decode cX11_clear 34 = .ok (.getfield 76, 3) := by decide +kernel
theorem dX11_clear_37 : decode cX11_clear 37 = .ok (.iload_n 1, 1) := by decide +kernel
theorem dX11_clear_38 : decode cX11_clear 38 = .ok (.invokevirtual 271, 3) := by decide +kernel
theorem dX11_clear_41 : decode cX11_clear 41 = .ok (.iload_n 3, 1) := by decide +kernel
theorem dX11_clear_42 : decode cX11_clear 42 = .ok (.tableswitch 74 0 2 #[26, 36, 46], 26) := by decide +kernel
theorem dX11_clear_68 : decode cX11_clear 68 = .ok (.aload_n 0, 1) := by decide +kernel
theorem dX11_clear_69 : decode cX11_clear 69 = .ok (.getfield 76, 3) := by decide +kernel
theorem dX11_clear_72 : decode cX11_clear 72 = .ok (.getfield 274, 3) := by decide +kernel
theorem dX11_clear_75 : decode cX11_clear 75 = .ok (.iload_n 2, 1) := by decide +kernel
theorem dX11_clear_76 : decode cX11_clear 76 = .ok (.laload, 1) := by decide +kernel
theorem dX11_clear_77 : decode cX11_clear 77 = .ok (.lreturn, 1) := by decide +kernel
theorem dX11_clear_78 : decode cX11_clear 78 = .ok (.aload_n 0, 1) := by decide +kernel
theorem dX11_clear_79 : decode cX11_clear 79 = .ok (.getfield 76, 3) := by decide +kernel
theorem dX11_clear_82 : decode cX11_clear 82 = .ok (.getfield 278, 3) := by decide +kernel
theorem dX11_clear_85 : decode cX11_clear 85 = .ok (.iload_n 2, 1) := by decide +kernel
theorem dX11_clear_86 : decode cX11_clear 86 = .ok (.laload, 1) := by decide +kernel
theorem dX11_clear_87 : decode cX11_clear 87 = .ok (.lreturn, 1) := by decide +kernel
theorem dX11_clear_88 : decode cX11_clear 88 = .ok (.aload_n 0, 1) := by decide +kernel
theorem dX11_clear_89 : decode cX11_clear 89 = .ok (.getfield 76, 3) := by decide +kernel
theorem dX11_clear_92 : decode cX11_clear 92 = .ok (.getfield 274, 3) := by decide +kernel
theorem dX11_clear_95 : decode cX11_clear 95 = .ok (.iload_n 2, 1) := by decide +kernel
theorem dX11_clear_96 : decode cX11_clear 96 = .ok (.laload, 1) := by decide +kernel
theorem dX11_clear_97 : decode cX11_clear 97 = .ok (.aload_n 0, 1) := by decide +kernel
theorem dX11_clear_98 : decode cX11_clear 98 = .ok (.getfield 76, 3) := by decide +kernel
theorem dX11_clear_101 : decode cX11_clear 101 = .ok (.getfield 281, 3) := by decide +kernel
theorem dX11_clear_104 : decode cX11_clear 104 = .ok (.iload_n 2, 1) := by decide +kernel
theorem dX11_clear_105 : decode cX11_clear 105 = .ok (.laload, 1) := by decide +kernel
theorem dX11_clear_106 : decode cX11_clear 106 = .ok (.lcmp, 1) := by decide +kernel
theorem dX11_clear_107 : decode cX11_clear 107 = .ok (.ifCond .ge 7, 3) := by decide +kernel
theorem dX11_clear_110 : decode cX11_clear 110 = .ok (.lconst 1, 1) := by decide +kernel
theorem dX11_clear_111 : decode cX11_clear 111 = .ok (.goto 4, 3) := by decide +kernel
theorem dX11_clear_114 : decode cX11_clear 114 = .ok (.lconst 0, 1) := by decide +kernel
theorem dX11_clear_115 : decode cX11_clear 115 = .ok (.lreturn, 1) := by decide +kernel
theorem dX11_clear_116 : decode cX11_clear 116 = .ok (.aload_n 0, 1) := by decide +kernel
theorem dX11_clear_117 : decode cX11_clear 117 = .ok (.getfield 76, 3) := by decide +kernel
theorem dX11_clear_120 : decode cX11_clear 120 = .ok (.getfield 284, 3) := by decide +kernel
theorem dX11_clear_123 : decode cX11_clear 123 = .ok (.i2l, 1) := by decide +kernel
theorem dX11_clear_124 : decode cX11_clear 124 = .ok (.lreturn, 1) := by decide +kernel
theorem dX11_clause_0 : decode cX11_clause 0 = .ok (.aload_n 0, 1) := by decide +kernel
theorem dX11_clause_1 : decode cX11_clause 1 = .ok (.getfield 83, 3) := by decide +kernel
theorem dX11_clause_4 : decode cX11_clause 4 = .ok (.iload_n 1, 1) := by decide +kernel
theorem dX11_clause_5 : decode cX11_clause 5 = .ok (.iload_n 2, 1) := by decide +kernel
theorem dX11_clause_6 : decode cX11_clause 6 = .ok (.iload_n 3, 1) := by decide +kernel
theorem dX11_clause_7 : decode cX11_clause 7 = .ok (.invokevirtual 287, 3) := by decide +kernel
theorem dX11_clause_10 : decode cX11_clause 10 = .ok (.ireturn, 1) := by decide +kernel
theorem dX11_stand_0 : decode cX11_stand 0 = .ok (.aload_n 0, 1) := by decide +kernel
theorem dX11_stand_1 : decode cX11_stand 1 = .ok (.getfield 83, 3) := by decide +kernel
theorem dX11_stand_4 : decode cX11_stand 4 = .ok (.iload_n 1, 1) := by decide +kernel
theorem dX11_stand_5 : decode cX11_stand 5 = .ok (.iload_n 2, 1) := by decide +kernel
theorem dX11_stand_6 : decode cX11_stand 6 = .ok (.invokevirtual 290, 3) := by decide +kernel
theorem dX11_stand_9 : decode cX11_stand 9 = .ok (.ireturn, 1) := by decide +kernel
theorem dX11_pool_0 : decode cX11_pool 0 = .ok (.aload_n 0, 1) := by decide +kernel
theorem dX11_pool_1 : decode cX11_pool 1 = .ok (.getfield 83, 3) := by decide +kernel
theorem dX11_pool_4 : decode cX11_pool 4 = .ok (.invokevirtual 293, 3) := by decide +kernel
theorem dX11_pool_7 : decode cX11_pool 7 = .ok (.iload_n 1, 1) := by decide +kernel
theorem dX11_pool_8 : decode cX11_pool 8 = .ok (.tableswitch 126 0 12 #[68, 76, 84, 126, 126, 126, 126, 126, 126, 126, 92, 92, 92], 68) := by decide +kernel
theorem dX11_pool_76 : decode cX11_pool 76 = .ok (.aload_n 0, 1) := by decide +kernel
theorem dX11_pool_77 : decode cX11_pool 77 = .ok (.getfield 83, 3) := by decide +kernel
theorem dX11_pool_80 : decode cX11_pool 80 = .ok (.getfield 296, 3) := by decide +kernel
theorem dX11_pool_83 : decode cX11_pool 83 = .ok (.ireturn, 1) := by decide +kernel
theorem dX11_pool_84 : decode cX11_pool 84 = .ok (.aload_n 0, 1) := by decide +kernel
theorem dX11_pool_85 : decode cX11_pool 85 = .ok (.getfield 83, 3) := by decide +kernel
theorem dX11_pool_88 : decode cX11_pool 88 = .ok (.getfield 299, 3) := by decide +kernel
theorem dX11_pool_91 : decode cX11_pool 91 = .ok (.ireturn, 1) := by decide +kernel
theorem dX11_pool_92 : decode cX11_pool 92 = .ok (.aload_n 0, 1) := by decide +kernel
theorem dX11_pool_93 : decode cX11_pool 93 = .ok (.getfield 83, 3) := by decide +kernel
theorem dX11_pool_96 : decode cX11_pool 96 = .ok (.getfield 302, 3) := by decide +kernel
theorem dX11_pool_99 : decode cX11_pool 99 = .ok (.ireturn, 1) := by decide +kernel
theorem dX11_pool_100 : decode cX11_pool 100 = .ok (.aload_n 0, 1) := by decide +kernel
theorem dX11_pool_101 : decode cX11_pool 101 = .ok (.getfield 83, 3) := by decide +kernel
theorem dX11_pool_104 : decode cX11_pool 104 = .ok (.getfield 296, 3) := by decide +kernel
theorem dX11_pool_107 : decode cX11_pool 107 = .ok (.iconst (-1), 1) := by decide +kernel
theorem dX11_pool_108 : decode cX11_pool 108 = .ok (.if_icmp .ne 7, 3) := by decide +kernel
theorem dX11_pool_111 : decode cX11_pool 111 = .ok (.iconst 0, 1) := by decide +kernel
theorem dX11_pool_112 : decode cX11_pool 112 = .ok (.goto 21, 3) := by decide +kernel
theorem dX11_pool_115 : decode cX11_pool 115 = .ok (.aload_n 0, 1) := by decide +kernel
theorem dX11_pool_116 : decode cX11_pool 116 = .ok (.getfield 83, 3) := by decide +kernel
theorem dX11_pool_119 : decode cX11_pool 119 = .ok (.iload_n 1, 1) := by decide +kernel
theorem dX11_pool_120 : decode cX11_pool 120 = .ok (.bipush 10, 2) := by decide +kernel
theorem dX11_pool_122 : decode cX11_pool 122 = .ok (.isub, 1) := by decide +kernel
theorem dX11_pool_123 : decode cX11_pool 123 = .ok (.aload_n 0, 1) := by decide +kernel
theorem dX11_pool_124 : decode cX11_pool 124 = .ok (.getfield 83, 3) := by decide +kernel
theorem dX11_pool_127 : decode cX11_pool 127 = .ok (.getfield 296, 3) := by decide +kernel
theorem dX11_pool_130 : decode cX11_pool 130 = .ok (.invokevirtual 305, 3) := by decide +kernel
theorem dX11_pool_133 : decode cX11_pool 133 = .ok (.ireturn, 1) := by decide +kernel
theorem dX11_pool_134 : decode cX11_pool 134 = .ok (.iconst (-1), 1) := by decide +kernel
theorem dX11_pool_135 : decode cX11_pool 135 = .ok (.ireturn, 1) := by decide +kernel
theorem dX11_look_0 : decode cX11_look 0 = .ok (.iload_n 1, 1) := by decide +kernel
theorem dX11_look_1 : decode cX11_look 1 = .ok (.tableswitch 155 0 10 #[59, 65, 74, 83, 92, 101, 110, 119, 128, 137, 146], 59) := by decide +kernel
theorem dX11_look_60 : decode cX11_look 60 = .ok (.aload_n 0, 1) := by decide +kernel
theorem dX11_look_61 : decode cX11_look 61 = .ok (.getfield 87, 3) := by decide +kernel
theorem dX11_look_64 : decode cX11_look 64 = .ok (.i2l, 1) := by decide +kernel
theorem dX11_look_65 : decode cX11_look 65 = .ok (.lreturn, 1) := by decide +kernel
theorem dX11_look_66 : decode cX11_look 66 = .ok (.aload_n 0, 1) := by decide +kernel
theorem dX11_look_67 : decode cX11_look 67 = .ok (.getfield 10, 3) := by decide +kernel
theorem dX11_look_70 : decode cX11_look 70 = .ok (.getfield 308, 3) := by decide +kernel
theorem dX11_look_73 : decode cX11_look 73 = .ok (.i2l, 1) := by decide +kernel
theorem dX11_look_74 : decode cX11_look 74 = .ok (.lreturn, 1) := by decide +kernel
theorem dX11_look_75 : decode cX11_look 75 = .ok (.aload_n 0, 1) := by decide +kernel
theorem dX11_look_76 : decode cX11_look 76 = .ok (.getfield 10, 3) := by decide +kernel
theorem dX11_look_79 : decode cX11_look 79 = .ok (.getfield 311, 3) := by decide +kernel
theorem dX11_look_82 : decode cX11_look 82 = .ok (.i2l, 1) := by decide +kernel
theorem dX11_look_83 : decode cX11_look 83 = .ok (.lreturn, 1) := by decide +kernel
theorem dX11_look_84 : decode cX11_look 84 = .ok (.aload_n 0, 1) := by decide +kernel
theorem dX11_look_85 : decode cX11_look 85 = .ok (.getfield 10, 3) := by decide +kernel
theorem dX11_look_88 : decode cX11_look 88 = .ok (.getfield 314, 3) := by decide +kernel
theorem dX11_look_91 : decode cX11_look 91 = .ok (.i2l, 1) := by decide +kernel
theorem dX11_look_92 : decode cX11_look 92 = .ok (.lreturn, 1) := by decide +kernel
theorem dX11_look_93 : decode cX11_look 93 = .ok (.aload_n 0, 1) := by decide +kernel
theorem dX11_look_94 : decode cX11_look 94 = .ok (.getfield 19, 3) := by decide +kernel
theorem dX11_look_97 : decode cX11_look 97 = .ok (.getfield 317, 3) := by decide +kernel
theorem dX11_look_100 : decode cX11_look 100 = .ok (.i2l, 1) := by decide +kernel
theorem dX11_look_101 : decode cX11_look 101 = .ok (.lreturn, 1) := by decide +kernel
theorem dX11_look_102 : decode cX11_look 102 = .ok (.aload_n 0, 1) := by decide +kernel
theorem dX11_look_103 : decode cX11_look 103 = .ok (.getfield 19, 3) := by decide +kernel
theorem dX11_look_106 : decode cX11_look 106 = .ok (.getfield 320, 3) := by decide +kernel
theorem dX11_look_109 : decode cX11_look 109 = .ok (.i2l, 1) := by decide +kernel
theorem dX11_look_110 : decode cX11_look 110 = .ok (.lreturn, 1) := by decide +kernel
theorem dX11_look_111 : decode cX11_look 111 = .ok (.aload_n 0, 1) := by decide +kernel
theorem dX11_look_112 : decode cX11_look 112 = .ok (.getfield 53, 3) := by decide +kernel
theorem dX11_look_115 : decode cX11_look 115 = .ok (.getfield 323, 3) := by decide +kernel
theorem dX11_look_118 : decode cX11_look 118 = .ok (.i2l, 1) := by decide +kernel
theorem dX11_look_119 : decode cX11_look 119 = .ok (.lreturn, 1) := by decide +kernel
theorem dX11_look_120 : decode cX11_look 120 = .ok (.aload_n 0, 1) := by decide +kernel
theorem dX11_look_121 : decode cX11_look 121 = .ok (.getfield 19, 3) := by decide +kernel
theorem dX11_look_124 : decode cX11_look 124 = .ok (.invokevirtual 325, 3) := by decide +kernel
theorem dX11_look_127 : decode cX11_look 127 = .ok (.i2l, 1) := by decide +kernel
theorem dX11_look_128 : decode cX11_look 128 = .ok (.lreturn, 1) := by decide +kernel
theorem dX11_look_129 : decode cX11_look 129 = .ok (.aload_n 0, 1) := by decide +kernel
theorem dX11_look_130 : decode cX11_look 130 = .ok (.getfield 19, 3) := by decide +kernel
theorem dX11_look_133 : decode cX11_look 133 = .ok (.invokevirtual 329, 3) := by decide +kernel
theorem dX11_look_136 : decode cX11_look 136 = .ok (.i2l, 1) := by decide +kernel
theorem dX11_look_137 : decode cX11_look 137 = .ok (.lreturn, 1) := by decide +kernel
theorem dX11_look_138 : decode cX11_look 138 = .ok (.aload_n 0, 1) := by decide +kernel
theorem dX11_look_139 : decode cX11_look 139 = .ok (.getfield 10, 3) := by decide +kernel
theorem dX11_look_142 : decode cX11_look 142 = .ok (.invokevirtual 332, 3) := by decide +kernel
theorem dX11_look_145 : decode cX11_look 145 = .ok (.i2l, 1) := by decide +kernel
theorem dX11_look_146 : decode cX11_look 146 = .ok (.lreturn, 1) := by decide +kernel
theorem dX11_look_147 : decode cX11_look 147 = .ok (.aload_n 0, 1) := by decide +kernel
theorem dX11_look_148 : decode cX11_look 148 = .ok (.getfield 44, 3) := by decide +kernel
theorem dX11_look_151 : decode cX11_look 151 = .ok (.invokevirtual 335, 3) := by decide +kernel
theorem dX11_look_154 : decode cX11_look 154 = .ok (.i2l, 1) := by decide +kernel
theorem dX11_look_155 : decode cX11_look 155 = .ok (.lreturn, 1) := by decide +kernel
theorem dX11_look_156 : decode cX11_look 156 = .ok (.ldc2_w 269, 3) := by decide +kernel
theorem dX11_look_159 : decode cX11_look 159 = .ok (.lreturn, 1) := by decide +kernel
theorem dX11_within_0 : decode cX11_within 0 = .ok (.iload_n 0, 1) := by decide +kernel
theorem dX11_within_1 : decode cX11_within 1 = .ok (.iload_n 1, 1) := by decide +kernel
theorem dX11_within_2 : decode cX11_within 2 = .ok (.if_icmp .lt 12, 3) := by decide +kernel
theorem dX11_within_5 : decode cX11_within 5 = .ok (.iload_n 0, 1) := by decide +kernel
theorem dX11_within_6 : decode cX11_within 6 = .ok (.iload_n 2, 1) := by decide +kernel
theorem dX11_within_7 : decode cX11_within 7 = .ok (.if_icmp .gt 7, 3) := by decide +kernel
theorem dX11_within_10 : decode cX11_within 10 = .ok (.iconst 1, 1) := by decide +kernel
theorem dX11_within_11 : decode cX11_within 11 = .ok (.goto 4, 3) := by decide +kernel
theorem dX11_within_14 : decode cX11_within 14 = .ok (.iconst 0, 1) := by decide +kernel
theorem dX11_within_15 : decode cX11_within 15 = .ok (.ireturn, 1) := by decide +kernel
theorem dX11_has_0 : decode cX11_has 0 = .ok (.iload_n 0, 1) := by decide +kernel
theorem dX11_has_1 : decode cX11_has 1 = .ok (.iload_n 1, 1) := by decide +kernel
theorem dX11_has_2 : decode cX11_has 2 = .ok (.ishr, 1) := by decide +kernel
theorem dX11_has_3 : decode cX11_has 3 = .ok (.iconst 1, 1) := by decide +kernel
theorem dX11_has_4 : decode cX11_has 4 = .ok (.iand, 1) := by decide +kernel
theorem dX11_has_5 : decode cX11_has 5 = .ok (.iconst 1, 1) := by decide +kernel
theorem dX11_has_6 : decode cX11_has 6 = .ok (.if_icmp .ne 7, 3) := by decide +kernel
theorem dX11_has_9 : decode cX11_has 9 = .ok (.iconst 1, 1) := by decide +kernel
theorem dX11_has_10 : decode cX11_has 10 = .ok (.goto 4, 3) := by decide +kernel
theorem dX11_has_13 : decode cX11_has 13 = .ok (.iconst 0, 1) := by decide +kernel
theorem dX11_has_14 : decode cX11_has 14 = .ok (.ireturn, 1) := by decide +kernel
theorem dX12_init_0 : decode cX12_init 0 = .ok (.aload_n 0, 1) := by decide +kernel
theorem dX12_init_1 : decode cX12_init 1 = .ok (.invokespecial 1, 3) := by decide +kernel
theorem dX12_init_4 : decode cX12_init 4 = .ok (.aload_n 0, 1) := by decide +kernel
theorem dX12_init_5 : decode cX12_init 5 = .ok (.bipush 12, 2) := by decide +kernel
theorem dX12_init_7 : decode cX12_init 7 = .ok (.newarray .int, 2) := by decide +kernel
theorem dX12_init_9 : decode cX12_init 9 = .ok (.putfield 7, 3) := by decide +kernel
theorem dX12_init_12 : decode cX12_init 12 = .ok (.aload_n 0, 1) := by decide +kernel
theorem dX12_init_13 : decode cX12_init 13 = .ok (.bipush 12, 2) := by decide +kernel
theorem dX12_init_15 : decode cX12_init 15 = .ok (.newarray .int, 2) := by decide +kernel
theorem dX12_init_17 : decode cX12_init 17 = .ok (.putfield 13, 3) := by decide +kernel
theorem dX12_init_20 : decode cX12_init 20 = .ok (.aload_n 0, 1) := by decide +kernel
theorem dX12_init_21 : decode cX12_init 21 = .ok (.bipush 12, 2) := by decide +kernel
theorem dX12_init_23 : decode cX12_init 23 = .ok (.newarray .int, 2) := by decide +kernel
theorem dX12_init_25 : decode cX12_init 25 = .ok (.putfield 16, 3) := by decide +kernel
theorem dX12_init_28 : decode cX12_init 28 = .ok (.aload_n 0, 1) := by decide +kernel
theorem dX12_init_29 : decode cX12_init 29 = .ok (.bipush 12, 2) := by decide +kernel
theorem dX12_init_31 : decode cX12_init 31 = .ok (.newarray .int, 2) := by decide +kernel
theorem dX12_init_33 : decode cX12_init 33 = .ok (.putfield 19, 3) := by decide +kernel
theorem dX12_init_36 : decode cX12_init 36 = .ok (.aload_n 0, 1) := by decide +kernel
theorem dX12_init_37 : decode cX12_init 37 = .ok (.bipush 12, 2) := by decide +kernel
theorem dX12_init_39 : decode cX12_init 39 = .ok (.newarray .int, 2) := by decide +kernel
theorem dX12_init_41 : decode cX12_init 41 = .ok (.putfield 22, 3) := by decide +kernel
theorem dX12_init_44 : decode cX12_init 44 = .ok (.aload_n 0, 1) := by decide +kernel
theorem dX12_init_45 : decode cX12_init 45 = .ok (.bipush 30, 2) := by decide +kernel
theorem dX12_init_47 : decode cX12_init 47 = .ok (.newarray .int, 2) := by decide +kernel
theorem dX12_init_49 : decode cX12_init 49 = .ok (.putfield 25, 3) := by decide +kernel
theorem dX12_init_52 : decode cX12_init 52 = .ok (.aload_n 0, 1) := by decide +kernel
theorem dX12_init_53 : decode cX12_init 53 = .ok (.bipush 30, 2) := by decide +kernel
theorem dX12_init_55 : decode cX12_init 55 = .ok (.newarray .int, 2) := by decide +kernel
theorem dX12_init_57 : decode cX12_init 57 = .ok (.putfield 28, 3) := by decide +kernel
theorem dX12_init_60 : decode cX12_init 60 = .ok (.aload_n 0, 1) := by decide +kernel
theorem dX12_init_61 : decode cX12_init 61 = .ok (.bipush 30, 2) := by decide +kernel
theorem dX12_init_63 : decode cX12_init 63 = .ok (.newarray .int, 2) := by decide +kernel
theorem dX12_init_65 : decode cX12_init 65 = .ok (.putfield 31, 3) := by decide +kernel
theorem dX12_init_68 : decode cX12_init 68 = .ok (.aload_n 0, 1) := by decide +kernel
theorem dX12_init_69 : decode cX12_init 69 = .ok (.sipush 150, 3) := by decide +kernel
theorem dX12_init_72 : decode cX12_init 72 = .ok (.newarray .int, 2) := by decide +kernel
theorem dX12_init_74 : decode cX12_init 74 = .ok (.putfield 34, 3) := by decide +kernel
theorem dX12_init_77 : decode cX12_init 77 = .ok (.aload_n 0, 1) := by decide +kernel
theorem dX12_init_78 : decode cX12_init 78 = .ok (.sipush 150, 3) := by decide +kernel
theorem dX12_init_81 : decode cX12_init 81 = .ok (.newarray .int, 2) := by decide +kernel
theorem dX12_init_83 : decode cX12_init 83 = .ok (.putfield 37, 3) := by decide +kernel
theorem dX12_init_86 : decode cX12_init 86 = .ok (.aload_n 0, 1) := by decide +kernel
theorem dX12_init_87 : decode cX12_init 87 = .ok (.sipush 150, 3) := by decide +kernel
theorem dX12_init_90 : decode cX12_init 90 = .ok (.newarray .int, 2) := by decide +kernel
theorem dX12_init_92 : decode cX12_init 92 = .ok (.putfield 40, 3) := by decide +kernel
theorem dX12_init_95 : decode cX12_init 95 = .ok (.aload_n 0, 1) := by decide +kernel
theorem dX12_init_96 : decode cX12_init 96 = .ok (.sipush 150, 3) := by decide +kernel
theorem dX12_init_99 : decode cX12_init 99 = .ok (.newarray .int, 2) := by decide +kernel
theorem dX12_init_101 : decode cX12_init 101 = .ok (.putfield 43, 3) := by decide +kernel
theorem dX12_init_104 : decode cX12_init 104 = .ok (.aload_n 0, 1) := by decide +kernel
theorem dX12_init_105 : decode cX12_init 105 = .ok (.sipush 150, 3) := by decide +kernel
theorem dX12_init_108 : decode cX12_init 108 = .ok (.newarray .int, 2) := by decide +kernel
theorem dX12_init_110 : decode cX12_init 110 = .ok (.putfield 46, 3) := by decide +kernel
theorem dX12_init_113 : decode cX12_init 113 = .ok (.aload_n 0, 1) := by decide +kernel
theorem dX12_init_114 : decode cX12_init 114 = .ok (.bipush 16, 2) := by decide +kernel
theorem dX12_init_116 : decode cX12_init 116 = .ok (.newarray .int, 2) := by decide +kernel
theorem dX12_init_118 : decode cX12_init 118 = .ok (.putfield 49, 3) := by decide +kernel
theorem dX12_init_121 : decode cX12_init 121 = .ok (.aload_n 0, 1) := by decide +kernel
theorem dX12_init_122 : decode cX12_init 122 = .ok (.bipush 16, 2) := by decide +kernel
theorem dX12_init_124 : decode cX12_init 124 = .ok (.newarray .int, 2) := by decide +kernel
theorem dX12_init_126 : decode cX12_init 126 = .ok (.putfield 52, 3) := by decide +kernel
theorem dX12_init_129 : decode cX12_init 129 = .ok (.aload_n 0, 1) := by decide +kernel
theorem dX12_init_130 : decode cX12_init 130 = .ok (.bipush 16, 2) := by decide +kernel
theorem dX12_init_132 : decode cX12_init 132 = .ok (.newarray .int, 2) := by decide +kernel
theorem dX12_init_134 : decode cX12_init 134 = .ok (.putfield 55, 3) := by decide +kernel
theorem dX12_init_137 : decode cX12_init 137 = .ok (.aload_n 0, 1) := by decide +kernel
theorem dX12_init_138 : decode cX12_init 138 = .ok (.bipush 16, 2) := by decide +kernel
theorem dX12_init_140 : decode cX12_init 140 = .ok (.newarray .int, 2) := by decide +kernel
theorem dX12_init_142 : decode cX12_init 142 = .ok (.putfield 58, 3) := by decide +kernel
theorem dX12_init_145 : decode cX12_init 145 = .ok (.aload_n 0, 1) := by decide +kernel
theorem dX12_init_146 : decode cX12_init 146 = .ok (.bipush 16, 2) := by decide +kernel
theorem dX12_init_148 : decode cX12_init 148 = .ok (.newarray .int, 2) := by decide +kernel
theorem dX12_init_150 : decode cX12_init 150 = .ok (.putfield 61, 3) := by decide +kernel
theorem dX12_init_153 : decode cX12_init 153 = .ok (.aload_n 0, 1) := by decide +kernel
theorem dX12_init_154 : decode cX12_init 154 = .ok (.bipush 16, 2) := by decide +kernel
theorem dX12_init_156 : decode cX12_init 156 = .ok (.newarray .int, 2) := by decide +kernel
theorem dX12_init_158 : decode cX12_init 158 = .ok (.putfield 64, 3) := by decide +kernel
theorem dX12_init_161 : decode cX12_init 161 = .ok (.aload_n 0, 1) := by decide +kernel
theorem dX12_init_162 : decode cX12_init 162 = .ok (.bipush 16, 2) := by decide +kernel
theorem dX12_init_164 : decode cX12_init 164 = .ok (.newarray .int, 2) := by decide +kernel
theorem dX12_init_166 : decode cX12_init 166 = .ok (.putfield 67, 3) := by decide +kernel
theorem dX12_init_169 : decode cX12_init 169 = .ok (.aload_n 0, 1) := by decide +kernel
theorem dX12_init_170 : decode cX12_init 170 = .ok (.bipush 16, 2) := by decide +kernel
theorem dX12_init_172 : decode cX12_init 172 = .ok (.newarray .int, 2) := by decide +kernel
theorem dX12_init_174 : decode cX12_init 174 = .ok (.putfield 70, 3) := by decide +kernel
theorem dX12_init_177 : decode cX12_init 177 = .ok (.aload_n 0, 1) := by decide +kernel
theorem dX12_init_178 : decode cX12_init 178 = .ok (.bipush 16, 2) := by decide +kernel
theorem dX12_init_180 : decode cX12_init 180 = .ok (.newarray .long, 2) := by decide +kernel
theorem dX12_init_182 : decode cX12_init 182 = .ok (.putfield 73, 3) := by decide +kernel
theorem dX12_init_185 : decode cX12_init 185 = .ok (.aload_n 0, 1) := by decide +kernel
theorem dX12_init_186 : decode cX12_init 186 = .ok (.bipush 16, 2) := by decide +kernel
theorem dX12_init_188 : decode cX12_init 188 = .ok (.newarray .long, 2) := by decide +kernel
theorem dX12_init_190 : decode cX12_init 190 = .ok (.putfield 77, 3) := by decide +kernel
theorem dX12_init_193 : decode cX12_init 193 = .ok (.aload_n 0, 1) := by decide +kernel
theorem dX12_init_194 : decode cX12_init 194 = .ok (.bipush 20, 2) := by decide +kernel
theorem dX12_init_196 : decode cX12_init 196 = .ok (.newarray .int, 2) := by decide +kernel
theorem dX12_init_198 : decode cX12_init 198 = .ok (.putfield 80, 3) := by decide +kernel
theorem dX12_init_201 : decode cX12_init 201 = .ok (.aload_n 0, 1) := by decide +kernel
theorem dX12_init_202 : decode cX12_init 202 = .ok (.bipush 20, 2) := by decide +kernel
theorem dX12_init_204 : decode cX12_init 204 = .ok (.newarray .int, 2) := by decide +kernel
theorem dX12_init_206 : decode cX12_init 206 = .ok (.putfield 83, 3) := by decide +kernel
theorem dX12_init_209 : decode cX12_init 209 = .ok (.aload_n 0, 1) := by decide +kernel
theorem dX12_init_210 : decode cX12_init 210 = .ok (.bipush 20, 2) := by decide +kernel
theorem dX12_init_212 : decode cX12_init 212 = .ok (.newarray .int, 2) := by decide +kernel
theorem dX12_init_214 : decode cX12_init 214 = .ok (.putfield 86, 3) := by decide +kernel
theorem dX12_init_217 : decode cX12_init 217 = .ok (.aload_n 0, 1) := by decide +kernel
theorem dX12_init_218 : decode cX12_init 218 = .ok (.bipush 20, 2) := by decide +kernel
theorem dX12_init_220 : decode cX12_init 220 = .ok (.newarray .int, 2) := by decide +kernel
theorem dX12_init_222 : decode cX12_init 222 = .ok (.putfield 89, 3) := by decide +kernel
theorem dX12_init_225 : decode cX12_init 225 = .ok (.aload_n 0, 1) := by decide +kernel
theorem dX12_init_226 : decode cX12_init 226 = .ok (.iconst 3, 1) := by decide +kernel
theorem dX12_init_227 : decode cX12_init 227 = .ok (.newarray .int, 2) := by decide +kernel
theorem dX12_init_229 : decode cX12_init 229 = .ok (.putfield 92, 3) := by decide +kernel
theorem dX12_init_232 : decode cX12_init 232 = .ok (.aload_n 0, 1) := by decide +kernel
theorem dX12_init_233 : decode cX12_init 233 = .ok (.bipush 60, 2) := by decide +kernel
theorem dX12_init_235 : decode cX12_init 235 = .ok (.newarray .int, 2) := by decide +kernel
theorem dX12_init_237 : decode cX12_init 237 = .ok (.putfield 95, 3) := by decide +kernel
theorem dX12_init_240 : decode cX12_init 240 = .ok (.aload_n 0, 1) := by decide +kernel
theorem dX12_init_241 : decode cX12_init 241 = .ok (.bipush 63, 2) := by decide +kernel
theorem dX12_init_243 : decode cX12_init 243 = .ok (.newarray .int, 2) := by decide +kernel
theorem dX12_init_245 : decode cX12_init 245 = .ok (.putfield 98, 3) := by decide +kernel
theorem dX12_init_248 : decode cX12_init 248 = .ok (.aload_n 0, 1) := by decide +kernel
theorem dX12_init_249 : decode cX12_init 249 = .ok (.bipush 60, 2) := by decide +kernel
theorem dX12_init_251 : decode cX12_init 251 = .ok (.newarray .int, 2) := by decide +kernel
theorem dX12_init_253 : decode cX12_init 253 = .ok (.putfield 101, 3) := by decide +kernel
theorem dX12_init_256 : decode cX12_init 256 = .ok (.aload_n 0, 1) := by decide +kernel
theorem dX12_init_257 : decode cX12_init 257 = .ok (.sipush 3660, 3) := by decide +kernel
theorem dX12_init_260 : decode cX12_init 260 = .ok (.newarray .int, 2) := by decide +kernel
theorem dX12_init_262 : decode cX12_init 262 = .ok (.putfield 104, 3) := by decide +kernel
theorem dX12_init_265 : decode cX12_init 265 = .ok (.aload_n 0, 1) := by decide +kernel
theorem dX12_init_266 : decode cX12_init 266 = .ok (.bipush 20, 2) := by decide +kernel
theorem dX12_init_268 : decode cX12_init 268 = .ok (.newarray .int, 2) := by decide +kernel
theorem dX12_init_270 : decode cX12_init 270 = .ok (.putfield 107, 3) := by decide +kernel
theorem dX12_init_273 : decode cX12_init 273 = .ok (.aload_n 0, 1) := by decide +kernel
theorem dX12_init_274 : decode cX12_init 274 = .ok (.bipush 21, 2) := by decide +kernel
theorem dX12_init_276 : decode cX12_init 276 = .ok (.newarray .int, 2) := by decide +kernel
theorem dX12_init_278 : decode cX12_init 278 = .ok (.putfield 110, 3) := by decide +kernel
theorem dX12_init_281 : decode cX12_init 281 = .ok (.aload_n 0, 1) := by decide +kernel
theorem dX12_init_282 : decode cX12_init 282 = .ok (.bipush 20, 2) := by decide +kernel
theorem dX12_init_284 : decode cX12_init 284 = .ok (.newarray .int, 2) := by decide +kernel
theorem dX12_init_286 : decode cX12_init 286 = .ok (.putfield 113, 3) := by decide +kernel
theorem dX12_init_289 : decode cX12_init 289 = .ok (.aload_n 0, 1) := by decide +kernel
theorem dX12_init_290 : decode cX12_init 290 = .ok (.sipush 1220, 3) := by decide +kernel
theorem dX12_init_293 : decode cX12_init 293 = .ok (.newarray .int, 2) := by decide +kernel
theorem dX12_init_295 : decode cX12_init 295 = .ok (.putfield 116, 3) := by decide +kernel
theorem dX12_init_298 : decode cX12_init 298 = .ok (.aload_n 0, 1) := by decide +kernel
theorem dX12_init_299 : decode cX12_init 299 = .ok (.sipush 600, 3) := by decide +kernel
theorem dX12_init_302 : decode cX12_init 302 = .ok (.newarray .int, 2) := by decide +kernel
theorem dX12_init_304 : decode cX12_init 304 = .ok (.putfield 119, 3) := by decide +kernel
theorem dX12_init_307 : decode cX12_init 307 = .ok (.aload_n 0, 1) := by decide +kernel
theorem dX12_init_308 : decode cX12_init 308 = .ok (.sipush 620, 3) := by decide +kernel
theorem dX12_init_311 : decode cX12_init 311 = .ok (.newarray .int, 2) := by decide +kernel
theorem dX12_init_313 : decode cX12_init 313 = .ok (.putfield 122, 3) := by decide +kernel
theorem dX12_init_316 : decode cX12_init 316 = .ok (.aload_n 0, 1) := by decide +kernel
theorem dX12_init_317 : decode cX12_init 317 = .ok (.iconst (-1), 1) := by decide +kernel
theorem dX12_init_318 : decode cX12_init 318 = .ok (.putfield 125, 3) := by decide +kernel
theorem dX12_init_321 : decode cX12_init 321 = .ok (.aload_n 0, 1) := by decide +kernel
theorem dX12_init_322 : decode cX12_init 322 = .ok (.bipush 12, 2) := by decide +kernel
theorem dX12_init_324 : decode cX12_init 324 = .ok (.newarray .int, 2) := by decide +kernel
theorem dX12_init_326 : decode cX12_init 326 = .ok (.putfield 129, 3) := by decide +kernel
theorem dX12_init_329 : decode cX12_init 329 = .ok (.aload_n 0, 1) := by decide +kernel
theorem dX12_init_330 : decode cX12_init 330 = .ok (.bipush 16, 2) := by decide +kernel
theorem dX12_init_332 : decode cX12_init 332 = .ok (.newarray .int, 2) := by decide +kernel
theorem dX12_init_334 : decode cX12_init 334 = .ok (.putfield 132, 3) := by decide +kernel
theorem dX12_init_337 : decode cX12_init 337 = .ok (.aload_n 0, 1) := by decide +kernel
theorem dX12_init_338 : decode cX12_init 338 = .ok (.bipush 16, 2) := by decide +kernel
theorem dX12_init_340 : decode cX12_init 340 = .ok (.newarray .int, 2) := by decide +kernel
theorem dX12_init_342 : decode cX12_init 342 = .ok (.putfield 135, 3) := by decide +kernel
theorem dX12_init_345 : decode cX12_init 345 = .ok (.aload_n 0, 1) := by decide +kernel
theorem dX12_init_346 : decode cX12_init 346 = .ok (.bipush 16, 2) := by decide +kernel
theorem dX12_init_348 : decode cX12_init 348 = .ok (.newarray .int, 2) := by decide +kernel
theorem dX12_init_350 : decode cX12_init 350 = .ok (.putfield 138, 3) := by decide +kernel
theorem dX12_init_353 : decode cX12_init 353 = .ok (.aload_n 0, 1) := by decide +kernel
theorem dX12_init_354 : decode cX12_init 354 = .ok (.bipush 16, 2) := by decide +kernel
theorem dX12_init_356 : decode cX12_init 356 = .ok (.newarray .int, 2) := by decide +kernel
theorem dX12_init_358 : decode cX12_init 358 = .ok (.putfield 141, 3) := by decide +kernel
theorem dX12_init_361 : decode cX12_init 361 = .ok (.aload_n 0, 1) := by decide +kernel
theorem dX12_init_362 : decode cX12_init 362 = .ok (.bipush 16, 2) := by decide +kernel
theorem dX12_init_364 : decode cX12_init 364 = .ok (.newarray .int, 2) := by decide +kernel
theorem dX12_init_366 : decode cX12_init 366 = .ok (.putfield 144, 3) := by decide +kernel
theorem dX12_init_369 : decode cX12_init 369 = .ok (.aload_n 0, 1) := by decide +kernel
theorem dX12_init_370 : decode cX12_init 370 = .ok (.sipush 192, 3) := by decide +kernel
theorem dX12_init_373 : decode cX12_init 373 = .ok (.newarray .int, 2) := by decide +kernel
theorem dX12_init_375 : decode cX12_init 375 = .ok (.putfield 147, 3) := by decide +kernel
theorem dX12_init_378 : decode cX12_init 378 = .ok (.aload_n 0, 1) := by decide +kernel
theorem dX12_init_379 : decode cX12_init 379 = .ok (.bipush 16, 2) := by decide +kernel
theorem dX12_init_381 : decode cX12_init 381 = .ok (.newarray .int, 2) := by decide +kernel
theorem dX12_init_383 : decode cX12_init 383 = .ok (.putfield 150, 3) := by decide +kernel
theorem dX12_init_386 : decode cX12_init 386 = .ok (.aload_n 0, 1) := by decide +kernel
theorem dX12_init_387 : decode cX12_init 387 = .ok (.sipush 256, 3) := by decide +kernel
theorem dX12_init_390 : decode cX12_init 390 = .ok (.newarray .int, 2) := by decide +kernel
theorem dX12_init_392 : decode cX12_init 392 = .ok (.putfield 153, 3) := by decide +kernel
theorem dX12_init_395 : decode cX12_init 395 = .ok (.aload_n 0, 1) := by decide +kernel
theorem dX12_init_396 : decode cX12_init 396 = .ok (.sipush 256, 3) := by decide +kernel
theorem dX12_init_399 : decode cX12_init 399 = .ok (.newarray .int, 2) := by decide +kernel
theorem dX12_init_401 : decode cX12_init 401 = .ok (.putfield 156, 3) := by decide +kernel
theorem dX12_init_404 : decode cX12_init 404 = .ok (.aload_n 0, 1) := by decide +kernel
theorem dX12_init_405 : decode cX12_init 405 = .ok (.sipush 256, 3) := by decide +kernel
theorem dX12_init_408 : decode cX12_init 408 = .ok (.newarray .int, 2) := by decide +kernel
theorem dX12_init_410 : decode cX12_init 410 = .ok (.putfield 159, 3) := by decide +kernel
theorem dX12_init_413 : decode cX12_init 413 = .ok (.aload_n 0, 1) := by decide +kernel
theorem dX12_init_414 : decode cX12_init 414 = .ok (.bipush 16, 2) := by decide +kernel
theorem dX12_init_416 : decode cX12_init 416 = .ok (.newarray .boolean, 2) := by decide +kernel
theorem dX12_init_418 : decode cX12_init 418 = .ok (.putfield 162, 3) := by decide +kernel
theorem dX12_init_421 : decode cX12_init 421 = .ok (.aload_n 0, 1) := by decide +kernel
theorem dX12_init_422 : decode cX12_init 422 = .ok (.bipush 9, 2) := by decide +kernel
theorem dX12_init_424 : decode cX12_init 424 = .ok (.newarray .int, 2) := by decide +kernel
theorem dX12_init_426 : decode cX12_init 426 = .ok (.putfield 166, 3) := by decide +kernel
theorem dX12_init_429 : decode cX12_init 429 = .ok (.aload_n 0, 1) := by decide +kernel
theorem dX12_init_430 : decode cX12_init 430 = .ok (.bipush 81, 2) := by decide +kernel
theorem dX12_init_432 : decode cX12_init 432 = .ok (.newarray .int, 2) := by decide +kernel
theorem dX12_init_434 : decode cX12_init 434 = .ok (.putfield 169, 3) := by decide +kernel
theorem dX12_init_437 : decode cX12_init 437 = .ok (.aload_n 0, 1) := by decide +kernel
theorem dX12_init_438 : decode cX12_init 438 = .ok (.bipush 9, 2) := by decide +kernel
theorem dX12_init_440 : decode cX12_init 440 = .ok (.newarray .int, 2) := by decide +kernel
theorem dX12_init_442 : decode cX12_init 442 = .ok (.putfield 172, 3) := by decide +kernel
theorem dX12_init_445 : decode cX12_init 445 = .ok (.aload_n 0, 1) := by decide +kernel
theorem dX12_init_446 : decode cX12_init 446 = .ok (.sipush 5120, 3) := by decide +kernel
theorem dX12_init_449 : decode cX12_init 449 = .ok (.newarray .int, 2) := by decide +kernel
theorem dX12_init_451 : decode cX12_init 451 = .ok (.putfield 175, 3) := by decide +kernel
theorem dX12_init_454 : decode cX12_init 454 = .ok (.aload_n 0, 1) := by decide +kernel
theorem dX12_init_455 : decode cX12_init 455 = .ok (.bipush 9, 2) := by decide +kernel
theorem dX12_init_457 : decode cX12_init 457 = .ok (.newarray .int, 2) := by decide +kernel
theorem dX12_init_459 : decode cX12_init 459 = .ok (.putfield 178, 3) := by decide +kernel
theorem dX12_init_462 : decode cX12_init 462 = .ok (.aload_n 0, 1) := by decide +kernel
theorem dX12_init_463 : decode cX12_init 463 = .ok (.bipush 14, 2) := by decide +kernel
theorem dX12_init_465 : decode cX12_init 465 = .ok (.newarray .int, 2) := by decide +kernel
theorem dX12_init_467 : decode cX12_init 467 = .ok (.putfield 181, 3) := by decide +kernel
theorem dX12_init_470 : decode cX12_init 470 = .ok (.aload_n 0, 1) := by decide +kernel
theorem dX12_init_471 : decode cX12_init 471 = .ok (.bipush 14, 2) := by decide +kernel
theorem dX12_init_473 : decode cX12_init 473 = .ok (.newarray .int, 2) := by decide +kernel
theorem dX12_init_475 : decode cX12_init 475 = .ok (.putfield 184, 3) := by decide +kernel
theorem dX12_init_478 : decode cX12_init 478 = .ok (.aload_n 0, 1) := by decide +kernel
theorem dX12_init_479 : decode cX12_init 479 = .ok (.bipush 9, 2) := by decide +kernel
theorem dX12_init_481 : decode cX12_init 481 = .ok (.newarray .int, 2) := by decide +kernel
theorem dX12_init_483 : decode cX12_init 483 = .ok (.putfield 187, 3) := by decide +kernel
theorem dX12_init_486 : decode cX12_init 486 = .ok (.aload_n 0, 1) := by decide +kernel
theorem dX12_init_487 : decode cX12_init 487 = .ok (.bipush 9, 2) := by decide +kernel
theorem dX12_init_489 : decode cX12_init 489 = .ok (.newarray .int, 2) := by decide +kernel
theorem dX12_init_491 : decode cX12_init 491 = .ok (.putfield 190, 3) := by decide +kernel
theorem dX12_init_494 : decode cX12_init 494 = .ok (.aload_n 0, 1) := by decide +kernel
theorem dX12_init_495 : decode cX12_init 495 = .ok (.sipush 400, 3) := by decide +kernel
theorem dX12_init_498 : decode cX12_init 498 = .ok (.newarray .int, 2) := by decide +kernel
theorem dX12_init_500 : decode cX12_init 500 = .ok (.putfield 193, 3) := by decide +kernel
theorem dX12_init_503 : decode cX12_init 503 = .ok (.aload_n 0, 1) := by decide +kernel
theorem dX12_init_504 : decode cX12_init 504 = .ok (.bipush 20, 2) := by decide +kernel
theorem dX12_init_506 : decode cX12_init 506 = .ok (.newarray .int, 2) := by decide +kernel
theorem dX12_init_508 : decode cX12_init 508 = .ok (.putfield 196, 3) := by decide +kernel
theorem dX12_init_511 : decode cX12_init 511 = .ok (.aload_n 0, 1) := by decide +kernel
theorem dX12_init_512 : decode cX12_init 512 = .ok (.bipush 20, 2) := by decide +kernel
theorem dX12_init_514 : decode cX12_init 514 = .ok (.newarray .long, 2) := by decide +kernel
theorem dX12_init_516 : decode cX12_init 516 = .ok (.putfield 199, 3) := by decide +kernel
theorem dX12_init_519 : decode cX12_init 519 = .ok (.aload_n 0, 1) := by decide +kernel
theorem dX12_init_520 : decode cX12_init 520 = .ok (.bipush 20, 2) := by decide +kernel
theorem dX12_init_522 : decode cX12_init 522 = .ok (.newarray .long, 2) := by decide +kernel
theorem dX12_init_524 : decode cX12_init 524 = .ok (.putfield 202, 3) := by decide +kernel
theorem dX12_init_527 : decode cX12_init 527 = .ok (.aload_n 0, 1) := by decide +kernel
theorem dX12_init_528 : decode cX12_init 528 = .ok (.bipush 20, 2) := by decide +kernel
theorem dX12_init_530 : decode cX12_init 530 = .ok (.newarray .long, 2) := by decide +kernel
theorem dX12_init_532 : decode cX12_init 532 = .ok (.putfield 205, 3) := by decide +kernel
theorem dX12_init_535 : decode cX12_init 535 = .ok (.aload_n 0, 1) := by decide +kernel
theorem dX12_init_536 : decode cX12_init 536 = .ok (.bipush 20, 2) := by decide +kernel
theorem dX12_init_538 : decode cX12_init 538 = .ok (.newarray .long, 2) := by decide +kernel
theorem dX12_init_540 : decode cX12_init 540 = .ok (.putfield 208, 3) := by decide +kernel
theorem dX12_init_543 : decode cX12_init 543 = .ok (.aload_n 0, 1) := by decide +kernel
theorem dX12_init_544 : decode cX12_init 544 = .ok (.bipush 20, 2) := by decide +kernel
theorem dX12_init_546 : decode cX12_init 546 = .ok (.newarray .long, 2) := by decide +kernel
theorem dX12_init_548 : decode cX12_init 548 = .ok (.putfield 211, 3) := by decide +kernel
theorem dX12_init_551 : decode cX12_init 551 = .ok (.aload_n 0, 1) := by decide +kernel
theorem dX12_init_552 : decode cX12_init 552 = .ok (.bipush 27, 2) := by decide +kernel
theorem dX12_init_554 : decode cX12_init 554 = .ok (.newarray .int, 2) := by decide +kernel
theorem dX12_init_556 : decode cX12_init 556 = .ok (.putfield 214, 3) := by decide +kernel
theorem dX12_init_559 : decode cX12_init 559 = .ok (.aload_n 0, 1) := by decide +kernel
theorem dX12_init_560 : decode cX12_init 560 = .ok (.iconst 3, 1) := by decide +kernel
theorem dX12_init_561 : decode cX12_init 561 = .ok (.newarray .int, 2) := by decide +kernel
theorem dX12_init_563 : decode cX12_init 563 = .ok (.putfield 217, 3) := by decide +kernel
theorem dX12_init_566 : decode cX12_init 566 = .ok (.iconst 0, 1) := by decide +kernel
theorem dX12_init_567 : decode cX12_init 567 = .ok (.istore_n 1, 1) := by decide +kernel
theorem dX12_init_568 : decode cX12_init 568 = .ok (.iload_n 1, 1) := by decide +kernel
theorem dX12_init_569 : decode cX12_init 569 = .ok (.bipush 16, 2) := by decide +kernel
theorem dX12_init_571 : decode cX12_init 571 = .ok (.if_icmp .ge 16, 3) := by decide +kernel
theorem dX12_init_574 : decode cX12_init 574 = .ok (.aload_n 0, 1) := by decide +kernel
theorem dX12_init_575 : decode cX12_init 575 = .ok (.getfield 67, 3) := by decide +kernel
theorem dX12_init_578 : decode cX12_init 578 = .ok (.iload_n 1, 1) := by decide +kernel
theorem dX12_init_579 : decode cX12_init 579 = .ok (.iconst 1, 1) := by decide +kernel
theorem dX12_init_580 : decode cX12_init 580 = .ok (.iastore, 1) := by decide +kernel
theorem dX12_init_581 : decode cX12_init 581 = .ok (.iinc 1 1, 3) := by decide +kernel
theorem dX12_init_584 : decode cX12_init 584 = .ok (.goto (-16), 3) := by decide +kernel
theorem dX12_init_587 : decode cX12_init 587 = .ok (.return_, 1) := by decide +kernel
theorem dX12_isIn_0 : decode cX12_isIn 0 = .ok (.iload_n 0, 1) := by decide +kernel
theorem dX12_isIn_1 : decode cX12_isIn 1 = .ok (.iload_n 1, 1) := by decide +kernel
theorem dX12_isIn_2 : decode cX12_isIn 2 = .ok (.if_icmp .lt 12, 3) := by decide +kernel
theorem dX12_isIn_5 : decode cX12_isIn 5 = .ok (.iload_n 0, 1) := by decide +kernel
theorem dX12_isIn_6 : decode cX12_isIn 6 = .ok (.iload_n 2, 1) := by decide +kernel
theorem dX12_isIn_7 : decode cX12_isIn 7 = .ok (.if_icmp .gt 7, 3) := by decide +kernel
theorem dX12_isIn_10 : decode cX12_isIn 10 = .ok (.iconst 1, 1) := by decide +kernel
theorem dX12_isIn_11 : decode cX12_isIn 11 = .ok (.goto 4, 3) := by decide +kernel
theorem dX12_isIn_14 : decode cX12_isIn 14 = .ok (.iconst 0, 1) := by decide +kernel
theorem dX12_isIn_15 : decode cX12_isIn 15 = .ok (.ireturn, 1) := by decide +kernel
theorem dX12_isPicture_0 : decode cX12_isPicture 0 = .ok (.iload_n 1, 1) := by decide +kernel
theorem dX12_isPicture_1 : decode cX12_isPicture 1 = .ok (.iconst 0, 1) := by decide +kernel
theorem dX12_isPicture_2 : decode cX12_isPicture 2 = .ok (.aload_n 0, 1) := by decide +kernel
theorem dX12_isPicture_3 : decode cX12_isPicture 3 = .ok (.getfield 220, 3) := by decide +kernel
theorem dX12_isPicture_6 : decode cX12_isPicture 6 = .ok (.iconst 1, 1) := by decide +kernel
theorem dX12_isPicture_7 : decode cX12_isPicture 7 = .ok (.isub, 1) := by decide +kernel
theorem dX12_isPicture_8 : decode cX12_isPicture 8 = .ok (.invokestatic 223, 3) := by decide +kernel
theorem dX12_isPicture_11 : decode cX12_isPicture 11 = .ok (.ireturn, 1) := by decide +kernel
theorem dX12_isPrint_0 : decode cX12_isPrint 0 = .ok (.iload_n 1, 1) := by decide +kernel
theorem dX12_isPrint_1 : decode cX12_isPrint 1 = .ok (.iconst 0, 1) := by decide +kernel
theorem dX12_isPrint_2 : decode cX12_isPrint 2 = .ok (.aload_n 0, 1) := by decide +kernel
theorem dX12_isPrint_3 : decode cX12_isPrint 3 = .ok (.getfield 227, 3) := by decide +kernel
theorem dX12_isPrint_6 : decode cX12_isPrint 6 = .ok (.iconst 1, 1) := by decide +kernel
theorem dX12_isPrint_7 : decode cX12_isPrint 7 = .ok (.isub, 1) := by decide +kernel
theorem dX12_isPrint_8 : decode cX12_isPrint 8 = .ok (.invokestatic 223, 3) := by decide +kernel
theorem dX12_isPrint_11 : decode cX12_isPrint 11 = .ok (.ireturn, 1) := by decide +kernel
theorem dX12_isHall_0 : decode cX12_isHall 0 = .ok (.iload_n 1, 1) := by decide +kernel
theorem dX12_isHall_1 : decode cX12_isHall 1 = .ok (.iconst 0, 1) := by decide +kernel
theorem dX12_isHall_2 : decode cX12_isHall 2 = .ok (.aload_n 0, 1) := by decide +kernel
theorem dX12_isHall_3 : decode cX12_isHall 3 = .ok (.getfield 230, 3) := by decide +kernel
theorem dX12_isHall_6 : decode cX12_isHall 6 = .ok (.iconst 1, 1) := by decide +kernel
theorem dX12_isHall_7 : decode cX12_isHall 7 = .ok (.isub, 1) := by decide +kernel
theorem dX12_isHall_8 : decode cX12_isHall 8 = .ok (.invokestatic 223, 3) := by decide +kernel
theorem dX12_isHall_11 : decode cX12_isHall 11 = .ok (.ireturn, 1) := by decide +kernel
theorem dX12_isSet_0 : decode cX12_isSet 0 = .ok (.iload_n 1, 1) := by decide +kernel
theorem dX12_isSet_1 : decode cX12_isSet 1 = .ok (.iconst 0, 1) := by decide +kernel
theorem dX12_isSet_2 : decode cX12_isSet 2 = .ok (.aload_n 0, 1) := by decide +kernel
theorem dX12_isSet_3 : decode cX12_isSet 3 = .ok (.getfield 233, 3) := by decide +kernel
theorem dX12_isSet_6 : decode cX12_isSet 6 = .ok (.iconst 1, 1) := by decide +kernel
theorem dX12_isSet_7 : decode cX12_isSet 7 = .ok (.isub, 1) := by decide +kernel
theorem dX12_isSet_8 : decode cX12_isSet 8 = .ok (.invokestatic 223, 3) := by decide +kernel
theorem dX12_isSet_11 : decode cX12_isSet 11 = .ok (.ireturn, 1) := by decide +kernel
theorem dX12_isCrowd_0 : decode cX12_isCrowd 0 = .ok (.iload_n 1, 1) := by decide +kernel
theorem dX12_isCrowd_1 : decode cX12_isCrowd 1 = .ok (.iconst 0, 1) := by decide +kernel
theorem dX12_isCrowd_2 : decode cX12_isCrowd 2 = .ok (.aload_n 0, 1) := by decide +kernel
theorem dX12_isCrowd_3 : decode cX12_isCrowd 3 = .ok (.getfield 236, 3) := by decide +kernel
theorem dX12_isCrowd_6 : decode cX12_isCrowd 6 = .ok (.iconst 1, 1) := by decide +kernel
theorem dX12_isCrowd_7 : decode cX12_isCrowd 7 = .ok (.isub, 1) := by decide +kernel
theorem dX12_isCrowd_8 : decode cX12_isCrowd 8 = .ok (.invokestatic 223, 3) := by decide +kernel
theorem dX12_isCrowd_11 : decode cX12_isCrowd 11 = .ok (.ireturn, 1) := by decide +kernel
theorem dX12_picture_0 : decode cX12_picture 0 = .ok (.iload_n 1, 1) := by decide +kernel
theorem dX12_picture_1 : decode cX12_picture 1 = .ok (.iconst 0, 1) := by decide +kernel
theorem dX12_picture_2 : decode cX12_picture 2 = .ok (.iconst 2, 1) := by decide +kernel
theorem dX12_picture_3 : decode cX12_picture 3 = .ok (.invokestatic 223, 3) := by decide +kernel
theorem dX12_picture_6 : decode cX12_picture 6 = .ok (.ifCond .eq 77, 3) := by decide +kernel
theorem dX12_picture_9 : decode cX12_picture 9 = .ok (.iload_n 2, 1) := by decide +kernel
theorem dX12_picture_10 : decode cX12_picture 10 = .ok (.iconst 0, 1) := by decide +kernel
theorem dX12_picture_11 : decode cX12_picture 11 = .ok (.iconst 5, 1) := by decide +kernel
theorem dX12_picture_12 : decode cX12_picture 12 = .ok (.invokestatic 223, 3) := by decide +kernel
theorem dX12_picture_15 : decode cX12_picture 15 = .ok (.ifCond .eq 68, 3) := by decide +kernel
theorem dX12_picture_18 : decode cX12_picture 18 = .ok (.iload_n 3, 1) := by decide +kernel
theorem dX12_picture_19 : decode cX12_picture 19 = .ok (.iconst 0, 1) := by decide +kernel
theorem dX12_picture_20 : decode cX12_picture 20 = .ok (.iconst 3, 1) := by decide +kernel
theorem dX12_picture_21 : decode cX12_picture 21 = .ok (.invokestatic 223, 3) := by decide +kernel
theorem dX12_picture_24 : decode cX12_picture 24 = .ok (.ifCond .eq 59, 3) := by decide +kernel
theorem dX12_picture_27 : decode cX12_picture 27 = .ok (.iload 4, 2) := by decide +kernel
theorem dX12_picture_29 : decode cX12_picture 29 = .ok (.iconst 0, 1) := by decide +kernel
theorem dX12_picture_30 : decode cX12_picture 30 = .ok (.iconst 3, 1) := by decide +kernel
theorem dX12_picture_31 : decode cX12_picture 31 = .ok (.invokestatic 223, 3) := by decide +kernel
theorem dX12_picture_34 : decode cX12_picture 34 = .ok (.ifCond .eq 49, 3) := by decide +kernel
theorem dX12_picture_37 : decode cX12_picture 37 = .ok (.iload 4, 2) := by decide +kernel
theorem dX12_picture_39 : decode cX12_picture 39 = .ok (.iconst 3, 1) := by decide +kernel
theorem dX12_picture_40 : decode cX12_picture 40 = .ok (.if_icmp .ne 7, 3) := by decide +kernel
theorem dX12_picture_43 : decode cX12_picture 43 = .ok (.iconst 1, 1) := by decide +kernel
theorem dX12_picture_44 : decode cX12_picture 44 = .ok (.goto 4, 3) := by decide +kernel
theorem dX12_picture_47 : decode cX12_picture 47 = .ok (.iconst 0, 1) := by decide +kernel
theorem dX12_picture_48 : decode cX12_picture 48 = .ok (.iload_n 2, 1) := by decide +kernel
theorem dX12_picture_49 : decode cX12_picture 49 = .ok (.iconst 5, 1) := by decide +kernel
theorem dX12_picture_50 : decode cX12_picture 50 = .ok (.if_icmp .ne 7, 3) := by decide +kernel
theorem dX12_picture_53 : decode cX12_picture 53 = .ok (.iconst 1, 1) := by decide +kernel
theorem dX12_picture_54 : decode cX12_picture 54 = .ok (.goto 4, 3) := by decide +kernel
theorem dX12_picture_57 : decode cX12_picture 57 = .ok (.iconst 0, 1) := by decide +kernel
theorem dX12_picture_58 : decode cX12_picture 58 = .ok (.if_icmp .ne 25, 3) := by decide +kernel
theorem dX12_picture_61 : decode cX12_picture 61 = .ok (.iload 5, 2) := by decide +kernel
theorem dX12_picture_63 : decode cX12_picture 63 = .ok (.bipush 100, 2) := by decide +kernel
theorem dX12_picture_65 : decode cX12_picture 65 = .ok (.sipush 9999, 3) := by decide +kernel
theorem dX12_picture_68 : decode cX12_picture 68 = .ok (.invokestatic 223, 3) := by decide +kernel
theorem dX12_picture_71 : decode cX12_picture 71 = .ok (.ifCond .eq 12, 3) := by decide +kernel
theorem dX12_picture_74 : decode cX12_picture 74 = .ok (.aload_n 0, 1) := by decide +kernel
theorem dX12_picture_75 : decode cX12_picture 75 = .ok (.getfield 220, 3) := by decide +kernel
theorem dX12_picture_78 : decode cX12_picture 78 = .ok (.bipush 12, 2) := by decide +kernel
theorem dX12_picture_80 : decode cX12_picture 80 = .ok (.if_icmp .ne 5, 3) := by decide +kernel
theorem dX12_picture_83 : decode cX12_picture 83 = .ok (.iconst (-1), 1) := by decide +kernel
theorem dX12_picture_84 : decode cX12_picture 84 = .ok (.ireturn, 1) := by decide +kernel
theorem dX12_picture_85 : decode cX12_picture 85 = .ok (.aload_n 0, 1) := by decide +kernel
theorem dX12_picture_86 : decode cX12_picture 86 = .ok (.getfield 7, 3) := by decide +kernel
theorem dX12_picture_89 : decode cX12_picture 89 = .ok (.aload_n 0, 1) := by decide +kernel
theorem dX12_picture_90 : decode cX12_picture 90 = .ok (.getfield 220, 3) := by decide +kernel
theorem dX12_picture_93 : decode cX12_picture 93 = .ok (.iload_n 1, 1) := by decide +kernel
theorem dX12_picture_94 : decode cX12_picture 94 = .ok (.iastore, 1) := by decide +kernel
theorem dX12_picture_95 : decode cX12_picture 95 = .ok (.aload_n 0, 1) := by decide +kernel
theorem dX12_picture_96 : decode cX12_picture 96 = .ok (.getfield 13, 3) := by decide +kernel
theorem dX12_picture_99 : decode cX12_picture 99 = .ok (.aload_n 0, 1) := by decide +kernel
theorem dX12_picture_100 : decode cX12_picture 100 = .ok (.getfield 220, 3) := by decide +kernel
theorem dX12_picture_103 : decode cX12_picture 103 = .ok (.iload_n 2, 1) := by decide +kernel
theorem dX12_picture_104 : decode cX12_picture 104 = .ok (.iastore, 1) := by decide +kernel
theorem dX12_picture_105 : decode cX12_picture 105 = .ok (.aload_n 0, 1) := by decide +kernel
theorem dX12_picture_106 : decode cX12_picture 106 = .ok (.getfield 16, 3) := by decide +kernel
theorem dX12_picture_109 : decode cX12_picture 109 = .ok (.aload_n 0, 1) := by decide +kernel
theorem dX12_picture_110 : decode cX12_picture 110 = .ok (.getfield 220, 3) := by decide +kernel
theorem dX12_picture_113 : decode cX12_picture 113 = .ok (.iload_n 3, 1) := by decide +kernel
theorem dX12_picture_114 : decode cX12_picture 114 = .ok (.iastore, 1) := by decide +kernel
theorem dX12_picture_115 : decode cX12_picture 115 = .ok (.aload_n 0, 1) := by decide +kernel
theorem dX12_picture_116 : decode cX12_picture 116 = .ok (.getfield 19, 3) := by decide +kernel
theorem dX12_picture_119 : decode cX12_picture 119 = .ok (.aload_n 0, 1) := by decide +kernel
theorem dX12_picture_120 : decode cX12_picture 120 = .ok (.getfield 220, 3) := by decide +kernel
theorem dX12_picture_123 : decode cX12_picture 123 = .ok (.iload 4, 2) := by decide +kernel
theorem dX12_picture_125 : decode cX12_picture 125 = .ok (.iastore, 1) := by decide +kernel
theorem dX12_picture_126 : decode cX12_picture 126 = .ok (.aload_n 0, 1) := by decide +kernel
theorem dX12_picture_127 : decode cX12_picture 127 = .ok (.getfield 22, 3) := by decide +kernel
theorem dX12_picture_130 : decode cX12_picture 130 = .ok (.aload_n 0, 1) := by decide +kernel
theorem dX12_picture_131 : decode cX12_picture 131 = .ok (.getfield 220, 3) := by decide +kernel
theorem dX12_picture_134 : decode cX12_picture 134 = .ok (.iload 5, 2) := by decide +kernel
theorem dX12_picture_136 : decode cX12_picture 136 = .ok (.iastore, 1) := by decide +kernel
theorem dX12_picture_137 : decode cX12_picture 137 = .ok (.aload_n 0, 1) := by decide +kernel
theorem dX12_picture_138 : decode cX12_picture 138 = .ok (.dup, 1) := by decide +kernel
theorem dX12_picture_139 : decode cX12_picture 139 = .ok (.getfield 220, 3) := by decide +kernel
theorem dX12_picture_142 : decode cX12_picture 142 = .ok (.iconst 1, 1) := by decide +kernel
theorem dX12_picture_143 : decode cX12_picture 143 = .ok (.iadd, 1) := by decide +kernel
theorem dX12_picture_144 : decode cX12_picture 144 = .ok (.putfield 220, 3) := by decide +kernel
theorem dX12_picture_147 : decode cX12_picture 147 = .ok (.aload_n 0, 1) := by decide +kernel
theorem dX12_picture_148 : decode cX12_picture 148 = .ok (.getfield 220, 3) := by decide +kernel
theorem dX12_picture_151 : decode cX12_picture 151 = .ok (.iconst 1, 1) := by decide +kernel
theorem dX12_picture_152 : decode cX12_picture 152 = .ok (.isub, 1) := by decide +kernel
theorem dX12_picture_153 : decode cX12_picture 153 = .ok (.ireturn, 1) := by decide +kernel
theorem dX12_print_0 : decode cX12_print 0 = .ok (.aload_n 0, 1) := by decide +kernel
theorem dX12_print_1 : decode cX12_print 1 = .ok (.iload_n 1, 1) := by decide +kernel
theorem dX12_print_2 : decode cX12_print 2 = .ok (.invokevirtual 239, 3) := by decide +kernel
theorem dX12_print_5 : decode cX12_print 5 = .ok (.ifCond .eq 12, 3) := by decide +kernel
theorem dX12_print_8 : decode cX12_print 8 = .ok (.aload_n 0, 1) := by decide +kernel
theorem dX12_print_9 : decode cX12_print 9 = .ok (.getfield 227, 3) := by decide +kernel
theorem dX12_print_12 : decode cX12_print 12 = .ok (.bipush 30, 2) := by decide +kernel
theorem dX12_print_14 : decode cX12_print 14 = .ok (.if_icmp .ne 5, 3) := by decide +kernel
theorem dX12_print_17 : decode cX12_print 17 = .ok (.iconst (-1), 1) := by decide +kernel
theorem dX12_print_18 : decode cX12_print 18 = .ok (.ireturn, 1) := by decide +kernel
theorem dX12_print_19 : decode cX12_print 19 = .ok (.aload_n 0, 1) := by decide +kernel
theorem dX12_print_20 : decode cX12_print 20 = .ok (.getfield 25, 3) := by decide +kernel
theorem dX12_print_23 : decode cX12_print 23 = .ok (.aload_n 0, 1) := by decide +kernel
theorem dX12_print_24 : decode cX12_print 24 = .ok (.getfield 227, 3) := by decide +kernel
theorem dX12_print_27 : decode cX12_print 27 = .ok (.iload_n 1, 1) := by decide +kernel
theorem dX12_print_28 : decode cX12_print 28 = .ok (.iastore, 1) := by decide +kernel
theorem dX12_print_29 : decode cX12_print 29 = .ok (.aload_n 0, 1) := by decide +kernel
theorem dX12_print_30 : decode cX12_print 30 = .ok (.getfield 31, 3) := by decide +kernel
theorem dX12_print_33 : decode cX12_print 33 = .ok (.aload_n 0, 1) := by decide +kernel
theorem dX12_print_34 : decode cX12_print 34 = .ok (.getfield 227, 3) := by decide +kernel
theorem dX12_print_37 : decode cX12_print 37 = .ok (.iconst (-1), 1) := by decide +kernel
theorem dX12_print_38 : decode cX12_print 38 = .ok (.iastore, 1) := by decide +kernel
theorem dX12_print_39 : decode cX12_print 39 = .ok (.aload_n 0, 1) := by decide +kernel
theorem dX12_print_40 : decode cX12_print 40 = .ok (.dup, 1) := by decide +kernel
theorem dX12_print_41 : decode cX12_print 41 = .ok (.getfield 227, 3) := by decide +kernel
theorem dX12_print_44 : decode cX12_print 44 = .ok (.iconst 1, 1) := by decide +kernel
theorem dX12_print_45 : decode cX12_print 45 = .ok (.iadd, 1) := by decide +kernel
theorem dX12_print_46 : decode cX12_print 46 = .ok (.putfield 227, 3) := by decide +kernel
theorem dX12_print_49 : decode cX12_print 49 = .ok (.aload_n 0, 1) := by decide +kernel
theorem dX12_print_50 : decode cX12_print 50 = .ok (.getfield 227, 3) := by decide +kernel
theorem dX12_print_53 : decode cX12_print 53 = .ok (.iconst 1, 1) := by decide +kernel
theorem dX12_print_54 : decode cX12_print 54 = .ok (.isub, 1) := by decide +kernel
theorem dX12_print_55 : decode cX12_print 55 = .ok (.ireturn, 1) := by decide +kernel
theorem dX12_canBe_0 : decode cX12_canBe 0 = .ok (.iload_n 0, 1) := by decide +kernel
theorem dX12_canBe_1 : decode cX12_canBe 1 = .ok (.tableswitch 56 0 2 #[27, 27, 35], 27) := by decide +kernel
theorem dX12_canBe_28 : decode cX12_canBe 28 = .ok (.iload_n 1, 1) := by decide +kernel
theorem dX12_canBe_29 : decode cX12_canBe 29 = .ok (.iconst 1, 1) := by decide +kernel
theorem dX12_canBe_30 : decode cX12_canBe 30 = .ok (.bipush 99, 2) := by decide +kernel
theorem dX12_canBe_32 : decode cX12_canBe 32 = .ok (.invokestatic 223, 3) := by decide +kernel
theorem dX12_canBe_35 : decode cX12_canBe 35 = .ok (.ireturn, 1) := by decide +kernel
theorem dX12_canBe_36 : decode cX12_canBe 36 = .ok (.iload_n 1, 1) := by decide +kernel
theorem dX12_canBe_37 : decode cX12_canBe 37 = .ok (.bipush (-9), 2) := by decide +kernel
theorem dX12_canBe_39 : decode cX12_canBe 39 = .ok (.bipush 9, 2) := by decide +kernel
theorem dX12_canBe_41 : decode cX12_canBe 41 = .ok (.invokestatic 223, 3) := by decide +kernel
theorem dX12_canBe_44 : decode cX12_canBe 44 = .ok (.ifCond .eq 11, 3) := by decide +kernel
theorem dX12_canBe_47 : decode cX12_canBe 47 = .ok (.iload_n 1, 1) := by decide +kernel
theorem dX12_canBe_48 : decode cX12_canBe 48 = .ok (.ifCond .eq 7, 3) := by decide +kernel
theorem dX12_canBe_51 : decode cX12_canBe 51 = .ok (.iconst 1, 1) := by decide +kernel
theorem dX12_canBe_52 : decode cX12_canBe 52 = .ok (.goto 4, 3) := by decide +kernel
theorem dX12_canBe_55 : decode cX12_canBe 55 = .ok (.iconst 0, 1) := by decide +kernel
theorem dX12_canBe_56 : decode cX12_canBe 56 = .ok (.ireturn, 1) := by decide +kernel
theorem dX12_canBe_57 : decode cX12_canBe 57 = .ok (.iload_n 0, 1) := by decide +kernel
theorem dX12_canBe_58 : decode cX12_canBe 58 = .ok (.iconst 3, 1) := by decide +kernel
theorem dX12_canBe_59 : decode cX12_canBe 59 = .ok (.if_icmp .ne 18, 3) := by decide +kernel
theorem dX12_canBe_62 : decode cX12_canBe 62 = .ok (.iload_n 1, 1) := by decide +kernel
theorem dX12_canBe_63 : decode cX12_canBe 63 = .ok (.bipush (-99), 2) := by decide +kernel
theorem dX12_canBe_65 : decode cX12_canBe 65 = .ok (.bipush 99, 2) := by decide +kernel
theorem dX12_canBe_67 : decode cX12_canBe 67 = .ok (.invokestatic 223, 3) := by decide +kernel
theorem dX12_canBe_70 : decode cX12_canBe 70 = .ok (.ifCond .eq 7, 3) := by decide +kernel
theorem dX12_canBe_73 : decode cX12_canBe 73 = .ok (.iconst 1, 1) := by decide +kernel
theorem dX12_canBe_74 : decode cX12_canBe 74 = .ok (.goto 4, 3) := by decide +kernel
theorem dX12_canBe_77 : decode cX12_canBe 77 = .ok (.iconst 0, 1) := by decide +kernel
theorem dX12_canBe_78 : decode cX12_canBe 78 = .ok (.ireturn, 1) := by decide +kernel
theorem dX12_event_0 : decode cX12_event 0 = .ok (.aload_n 0, 1) := by decide +kernel
theorem dX12_event_1 : decode cX12_event 1 = .ok (.iload_n 1, 1) := by decide +kernel
theorem dX12_event_2 : decode cX12_event 2 = .ok (.invokevirtual 243, 3) := by decide +kernel
theorem dX12_event_5 : decode cX12_event 5 = .ok (.ifCond .eq 52, 3) := by decide +kernel
theorem dX12_event_8 : decode cX12_event 8 = .ok (.iload_n 2, 1) := by decide +kernel
theorem dX12_event_9 : decode cX12_event 9 = .ok (.iload 4, 2) := by decide +kernel
theorem dX12_event_11 : decode cX12_event 11 = .ok (.invokestatic 246, 3) := by decide +kernel
theorem dX12_event_14 : decode cX12_event 14 = .ok (.ifCond .eq 43, 3) := by decide +kernel
theorem dX12_event_17 : decode cX12_event 17 = .ok (.iload_n 3, 1) := by decide +kernel
theorem dX12_event_18 : decode cX12_event 18 = .ok (.iconst 0, 1) := by decide +kernel
theorem dX12_event_19 : decode cX12_event 19 = .ok (.iload_n 2, 1) := by decide +kernel
theorem dX12_event_20 : decode cX12_event 20 = .ok (.iconst 3, 1) := by decide +kernel
theorem dX12_event_21 : decode cX12_event 21 = .ok (.if_icmp .ne 7, 3) := by decide +kernel
theorem dX12_event_24 : decode cX12_event 24 = .ok (.iconst 0, 1) := by decide +kernel
theorem dX12_event_25 : decode cX12_event 25 = .ok (.goto 16, 3) := by decide +kernel
theorem dX12_event_28 : decode cX12_event 28 = .ok (.aload_n 0, 1) := by decide +kernel
theorem dX12_event_29 : decode cX12_event 29 = .ok (.getfield 22, 3) := by decide +kernel
theorem dX12_event_32 : decode cX12_event 32 = .ok (.aload_n 0, 1) := by decide +kernel
theorem dX12_event_33 : decode cX12_event 33 = .ok (.getfield 25, 3) := by decide +kernel
theorem dX12_event_36 : decode cX12_event 36 = .ok (.iload_n 1, 1) := by decide +kernel
theorem dX12_event_37 : decode cX12_event 37 = .ok (.iaload, 1) := by decide +kernel
theorem dX12_event_38 : decode cX12_event 38 = .ok (.iaload, 1) := by decide +kernel
theorem dX12_event_39 : decode cX12_event 39 = .ok (.iconst 1, 1) := by decide +kernel
theorem dX12_event_40 : decode cX12_event 40 = .ok (.isub, 1) := by decide +kernel
theorem dX12_event_41 : decode cX12_event 41 = .ok (.invokestatic 223, 3) := by decide +kernel
theorem dX12_event_44 : decode cX12_event 44 = .ok (.ifCond .eq 13, 3) := by decide +kernel
theorem dX12_event_47 : decode cX12_event 47 = .ok (.aload_n 0, 1) := by decide +kernel
theorem dX12_event_48 : decode cX12_event 48 = .ok (.getfield 250, 3) := by decide +kernel
theorem dX12_event_51 : decode cX12_event 51 = .ok (.sipush 150, 3) := by decide +kernel
theorem dX12_event_54 : decode cX12_event 54 = .ok (.if_icmp .ne 5, 3) := by decide +kernel
theorem dX12_event_57 : decode cX12_event 57 = .ok (.iconst (-1), 1) := by decide +kernel
theorem dX12_event_58 : decode cX12_event 58 = .ok (.ireturn, 1) := by decide +kernel
theorem dX12_event_59 : decode cX12_event 59 = .ok (.aload_n 0, 1) := by decide +kernel
theorem dX12_event_60 : decode cX12_event 60 = .ok (.getfield 34, 3) := by decide +kernel
theorem dX12_event_63 : decode cX12_event 63 = .ok (.aload_n 0, 1) := by decide +kernel
theorem dX12_event_64 : decode cX12_event 64 = .ok (.getfield 250, 3) := by decide +kernel
theorem dX12_event_67 : decode cX12_event 67 = .ok (.iload_n 1, 1) := by decide +kernel
theorem dX12_event_68 : decode cX12_event 68 = .ok (.iastore, 1) := by decide +kernel
theorem dX12_event_69 : decode cX12_event 69 = .ok (.aload_n 0, 1) := by decide +kernel
theorem dX12_event_70 : decode cX12_event 70 = .ok (.getfield 37, 3) := by decide +kernel
theorem dX12_event_73 : decode cX12_event 73 = .ok (.aload_n 0, 1) := by decide +kernel
theorem dX12_event_74 : decode cX12_event 74 = .ok (.getfield 250, 3) := by decide +kernel
theorem dX12_event_77 : decode cX12_event 77 = .ok (.iload_n 2, 1) := by decide +kernel
theorem dX12_event_78 : decode cX12_event 78 = .ok (.iastore, 1) := by decide +kernel
theorem dX12_event_79 : decode cX12_event 79 = .ok (.aload_n 0, 1) := by decide +kernel
theorem dX12_event_80 : decode cX12_event 80 = .ok (.getfield 40, 3) := by decide +kernel
theorem dX12_event_83 : decode cX12_event 83 = .ok (.aload_n 0, 1) := by decide +kernel
theorem dX12_event_84 : decode cX12_event 84 = .ok (.getfield 250, 3) := by decide +kernel
theorem dX12_event_87 : decode cX12_event 87 = .ok (.iload_n 3, 1) := by decide +kernel
theorem dX12_event_88 : decode cX12_event 88 = .ok (.iastore, 1) := by decide +kernel
theorem dX12_event_89 : decode cX12_event 89 = .ok (.aload_n 0, 1) := by decide +kernel
theorem dX12_event_90 : decode cX12_event 90 = .ok (.getfield 43, 3) := by decide +kernel
theorem dX12_event_93 : decode cX12_event 93 = .ok (.aload_n 0, 1) := by decide +kernel
theorem dX12_event_94 : decode cX12_event 94 = .ok (.getfield 250, 3) := by decide +kernel
theorem dX12_event_97 : decode cX12_event 97 = .ok (.iload 4, 2) := by decide +kernel
theorem dX12_event_99 : decode cX12_event 99 = .ok (.iastore, 1) := by decide +kernel
theorem dX12_event_100 : decode cX12_event 100 = .ok (.aload_n 0, 1) := by decide +kernel
theorem dX12_event_101 : decode cX12_event 101 = .ok (.getfield 46, 3) := by decide +kernel
theorem dX12_event_104 : decode cX12_event 104 = .ok (.aload_n 0, 1) := by decide +kernel
theorem dX12_event_105 : decode cX12_event 105 = .ok (.getfield 250, 3) := by decide +kernel
theorem dX12_event_108 : decode cX12_event 108 = .ok (.aload_n 0, 1) := by decide +kernel
theorem dX12_event_109 : decode cX12_event 109 = .ok (.getfield 253, 3) := by decide +kernel
theorem dX12_event_112 : decode cX12_event 112 = .ok (.iastore, 1) := by decide +kernel
theorem dX12_event_113 : decode cX12_event 113 = .ok (.aload_n 0, 1) := by decide +kernel
theorem dX12_event_114 : decode cX12_event 114 = .ok (.dup, 1) := by decide +kernel
theorem dX12_event_115 : decode cX12_event 115 = .ok (.getfield 250, 3) := by decide +kernel
theorem dX12_event_118 : decode cX12_event 118 = .ok (.iconst 1, 1) := by decide +kernel
theorem dX12_event_119 : decode cX12_event 119 = .ok (.iadd, 1) := by decide +kernel
theorem dX12_event_120 : decode cX12_event 120 = .ok (.putfield 250, 3) := by decide +kernel
theorem dX12_event_123 : decode cX12_event 123 = .ok (.aload_n 0, 1) := by decide +kernel
theorem dX12_event_124 : decode cX12_event 124 = .ok (.getfield 250, 3) := by decide +kernel
theorem dX12_event_127 : decode cX12_event 127 = .ok (.ireturn, 1) := by decide +kernel
theorem dX12_leadOf_0 : decode cX12_leadOf 0 = .ok (.aload_n 0, 1) := by decide +kernel
theorem dX12_leadOf_1 : decode cX12_leadOf 1 = .ok (.getfield 19, 3) := by decide +kernel
theorem dX12_leadOf_4 : decode cX12_leadOf 4 = .ok (.aload_n 0, 1) := by decide +kernel
theorem dX12_leadOf_5 : decode cX12_leadOf 5 = .ok (.getfield 25, 3) := by decide +kernel
theorem dX12_leadOf_8 : decode cX12_leadOf 8 = .ok (.iload_n 1, 1) := by decide +kernel
theorem dX12_leadOf_9 : decode cX12_leadOf 9 = .ok (.iaload, 1) := by decide +kernel
theorem dX12_leadOf_10 : decode cX12_leadOf 10 = .ok (.iaload, 1) := by decide +kernel
theorem dX12_leadOf_11 : decode cX12_leadOf 11 = .ok (.ifCond .eq 5, 3) := by decide +kernel
theorem dX12_leadOf_14 : decode cX12_leadOf 14 = .ok (.iconst 0, 1) := by decide +kernel
theorem dX12_leadOf_15 : decode cX12_leadOf 15 = .ok (.ireturn, 1) := by decide +kernel
theorem dX12_leadOf_16 : decode cX12_leadOf 16 = .ok (.iconst 0, 1) := by decide +kernel
theorem dX12_leadOf_17 : decode cX12_leadOf 17 = .ok (.istore 4, 2) := by decide +kernel
theorem dX12_leadOf_19 : decode cX12_leadOf 19 = .ok (.iconst 0, 1) := by decide +kernel
theorem dX12_leadOf_20 : decode cX12_leadOf 20 = .ok (.istore 5, 2) := by decide +kernel
theorem dX12_leadOf_22 : decode cX12_leadOf 22 = .ok (.iconst 0, 1) := by decide +kernel
theorem dX12_leadOf_23 : decode cX12_leadOf 23 = .ok (.istore 6, 2) := by decide +kernel
theorem dX12_leadOf_25 : decode cX12_leadOf 25 = .ok (.iload 6, 2) := by decide +kernel
theorem dX12_leadOf_27 : decode cX12_leadOf 27 = .ok (.aload_n 0, 1) := by decide +kernel
theorem dX12_leadOf_28 : decode cX12_leadOf 28 = .ok (.getfield 250, 3) := by decide +kernel
theorem dX12_leadOf_31 : decode cX12_leadOf 31 = .ok (.if_icmp .ge 114, 3) := by decide +kernel
theorem dX12_leadOf_34 : decode cX12_leadOf 34 = .ok (.aload_n 0, 1) := by decide +kernel
theorem dX12_leadOf_35 : decode cX12_leadOf 35 = .ok (.getfield 34, 3) := by decide +kernel
theorem dX12_leadOf_38 : decode cX12_leadOf 38 = .ok (.iload 6, 2) := by decide +kernel
theorem dX12_leadOf_40 : decode cX12_leadOf 40 = .ok (.iaload, 1) := by decide +kernel
theorem dX12_leadOf_41 : decode cX12_leadOf 41 = .ok (.iload_n 1, 1) := by decide +kernel
theorem dX12_leadOf_42 : decode cX12_leadOf 42 = .ok (.if_icmp .ne 97, 3) := by decide +kernel
theorem dX12_leadOf_45 : decode cX12_leadOf 45 = .ok (.aload_n 0, 1) := by decide +kernel
theorem dX12_leadOf_46 : decode cX12_leadOf 46 = .ok (.getfield 46, 3) := by decide +kernel
theorem dX12_leadOf_49 : decode cX12_leadOf 49 = .ok (.iload 6, 2) := by decide +kernel
theorem dX12_leadOf_51 : decode cX12_leadOf 51 = .ok (.iaload, 1) := by decide +kernel
theorem dX12_leadOf_52 : decode cX12_leadOf 52 = .ok (.iload_n 3, 1) := by decide +kernel
theorem dX12_leadOf_53 : decode cX12_leadOf 53 = .ok (.if_icmp .gt 86, 3) := by decide +kernel
theorem dX12_leadOf_56 : decode cX12_leadOf 56 = .ok (.aload_n 0, 1) := by decide +kernel
theorem dX12_leadOf_57 : decode cX12_leadOf 57 = .ok (.getfield 40, 3) := by decide +kernel
theorem dX12_leadOf_60 : decode cX12_leadOf 60 = .ok (.iload 6, 2) := by decide +kernel
theorem dX12_leadOf_62 : decode cX12_leadOf 62 = .ok (.iaload, 1) := by decide +kernel
theorem dX12_leadOf_63 : decode cX12_leadOf 63 = .ok (.iload_n 2, 1) := by decide +kernel
theorem dX12_leadOf_64 : decode cX12_leadOf 64 = .ok (.if_icmp .le 6, 3) := by decide +kernel
theorem dX12_leadOf_67 : decode cX12_leadOf 67 = .ok (.goto 72, 3) := by decide +kernel
theorem dX12_leadOf_70 : decode cX12_leadOf 70 = .ok (.aload_n 0, 1) := by decide +kernel
theorem dX12_leadOf_71 : decode cX12_leadOf 71 = .ok (.getfield 43, 3) := by decide +kernel
theorem dX12_leadOf_74 : decode cX12_leadOf 74 = .ok (.iload 6, 2) := by decide +kernel
theorem dX12_leadOf_76 : decode cX12_leadOf 76 = .ok (.iaload, 1) := by decide +kernel
theorem dX12_leadOf_77 : decode cX12_leadOf 77 = .ok (.istore 7, 2) := by decide +kernel
theorem dX12_leadOf_79 : decode cX12_leadOf 79 = .ok (.aload_n 0, 1) := by decide +kernel
theorem dX12_leadOf_80 : decode cX12_leadOf 80 = .ok (.getfield 37, 3) := by decide +kernel
theorem dX12_leadOf_83 : decode cX12_leadOf 83 = .ok (.iload 6, 2) := by decide +kernel
theorem dX12_leadOf_85 : decode cX12_leadOf 85 = .ok (.iaload, 1) := by decide +kernel
theorem dX12_leadOf_86 : decode cX12_leadOf 86 = .ok (.iconst 3, 1) := by decide +kernel
theorem dX12_leadOf_87 : decode cX12_leadOf 87 = .ok (.if_icmp .ne 10, 3) := by decide +kernel
theorem dX12_leadOf_90 : decode cX12_leadOf 90 = .ok (.iload 7, 2) := by decide +kernel
theorem dX12_leadOf_92 : decode cX12_leadOf 92 = .ok (.istore 5, 2) := by decide +kernel
theorem dX12_leadOf_94 : decode cX12_leadOf 94 = .ok (.goto 45, 3) := by decide +kernel
theorem dX12_leadOf_97 : decode cX12_leadOf 97 = .ok (.iload 4, 2) := by decide +kernel
theorem dX12_leadOf_99 : decode cX12_leadOf 99 = .ok (.aload_n 0, 1) := by decide +kernel
theorem dX12_leadOf_100 : decode cX12_leadOf 100 = .ok (.getfield 37, 3) := by decide +kernel
theorem dX12_leadOf_103 : decode cX12_leadOf 103 = .ok (.iload 6, 2) := by decide +kernel
theorem dX12_leadOf_105 : decode cX12_leadOf 105 = .ok (.iaload, 1) := by decide +kernel
theorem dX12_leadOf_106 : decode cX12_leadOf 106 = .ok (.ifCond .ne 9, 3) := by decide +kernel
theorem dX12_leadOf_109 : decode cX12_leadOf 109 = .ok (.iload 7, 2) := by decide +kernel
theorem dX12_leadOf_111 : decode cX12_leadOf 111 = .ok (.ineg, 1) := by decide +kernel
theorem dX12_leadOf_112 : decode cX12_leadOf 112 = .ok (.goto 24, 3) := by decide +kernel
theorem dX12_leadOf_115 : decode cX12_leadOf 115 = .ok (.aload_n 0, 1) := by decide +kernel
theorem dX12_leadOf_116 : decode cX12_leadOf 116 = .ok (.getfield 37, 3) := by decide +kernel
theorem dX12_leadOf_119 : decode cX12_leadOf 119 = .ok (.iload 6, 2) := by decide +kernel
theorem dX12_leadOf_121 : decode cX12_leadOf 121 = .ok (.iaload, 1) := by decide +kernel
theorem dX12_leadOf_122 : decode cX12_leadOf 122 = .ok (.iconst 1, 1) := by decide +kernel
theorem dX12_leadOf_123 : decode cX12_leadOf 123 = .ok (.if_icmp .ne 8, 3) := by decide +kernel
theorem dX12_leadOf_126 : decode cX12_leadOf 126 = .ok (.iload 7, 2) := by decide +kernel
theorem dX12_leadOf_128 : decode cX12_leadOf 128 = .ok (.goto 8, 3) := by decide +kernel
theorem dX12_leadOf_131 : decode cX12_leadOf 131 = .ok (.bipush 33, 2) := by decide +kernel
theorem dX12_leadOf_133 : decode cX12_leadOf 133 = .ok (.iload 7, 2) := by decide +kernel
theorem dX12_leadOf_135 : decode cX12_leadOf 135 = .ok (.imul, 1) := by decide +kernel
theorem dX12_leadOf_136 : decode cX12_leadOf 136 = .ok (.iadd, 1) := by decide +kernel
theorem dX12_leadOf_137 : decode cX12_leadOf 137 = .ok (.istore 4, 2) := by decide +kernel
theorem dX12_leadOf_139 : decode cX12_leadOf 139 = .ok (.iinc 6 1, 3) := by decide +kernel
theorem dX12_leadOf_142 : decode cX12_leadOf 142 = .ok (.goto (-117), 3) := by decide +kernel
theorem dX12_leadOf_145 : decode cX12_leadOf 145 = .ok (.iload 4, 2) := by decide +kernel
theorem dX12_leadOf_147 : decode cX12_leadOf 147 = .ok (.iload 5, 2) := by decide +kernel
theorem dX12_leadOf_149 : decode cX12_leadOf 149 = .ok (.iadd, 1) := by decide +kernel
theorem dX12_leadOf_150 : decode cX12_leadOf 150 = .ok (.ireturn, 1) := by decide +kernel
theorem dX12_lead_0 : decode cX12_lead 0 = .ok (.aload_n 0, 1) := by decide +kernel
theorem dX12_lead_1 : decode cX12_lead 1 = .ok (.iload_n 1, 1) := by decide +kernel
theorem dX12_lead_2 : decode cX12_lead 2 = .ok (.invokevirtual 243, 3) := by decide +kernel
theorem dX12_lead_5 : decode cX12_lead 5 = .ok (.ifCond .eq 46, 3) := by decide +kernel
theorem dX12_lead_8 : decode cX12_lead 8 = .ok (.iload_n 2, 1) := by decide +kernel
theorem dX12_lead_9 : decode cX12_lead 9 = .ok (.iconst 0, 1) := by decide +kernel
theorem dX12_lead_10 : decode cX12_lead 10 = .ok (.aload_n 0, 1) := by decide +kernel
theorem dX12_lead_11 : decode cX12_lead 11 = .ok (.getfield 22, 3) := by decide +kernel
theorem dX12_lead_14 : decode cX12_lead 14 = .ok (.aload_n 0, 1) := by decide +kernel
theorem dX12_lead_15 : decode cX12_lead 15 = .ok (.getfield 25, 3) := by decide +kernel
theorem dX12_lead_18 : decode cX12_lead 18 = .ok (.iload_n 1, 1) := by decide +kernel
theorem dX12_lead_19 : decode cX12_lead 19 = .ok (.iaload, 1) := by decide +kernel
theorem dX12_lead_20 : decode cX12_lead 20 = .ok (.iaload, 1) := by decide +kernel
theorem dX12_lead_21 : decode cX12_lead 21 = .ok (.iconst 1, 1) := by decide +kernel
theorem dX12_lead_22 : decode cX12_lead 22 = .ok (.isub, 1) := by decide +kernel
theorem dX12_lead_23 : decode cX12_lead 23 = .ok (.invokestatic 223, 3) := by decide +kernel
theorem dX12_lead_26 : decode cX12_lead 26 = .ok (.ifCond .eq 25, 3) := by decide +kernel
theorem dX12_lead_29 : decode cX12_lead 29 = .ok (.iload_n 3, 1) := by decide +kernel
theorem dX12_lead_30 : decode cX12_lead 30 = .ok (.iconst 0, 1) := by decide +kernel
theorem dX12_lead_31 : decode cX12_lead 31 = .ok (.aload_n 0, 1) := by decide +kernel
theorem dX12_lead_32 : decode cX12_lead 32 = .ok (.getfield 253, 3) := by decide +kernel
theorem dX12_lead_35 : decode cX12_lead 35 = .ok (.invokestatic 223, 3) := by decide +kernel
theorem dX12_lead_38 : decode cX12_lead 38 = .ok (.ifCond .eq 13, 3) := by decide +kernel
theorem dX12_lead_41 : decode cX12_lead 41 = .ok (.aload_n 0, 1) := by decide +kernel
theorem dX12_lead_42 : decode cX12_lead 42 = .ok (.iload_n 1, 1) := by decide +kernel
theorem dX12_lead_43 : decode cX12_lead 43 = .ok (.iload_n 2, 1) := by decide +kernel
theorem dX12_lead_44 : decode cX12_lead 44 = .ok (.iload_n 3, 1) := by decide +kernel
theorem dX12_lead_45 : decode cX12_lead 45 = .ok (.invokevirtual 256, 3) := by decide +kernel
theorem dX12_lead_48 : decode cX12_lead 48 = .ok (.goto 6, 3) := by decide +kernel
theorem dX12_lead_51 : decode cX12_lead 51 = .ok (.sipush (-9999), 3) := by decide +kernel
theorem dX12_lead_54 : decode cX12_lead 54 = .ok (.ireturn, 1) := by decide +kernel
theorem dX12_offOf_0 : decode cX12_offOf 0 = .ok (.iconst (-1), 1) := by decide +kernel
theorem dX12_offOf_1 : decode cX12_offOf 1 = .ok (.istore_n 3, 1) := by decide +kernel
theorem dX12_offOf_2 : decode cX12_offOf 2 = .ok (.iconst (-1), 1) := by decide +kernel
theorem dX12_offOf_3 : decode cX12_offOf 3 = .ok (.istore 4, 2) := by decide +kernel
theorem dX12_offOf_5 : decode cX12_offOf 5 = .ok (.iload 4, 2) := by decide +kernel
theorem dX12_offOf_7 : decode cX12_offOf 7 = .ok (.aload_n 0, 1) := by decide +kernel
theorem dX12_offOf_8 : decode cX12_offOf 8 = .ok (.getfield 250, 3) := by decide +kernel
theorem dX12_offOf_11 : decode cX12_offOf 11 = .ok (.if_icmp .ge 83, 3) := by decide +kernel
theorem dX12_offOf_14 : decode cX12_offOf 14 = .ok (.iload 4, 2) := by decide +kernel
theorem dX12_offOf_16 : decode cX12_offOf 16 = .ok (.ifCond .lt 17, 3) := by decide +kernel
theorem dX12_offOf_19 : decode cX12_offOf 19 = .ok (.aload_n 0, 1) := by decide +kernel
theorem dX12_offOf_20 : decode cX12_offOf 20 = .ok (.getfield 34, 3) := by decide +kernel
theorem dX12_offOf_23 : decode cX12_offOf 23 = .ok (.iload 4, 2) := by decide +kernel
theorem dX12_offOf_25 : decode cX12_offOf 25 = .ok (.iaload, 1) := by decide +kernel
theorem dX12_offOf_26 : decode cX12_offOf 26 = .ok (.iload_n 1, 1) := by decide +kernel
theorem dX12_offOf_27 : decode cX12_offOf 27 = .ok (.if_icmp .eq 6, 3) := by decide +kernel
theorem dX12_offOf_30 : decode cX12_offOf 30 = .ok (.goto 58, 3) := by decide +kernel
theorem dX12_offOf_33 : decode cX12_offOf 33 = .ok (.iload 4, 2) := by decide +kernel
theorem dX12_offOf_35 : decode cX12_offOf 35 = .ok (.ifCond .ge 7, 3) := by decide +kernel
theorem dX12_offOf_38 : decode cX12_offOf 38 = .ok (.iconst 0, 1) := by decide +kernel
theorem dX12_offOf_39 : decode cX12_offOf 39 = .ok (.goto 10, 3) := by decide +kernel
theorem dX12_offOf_42 : decode cX12_offOf 42 = .ok (.aload_n 0, 1) := by decide +kernel
theorem dX12_offOf_43 : decode cX12_offOf 43 = .ok (.getfield 40, 3) := by decide +kernel
theorem dX12_offOf_46 : decode cX12_offOf 46 = .ok (.iload 4, 2) := by decide +kernel
theorem dX12_offOf_48 : decode cX12_offOf 48 = .ok (.iaload, 1) := by decide +kernel
theorem dX12_offOf_49 : decode cX12_offOf 49 = .ok (.istore 5, 2) := by decide +kernel
theorem dX12_offOf_51 : decode cX12_offOf 51 = .ok (.aload_n 0, 1) := by decide +kernel
theorem dX12_offOf_52 : decode cX12_offOf 52 = .ok (.iload_n 1, 1) := by decide +kernel
theorem dX12_offOf_53 : decode cX12_offOf 53 = .ok (.iload 5, 2) := by decide +kernel
theorem dX12_offOf_55 : decode cX12_offOf 55 = .ok (.iload_n 2, 1) := by decide +kernel
theorem dX12_offOf_56 : decode cX12_offOf 56 = .ok (.invokevirtual 256, 3) := by decide +kernel
theorem dX12_offOf_59 : decode cX12_offOf 59 = .ok (.istore 6, 2) := by decide +kernel
theorem dX12_offOf_61 : decode cX12_offOf 61 = .ok (.iload 6, 2) := by decide +kernel
theorem dX12_offOf_63 : decode cX12_offOf 63 = .ok (.iconst 3, 1) := by decide +kernel
theorem dX12_offOf_64 : decode cX12_offOf 64 = .ok (.if_icmp .gt 10, 3) := by decide +kernel
theorem dX12_offOf_67 : decode cX12_offOf 67 = .ok (.iload 6, 2) := by decide +kernel
theorem dX12_offOf_69 : decode cX12_offOf 69 = .ok (.bipush (-3), 2) := by decide +kernel
theorem dX12_offOf_71 : decode cX12_offOf 71 = .ok (.if_icmp .ge 17, 3) := by decide +kernel
theorem dX12_offOf_74 : decode cX12_offOf 74 = .ok (.iload_n 3, 1) := by decide +kernel
theorem dX12_offOf_75 : decode cX12_offOf 75 = .ok (.iconst (-1), 1) := by decide +kernel
theorem dX12_offOf_76 : decode cX12_offOf 76 = .ok (.if_icmp .eq 9, 3) := by decide +kernel
theorem dX12_offOf_79 : decode cX12_offOf 79 = .ok (.iload 5, 2) := by decide +kernel
theorem dX12_offOf_81 : decode cX12_offOf 81 = .ok (.iload_n 3, 1) := by decide +kernel
theorem dX12_offOf_82 : decode cX12_offOf 82 = .ok (.if_icmp .ge 6, 3) := by decide +kernel
theorem dX12_offOf_85 : decode cX12_offOf 85 = .ok (.iload 5, 2) := by decide +kernel
theorem dX12_offOf_87 : decode cX12_offOf 87 = .ok (.istore_n 3, 1) := by decide +kernel
theorem dX12_offOf_88 : decode cX12_offOf 88 = .ok (.iinc 4 1, 3) := by decide +kernel
theorem dX12_offOf_91 : decode cX12_offOf 91 = .ok (.goto (-86), 3) := by decide +kernel
theorem dX12_offOf_94 : decode cX12_offOf 94 = .ok (.iload_n 3, 1) := by decide +kernel
theorem dX12_offOf_95 : decode cX12_offOf 95 = .ok (.ireturn, 1) := by decide +kernel
theorem dX12_off_0 : decode cX12_off 0 = .ok (.aload_n 0, 1) := by decide +kernel
theorem dX12_off_1 : decode cX12_off 1 = .ok (.iload_n 1, 1) := by decide +kernel
theorem dX12_off_2 : decode cX12_off 2 = .ok (.invokevirtual 243, 3) := by decide +kernel
theorem dX12_off_5 : decode cX12_off 5 = .ok (.ifCond .eq 24, 3) := by decide +kernel
theorem dX12_off_8 : decode cX12_off 8 = .ok (.iload_n 2, 1) := by decide +kernel
theorem dX12_off_9 : decode cX12_off 9 = .ok (.iconst 0, 1) := by decide +kernel
theorem dX12_off_10 : decode cX12_off 10 = .ok (.aload_n 0, 1) := by decide +kernel
theorem dX12_off_11 : decode cX12_off 11 = .ok (.getfield 253, 3) := by decide +kernel
theorem dX12_off_14 : decode cX12_off 14 = .ok (.invokestatic 223, 3) := by decide +kernel
theorem dX12_off_17 : decode cX12_off 17 = .ok (.ifCond .eq 12, 3) := by decide +kernel
theorem dX12_off_20 : decode cX12_off 20 = .ok (.aload_n 0, 1) := by decide +kernel
theorem dX12_off_21 : decode cX12_off 21 = .ok (.iload_n 1, 1) := by decide +kernel
theorem dX12_off_22 : decode cX12_off 22 = .ok (.iload_n 2, 1) := by decide +kernel
theorem dX12_off_23 : decode cX12_off 23 = .ok (.invokevirtual 260, 3) := by decide +kernel
theorem dX12_off_26 : decode cX12_off 26 = .ok (.goto 4, 3) := by decide +kernel
theorem dX12_off_29 : decode cX12_off 29 = .ok (.iconst (-1), 1) := by decide +kernel
theorem dX12_off_30 : decode cX12_off 30 = .ok (.ireturn, 1) := by decide +kernel
theorem dX12_hall_0 : decode cX12_hall 0 = .ok (.iload_n 1, 1) := by decide +kernel
theorem dX12_hall_1 : decode cX12_hall 1 = .ok (.iconst 0, 1) := by decide +kernel
theorem dX12_hall_2 : decode cX12_hall 2 = .ok (.iconst 3, 1) := by decide +kernel
theorem dX12_hall_3 : decode cX12_hall 3 = .ok (.invokestatic 223, 3) := by decide +kernel
theorem dX12_hall_6 : decode cX12_hall 6 = .ok (.ifCond .eq 45, 3) := by decide +kernel
theorem dX12_hall_9 : decode cX12_hall 9 = .ok (.iload_n 2, 1) := by decide +kernel
theorem dX12_hall_10 : decode cX12_hall 10 = .ok (.bipush 10, 2) := by decide +kernel
theorem dX12_hall_12 : decode cX12_hall 12 = .ok (.sipush 999, 3) := by decide +kernel
theorem dX12_hall_15 : decode cX12_hall 15 = .ok (.invokestatic 223, 3) := by decide +kernel
theorem dX12_hall_18 : decode cX12_hall 18 = .ok (.ifCond .eq 33, 3) := by decide +kernel
theorem dX12_hall_21 : decode cX12_hall 21 = .ok (.iload_n 3, 1) := by decide +kernel
theorem dX12_hall_22 : decode cX12_hall 22 = .ok (.iconst 1, 1) := by decide +kernel
theorem dX12_hall_23 : decode cX12_hall 23 = .ok (.bipush 99, 2) := by decide +kernel
theorem dX12_hall_25 : decode cX12_hall 25 = .ok (.invokestatic 223, 3) := by decide +kernel
theorem dX12_hall_28 : decode cX12_hall 28 = .ok (.ifCond .eq 23, 3) := by decide +kernel
theorem dX12_hall_31 : decode cX12_hall 31 = .ok (.iload 4, 2) := by decide +kernel
theorem dX12_hall_33 : decode cX12_hall 33 = .ok (.iconst 0, 1) := by decide +kernel
theorem dX12_hall_34 : decode cX12_hall 34 = .ok (.bipush 40, 2) := by decide +kernel
theorem dX12_hall_36 : decode cX12_hall 36 = .ok (.invokestatic 223, 3) := by decide +kernel
theorem dX12_hall_39 : decode cX12_hall 39 = .ok (.ifCond .eq 12, 3) := by decide +kernel
theorem dX12_hall_42 : decode cX12_hall 42 = .ok (.aload_n 0, 1) := by decide +kernel
theorem dX12_hall_43 : decode cX12_hall 43 = .ok (.getfield 230, 3) := by decide +kernel
theorem dX12_hall_46 : decode cX12_hall 46 = .ok (.bipush 16, 2) := by decide +kernel
theorem dX12_hall_48 : decode cX12_hall 48 = .ok (.if_icmp .ne 5, 3) := by decide +kernel
theorem dX12_hall_51 : decode cX12_hall 51 = .ok (.iconst (-1), 1) := by decide +kernel
theorem dX12_hall_52 : decode cX12_hall 52 = .ok (.ireturn, 1) := by decide +kernel
theorem dX12_hall_53 : decode cX12_hall 53 = .ok (.aload_n 0, 1) := by decide +kernel
theorem dX12_hall_54 : decode cX12_hall 54 = .ok (.getfield 49, 3) := by decide +kernel
theorem dX12_hall_57 : decode cX12_hall 57 = .ok (.aload_n 0, 1) := by decide +kernel
theorem dX12_hall_58 : decode cX12_hall 58 = .ok (.getfield 230, 3) := by decide +kernel
theorem dX12_hall_61 : decode cX12_hall 61 = .ok (.iload_n 1, 1) := by decide +kernel
theorem dX12_hall_62 : decode cX12_hall 62 = .ok (.iastore, 1) := by decide +kernel
theorem dX12_hall_63 : decode cX12_hall 63 = .ok (.aload_n 0, 1) := by decide +kernel
theorem dX12_hall_64 : decode cX12_hall 64 = .ok (.getfield 52, 3) := by decide +kernel
theorem dX12_hall_67 : decode cX12_hall 67 = .ok (.aload_n 0, 1) := by decide +kernel
theorem dX12_hall_68 : decode cX12_hall 68 = .ok (.getfield 230, 3) := by decide +kernel
theorem dX12_hall_71 : decode cX12_hall 71 = .ok (.iload_n 2, 1) := by decide +kernel
theorem dX12_hall_72 : decode cX12_hall 72 = .ok (.iastore, 1) := by decide +kernel
theorem dX12_hall_73 : decode cX12_hall 73 = .ok (.aload_n 0, 1) := by decide +kernel
theorem dX12_hall_74 : decode cX12_hall 74 = .ok (.getfield 55, 3) := by decide +kernel
theorem dX12_hall_77 : decode cX12_hall 77 = .ok (.aload_n 0, 1) := by decide +kernel
theorem dX12_hall_78 : decode cX12_hall 78 = .ok (.getfield 230, 3) := by decide +kernel
theorem dX12_hall_81 : decode cX12_hall 81 = .ok (.iload_n 3, 1) := by decide +kernel
theorem dX12_hall_82 : decode cX12_hall 82 = .ok (.iastore, 1) := by decide +kernel
theorem dX12_hall_83 : decode cX12_hall 83 = .ok (.aload_n 0, 1) := by decide +kernel
theorem dX12_hall_84 : decode cX12_hall 84 = .ok (.getfield 58, 3) := by decide +kernel
theorem dX12_hall_87 : decode cX12_hall 87 = .ok (.aload_n 0, 1) := by decide +kernel
theorem dX12_hall_88 : decode cX12_hall 88 = .ok (.getfield 230, 3) := by decide +kernel
theorem dX12_hall_91 : decode cX12_hall 91 = .ok (.iload 4, 2) := by decide +kernel
theorem dX12_hall_93 : decode cX12_hall 93 = .ok (.iastore, 1) := by decide +kernel
theorem dX12_hall_94 : decode cX12_hall 94 = .ok (.aload_n 0, 1) := by decide +kernel
theorem dX12_hall_95 : decode cX12_hall 95 = .ok (.dup, 1) := by decide +kernel
theorem dX12_hall_96 : decode cX12_hall 96 = .ok (.getfield 230, 3) := by decide +kernel
theorem dX12_hall_99 : decode cX12_hall 99 = .ok (.iconst 1, 1) := by decide +kernel
theorem dX12_hall_100 : decode cX12_hall 100 = .ok (.iadd, 1) := by decide +kernel
theorem dX12_hall_101 : decode cX12_hall 101 = .ok (.putfield 230, 3) := by decide +kernel
theorem dX12_hall_104 : decode cX12_hall 104 = .ok (.aload_n 0, 1) := by decide +kernel
theorem dX12_hall_105 : decode cX12_hall 105 = .ok (.getfield 230, 3) := by decide +kernel
theorem dX12_hall_108 : decode cX12_hall 108 = .ok (.iconst 1, 1) := by decide +kernel
theorem dX12_hall_109 : decode cX12_hall 109 = .ok (.isub, 1) := by decide +kernel
theorem dX12_hall_110 : decode cX12_hall 110 = .ok (.ireturn, 1) := by decide +kernel
theorem dX12_asks_0 : decode cX12_asks 0 = .ok (.aload_n 0, 1) := by decide +kernel
theorem dX12_asks_1 : decode cX12_asks 1 = .ok (.iload_n 1, 1) := by decide +kernel
theorem dX12_asks_2 : decode cX12_asks 2 = .ok (.invokevirtual 264, 3) := by decide +kernel
theorem dX12_asks_5 : decode cX12_asks 5 = .ok (.ifCond .eq 23, 3) := by decide +kernel
theorem dX12_asks_8 : decode cX12_asks 8 = .ok (.iload_n 2, 1) := by decide +kernel
theorem dX12_asks_9 : decode cX12_asks 9 = .ok (.iconst 1, 1) := by decide +kernel
theorem dX12_asks_10 : decode cX12_asks 10 = .ok (.bipush 99, 2) := by decide +kernel
theorem dX12_asks_12 : decode cX12_asks 12 = .ok (.invokestatic 223, 3) := by decide +kernel
theorem dX12_asks_15 : decode cX12_asks 15 = .ok (.ifCond .eq 13, 3) := by decide +kernel
theorem dX12_asks_18 : decode cX12_asks 18 = .ok (.iload_n 3, 1) := by decide +kernel
theorem dX12_asks_19 : decode cX12_asks 19 = .ok (.iconst 0, 1) := by decide +kernel
theorem dX12_asks_20 : decode cX12_asks 20 = .ok (.bipush 40, 2) := by decide +kernel
theorem dX12_asks_22 : decode cX12_asks 22 = .ok (.invokestatic 223, 3) := by decide +kernel
theorem dX12_asks_25 : decode cX12_asks 25 = .ok (.ifCond .ne 5, 3) := by decide +kernel
theorem dX12_asks_28 : decode cX12_asks 28 = .ok (.iconst 0, 1) := by decide +kernel
theorem dX12_asks_29 : decode cX12_asks 29 = .ok (.ireturn, 1) := by decide +kernel
theorem dX12_asks_30 : decode cX12_asks 30 = .ok (.aload_n 0, 1) := by decide +kernel
theorem dX12_asks_31 : decode cX12_asks 31 = .ok (.getfield 55, 3) := by decide +kernel
theorem dX12_asks_34 : decode cX12_asks 34 = .ok (.iload_n 1, 1) := by decide +kernel
theorem dX12_asks_35 : decode cX12_asks 35 = .ok (.iload_n 2, 1) := by decide +kernel
theorem dX12_asks_36 : decode cX12_asks 36 = .ok (.iastore, 1) := by decide +kernel
theorem dX12_asks_37 : decode cX12_asks 37 = .ok (.aload_n 0, 1) := by decide +kernel
theorem dX12_asks_38 : decode cX12_asks 38 = .ok (.getfield 58, 3) := by decide +kernel
theorem dX12_asks_41 : decode cX12_asks 41 = .ok (.iload_n 1, 1) := by decide +kernel
theorem dX12_asks_42 : decode cX12_asks 42 = .ok (.iload_n 3, 1) := by decide +kernel
theorem dX12_asks_43 : decode cX12_asks 43 = .ok (.iastore, 1) := by decide +kernel
theorem dX12_asks_44 : decode cX12_asks 44 = .ok (.iconst 1, 1) := by decide +kernel
theorem dX12_asks_45 : decode cX12_asks 45 = .ok (.ireturn, 1) := by decide +kernel
theorem dX12_set_0 : decode cX12_set 0 = .ok (.iload_n 1, 1) := by decide +kernel
theorem dX12_set_1 : decode cX12_set 1 = .ok (.iconst 0, 1) := by decide +kernel
theorem dX12_set_2 : decode cX12_set 2 = .ok (.iconst 2, 1) := by decide +kernel
theorem dX12_set_3 : decode cX12_set 3 = .ok (.invokestatic 223, 3) := by decide +kernel
theorem dX12_set_6 : decode cX12_set 6 = .ok (.ifCond .eq 32, 3) := by decide +kernel
theorem dX12_set_9 : decode cX12_set 9 = .ok (.iload_n 2, 1) := by decide +kernel
theorem dX12_set_10 : decode cX12_set 10 = .ok (.iconst 1, 1) := by decide +kernel
theorem dX12_set_11 : decode cX12_set 11 = .ok (.bipush 7, 2) := by decide +kernel
theorem dX12_set_13 : decode cX12_set 13 = .ok (.invokestatic 223, 3) := by decide +kernel
theorem dX12_set_16 : decode cX12_set 16 = .ok (.ifCond .eq 22, 3) := by decide +kernel
theorem dX12_set_19 : decode cX12_set 19 = .ok (.iload_n 3, 1) := by decide +kernel
theorem dX12_set_20 : decode cX12_set 20 = .ok (.iconst 0, 1) := by decide +kernel
theorem dX12_set_21 : decode cX12_set 21 = .ok (.bipush 99, 2) := by decide +kernel
theorem dX12_set_23 : decode cX12_set 23 = .ok (.invokestatic 223, 3) := by decide +kernel
theorem dX12_set_26 : decode cX12_set 26 = .ok (.ifCond .eq 12, 3) := by decide +kernel
theorem dX12_set_29 : decode cX12_set 29 = .ok (.aload_n 0, 1) := by decide +kernel
theorem dX12_set_30 : decode cX12_set 30 = .ok (.getfield 233, 3) := by decide +kernel
theorem dX12_set_33 : decode cX12_set 33 = .ok (.bipush 20, 2) := by decide +kernel
theorem dX12_set_35 : decode cX12_set 35 = .ok (.if_icmp .ne 5, 3) := by decide +kernel
theorem dX12_set_38 : decode cX12_set 38 = .ok (.iconst (-1), 1) := by decide +kernel
theorem dX12_set_39 : decode cX12_set 39 = .ok (.ireturn, 1) := by decide +kernel
theorem dX12_set_40 : decode cX12_set 40 = .ok (.aload_n 0, 1) := by decide +kernel
theorem dX12_set_41 : decode cX12_set 41 = .ok (.getfield 80, 3) := by decide +kernel
theorem dX12_set_44 : decode cX12_set 44 = .ok (.aload_n 0, 1) := by decide +kernel
theorem dX12_set_45 : decode cX12_set 45 = .ok (.getfield 233, 3) := by decide +kernel
theorem dX12_set_48 : decode cX12_set 48 = .ok (.iload_n 1, 1) := by decide +kernel
theorem dX12_set_49 : decode cX12_set 49 = .ok (.iastore, 1) := by decide +kernel
theorem dX12_set_50 : decode cX12_set 50 = .ok (.aload_n 0, 1) := by decide +kernel
theorem dX12_set_51 : decode cX12_set 51 = .ok (.getfield 83, 3) := by decide +kernel
theorem dX12_set_54 : decode cX12_set 54 = .ok (.aload_n 0, 1) := by decide +kernel
theorem dX12_set_55 : decode cX12_set 55 = .ok (.getfield 233, 3) := by decide +kernel
theorem dX12_set_58 : decode cX12_set 58 = .ok (.iload_n 2, 1) := by decide +kernel
theorem dX12_set_59 : decode cX12_set 59 = .ok (.iastore, 1) := by decide +kernel
theorem dX12_set_60 : decode cX12_set 60 = .ok (.aload_n 0, 1) := by decide +kernel
theorem dX12_set_61 : decode cX12_set 61 = .ok (.getfield 86, 3) := by decide +kernel
theorem dX12_set_64 : decode cX12_set 64 = .ok (.aload_n 0, 1) := by decide +kernel
theorem dX12_set_65 : decode cX12_set 65 = .ok (.getfield 233, 3) := by decide +kernel
theorem dX12_set_68 : decode cX12_set 68 = .ok (.iload_n 3, 1) := by decide +kernel
theorem dX12_set_69 : decode cX12_set 69 = .ok (.iastore, 1) := by decide +kernel
theorem dX12_set_70 : decode cX12_set 70 = .ok (.aload_n 0, 1) := by decide +kernel
theorem dX12_set_71 : decode cX12_set 71 = .ok (.getfield 89, 3) := by decide +kernel
theorem dX12_set_74 : decode cX12_set 74 = .ok (.aload_n 0, 1) := by decide +kernel
theorem dX12_set_75 : decode cX12_set 75 = .ok (.getfield 233, 3) := by decide +kernel
theorem dX12_set_78 : decode cX12_set 78 = .ok (.iconst (-1), 1) := by decide +kernel
theorem dX12_set_79 : decode cX12_set 79 = .ok (.iastore, 1) := by decide +kernel
theorem dX12_set_80 : decode cX12_set 80 = .ok (.aload_n 0, 1) := by decide +kernel
theorem dX12_set_81 : decode cX12_set 81 = .ok (.dup, 1) := by decide +kernel
theorem dX12_set_82 : decode cX12_set 82 = .ok (.getfield 233, 3) := by decide +kernel
theorem dX12_set_85 : decode cX12_set 85 = .ok (.iconst 1, 1) := by decide +kernel
theorem dX12_set_86 : decode cX12_set 86 = .ok (.iadd, 1) := by decide +kernel
theorem dX12_set_87 : decode cX12_set 87 = .ok (.putfield 233, 3) := by decide +kernel
theorem dX12_set_90 : decode cX12_set 90 = .ok (.aload_n 0, 1) := by decide +kernel
theorem dX12_set_91 : decode cX12_set 91 = .ok (.getfield 233, 3) := by decide +kernel
theorem dX12_set_94 : decode cX12_set 94 = .ok (.iconst 1, 1) := by decide +kernel
theorem dX12_set_95 : decode cX12_set 95 = .ok (.isub, 1) := by decide +kernel
theorem dX12_set_96 : decode cX12_set 96 = .ok (.ireturn, 1) := by decide +kernel
theorem dX12_setIn_0 : decode cX12_setIn 0 = .ok (.iconst 0, 1) := by decide +kernel
theorem dX12_setIn_1 : decode cX12_setIn 1 = .ok (.istore_n 2, 1) := by decide +kernel
theorem dX12_setIn_2 : decode cX12_setIn 2 = .ok (.iload_n 2, 1) := by decide +kernel
theorem dX12_setIn_3 : decode cX12_setIn 3 = .ok (.aload_n 0, 1) := by decide +kernel
theorem dX12_setIn_4 : decode cX12_setIn 4 = .ok (.getfield 233, 3) := by decide +kernel
theorem dX12_setIn_7 : decode cX12_setIn 7 = .ok (.if_icmp .ge 21, 3) := by decide +kernel
theorem dX12_setIn_10 : decode cX12_setIn 10 = .ok (.aload_n 0, 1) := by decide +kernel
theorem dX12_setIn_11 : decode cX12_setIn 11 = .ok (.getfield 89, 3) := by decide +kernel
theorem dX12_setIn_14 : decode cX12_setIn 14 = .ok (.iload_n 2, 1) := by decide +kernel
theorem dX12_setIn_15 : decode cX12_setIn 15 = .ok (.iaload, 1) := by decide +kernel
theorem dX12_setIn_16 : decode cX12_setIn 16 = .ok (.iload_n 1, 1) := by decide +kernel
theorem dX12_setIn_17 : decode cX12_setIn 17 = .ok (.if_icmp .ne 5, 3) := by decide +kernel
theorem dX12_setIn_20 : decode cX12_setIn 20 = .ok (.iload_n 2, 1) := by decide +kernel
theorem dX12_setIn_21 : decode cX12_setIn 21 = .ok (.ireturn, 1) := by decide +kernel
theorem dX12_setIn_22 : decode cX12_setIn 22 = .ok (.iinc 2 1, 3) := by decide +kernel
theorem dX12_setIn_25 : decode cX12_setIn 25 = .ok (.goto (-23), 3) := by decide +kernel
theorem dX12_setIn_28 : decode cX12_setIn 28 = .ok (.iconst (-1), 1) := by decide +kernel
theorem dX12_setIn_29 : decode cX12_setIn 29 = .ok (.ireturn, 1) := by decide +kernel
theorem dX12_printIn_0 : decode cX12_printIn 0 = .ok (.iconst 0, 1) := by decide +kernel
theorem dX12_printIn_1 : decode cX12_printIn 1 = .ok (.istore_n 2, 1) := by decide +kernel
theorem dX12_printIn_2 : decode cX12_printIn 2 = .ok (.iload_n 2, 1) := by decide +kernel
theorem dX12_printIn_3 : decode cX12_printIn 3 = .ok (.aload_n 0, 1) := by decide +kernel
theorem dX12_printIn_4 : decode cX12_printIn 4 = .ok (.getfield 227, 3) := by decide +kernel
theorem dX12_printIn_7 : decode cX12_printIn 7 = .ok (.if_icmp .ge 21, 3) := by decide +kernel
theorem dX12_printIn_10 : decode cX12_printIn 10 = .ok (.aload_n 0, 1) := by decide +kernel
theorem dX12_printIn_11 : decode cX12_printIn 11 = .ok (.getfield 31, 3) := by decide +kernel
theorem dX12_printIn_14 : decode cX12_printIn 14 = .ok (.iload_n 2, 1) := by decide +kernel
theorem dX12_printIn_15 : decode cX12_printIn 15 = .ok (.iaload, 1) := by decide +kernel
theorem dX12_printIn_16 : decode cX12_printIn 16 = .ok (.iload_n 1, 1) := by decide +kernel
theorem dX12_printIn_17 : decode cX12_printIn 17 = .ok (.if_icmp .ne 5, 3) := by decide +kernel
theorem dX12_printIn_20 : decode cX12_printIn 20 = .ok (.iload_n 2, 1) := by decide +kernel
theorem dX12_printIn_21 : decode cX12_printIn 21 = .ok (.ireturn, 1) := by decide +kernel
theorem dX12_printIn_22 : decode cX12_printIn 22 = .ok (.iinc 2 1, 3) := by decide +kernel
theorem dX12_printIn_25 : decode cX12_printIn 25 = .ok (.goto (-23), 3) := by decide +kernel
theorem dX12_printIn_28 : decode cX12_printIn 28 = .ok (.iconst (-1), 1) := by decide +kernel
theorem dX12_printIn_29 : decode cX12_printIn 29 = .ok (.ireturn, 1) := by decide +kernel
theorem dX12_hire_0 : decode cX12_hire 0 = .ok (.aload_n 0, 1) := by decide +kernel
theorem dX12_hire_1 : decode cX12_hire 1 = .ok (.iload_n 1, 1) := by decide +kernel
theorem dX12_hire_2 : decode cX12_hire 2 = .ok (.invokevirtual 267, 3) := by decide +kernel
theorem dX12_hire_5 : decode cX12_hire 5 = .ok (.ifCond .eq 40, 3) := by decide +kernel
theorem dX12_hire_8 : decode cX12_hire 8 = .ok (.iload_n 2, 1) := by decide +kernel
theorem dX12_hire_9 : decode cX12_hire 9 = .ok (.iconst (-1), 1) := by decide +kernel
theorem dX12_hire_10 : decode cX12_hire 10 = .ok (.if_icmp .eq 11, 3) := by decide +kernel
theorem dX12_hire_13 : decode cX12_hire 13 = .ok (.aload_n 0, 1) := by decide +kernel
theorem dX12_hire_14 : decode cX12_hire 14 = .ok (.iload_n 2, 1) := by decide +kernel
theorem dX12_hire_15 : decode cX12_hire 15 = .ok (.invokevirtual 264, 3) := by decide +kernel
theorem dX12_hire_18 : decode cX12_hire 18 = .ok (.ifCond .eq 27, 3) := by decide +kernel
theorem dX12_hire_21 : decode cX12_hire 21 = .ok (.aload_n 0, 1) := by decide +kernel
theorem dX12_hire_22 : decode cX12_hire 22 = .ok (.getfield 89, 3) := by decide +kernel
theorem dX12_hire_25 : decode cX12_hire 25 = .ok (.iload_n 1, 1) := by decide +kernel
theorem dX12_hire_26 : decode cX12_hire 26 = .ok (.iaload, 1) := by decide +kernel
theorem dX12_hire_27 : decode cX12_hire 27 = .ok (.iload_n 2, 1) := by decide +kernel
theorem dX12_hire_28 : decode cX12_hire 28 = .ok (.if_icmp .eq 17, 3) := by decide +kernel
theorem dX12_hire_31 : decode cX12_hire 31 = .ok (.iload_n 2, 1) := by decide +kernel
theorem dX12_hire_32 : decode cX12_hire 32 = .ok (.iconst (-1), 1) := by decide +kernel
theorem dX12_hire_33 : decode cX12_hire 33 = .ok (.if_icmp .eq 14, 3) := by decide +kernel
theorem dX12_hire_36 : decode cX12_hire 36 = .ok (.aload_n 0, 1) := by decide +kernel
theorem dX12_hire_37 : decode cX12_hire 37 = .ok (.iload_n 2, 1) := by decide +kernel
theorem dX12_hire_38 : decode cX12_hire 38 = .ok (.invokevirtual 270, 3) := by decide +kernel
theorem dX12_hire_41 : decode cX12_hire 41 = .ok (.iconst (-1), 1) := by decide +kernel
theorem dX12_hire_42 : decode cX12_hire 42 = .ok (.if_icmp .eq 5, 3) := by decide +kernel
theorem dX12_hire_45 : decode cX12_hire 45 = .ok (.iconst 0, 1) := by decide +kernel
theorem dX12_hire_46 : decode cX12_hire 46 = .ok (.ireturn, 1) := by decide +kernel
theorem dX12_hire_47 : decode cX12_hire 47 = .ok (.aload_n 0, 1) := by decide +kernel
theorem dX12_hire_48 : decode cX12_hire 48 = .ok (.getfield 89, 3) := by decide +kernel
theorem dX12_hire_51 : decode cX12_hire 51 = .ok (.iload_n 1, 1) := by decide +kernel
theorem dX12_hire_52 : decode cX12_hire 52 = .ok (.iload_n 2, 1) := by decide +kernel
theorem dX12_hire_53 : decode cX12_hire 53 = .ok (.iastore, 1) := by decide +kernel
theorem dX12_hire_54 : decode cX12_hire 54 = .ok (.iconst 1, 1) := by decide +kernel
theorem dX12_hire_55 : decode cX12_hire 55 = .ok (.ireturn, 1) := by decide +kernel
theorem dX12_book_0 : decode cX12_book 0 = .ok (.aload_n 0, 1) := by decide +kernel
theorem dX12_book_1 : decode cX12_book 1 = .ok (.iload_n 1, 1) := by decide +kernel
theorem dX12_book_2 : decode cX12_book 2 = .ok (.invokevirtual 243, 3) := by decide +kernel
theorem dX12_book_5 : decode cX12_book 5 = .ok (.ifCond .eq 40, 3) := by decide +kernel
theorem dX12_book_8 : decode cX12_book 8 = .ok (.iload_n 2, 1) := by decide +kernel
theorem dX12_book_9 : decode cX12_book 9 = .ok (.iconst (-1), 1) := by decide +kernel
theorem dX12_book_10 : decode cX12_book 10 = .ok (.if_icmp .eq 11, 3) := by decide +kernel
theorem dX12_book_13 : decode cX12_book 13 = .ok (.aload_n 0, 1) := by decide +kernel
theorem dX12_book_14 : decode cX12_book 14 = .ok (.iload_n 2, 1) := by decide +kernel
theorem dX12_book_15 : decode cX12_book 15 = .ok (.invokevirtual 264, 3) := by decide +kernel
theorem dX12_book_18 : decode cX12_book 18 = .ok (.ifCond .eq 27, 3) := by decide +kernel
theorem dX12_book_21 : decode cX12_book 21 = .ok (.aload_n 0, 1) := by decide +kernel
theorem dX12_book_22 : decode cX12_book 22 = .ok (.getfield 31, 3) := by decide +kernel
theorem dX12_book_25 : decode cX12_book 25 = .ok (.iload_n 1, 1) := by decide +kernel
theorem dX12_book_26 : decode cX12_book 26 = .ok (.iaload, 1) := by decide +kernel
theorem dX12_book_27 : decode cX12_book 27 = .ok (.iload_n 2, 1) := by decide +kernel
theorem dX12_book_28 : decode cX12_book 28 = .ok (.if_icmp .eq 17, 3) := by decide +kernel
theorem dX12_book_31 : decode cX12_book 31 = .ok (.iload_n 2, 1) := by decide +kernel
theorem dX12_book_32 : decode cX12_book 32 = .ok (.iconst (-1), 1) := by decide +kernel
theorem dX12_book_33 : decode cX12_book 33 = .ok (.if_icmp .eq 14, 3) := by decide +kernel
theorem dX12_book_36 : decode cX12_book 36 = .ok (.aload_n 0, 1) := by decide +kernel
theorem dX12_book_37 : decode cX12_book 37 = .ok (.iload_n 2, 1) := by decide +kernel
theorem dX12_book_38 : decode cX12_book 38 = .ok (.invokevirtual 274, 3) := by decide +kernel
theorem dX12_book_41 : decode cX12_book 41 = .ok (.iconst (-1), 1) := by decide +kernel
theorem dX12_book_42 : decode cX12_book 42 = .ok (.if_icmp .eq 5, 3) := by decide +kernel
theorem dX12_book_45 : decode cX12_book 45 = .ok (.iconst 0, 1) := by decide +kernel
theorem dX12_book_46 : decode cX12_book 46 = .ok (.ireturn, 1) := by decide +kernel
theorem dX12_book_47 : decode cX12_book 47 = .ok (.aload_n 0, 1) := by decide +kernel
theorem dX12_book_48 : decode cX12_book 48 = .ok (.getfield 31, 3) := by decide +kernel
theorem dX12_book_51 : decode cX12_book 51 = .ok (.iload_n 1, 1) := by decide +kernel
theorem dX12_book_52 : decode cX12_book 52 = .ok (.iload_n 2, 1) := by decide +kernel
theorem dX12_book_53 : decode cX12_book 53 = .ok (.iastore, 1) := by decide +kernel
theorem dX12_book_54 : decode cX12_book 54 = .ok (.iconst 1, 1) := by decide +kernel
theorem dX12_book_55 : decode cX12_book 55 = .ok (.ireturn, 1) := by decide +kernel
theorem dX12_feed_0 : decode cX12_feed 0 = .ok (.aload_n 0, 1) := by decide +kernel
theorem dX12_feed_1 : decode cX12_feed 1 = .ok (.getfield 277, 3) := by decide +kernel
theorem dX12_feed_4 : decode cX12_feed 4 = .ok (.bipush 20, 2) := by decide +kernel
theorem dX12_feed_6 : decode cX12_feed 6 = .ok (.iadd, 1) := by decide +kernel
theorem dX12_feed_7 : decode cX12_feed 7 = .ok (.sipush 600, 3) := by decide +kernel
theorem dX12_feed_10 : decode cX12_feed 10 = .ok (.if_icmp .le 5, 3) := by decide +kernel
theorem dX12_feed_13 : decode cX12_feed 13 = .ok (.iconst (-1), 1) := by decide +kernel
theorem dX12_feed_14 : decode cX12_feed 14 = .ok (.ireturn, 1) := by decide +kernel
theorem dX12_feed_15 : decode cX12_feed 15 = .ok (.iconst 0, 1) := by decide +kernel
theorem dX12_feed_16 : decode cX12_feed 16 = .ok (.istore 6, 2) := by decide +kernel
theorem dX12_feed_18 : decode cX12_feed 18 = .ok (.iload 6, 2) := by decide +kernel
theorem dX12_feed_20 : decode cX12_feed 20 = .ok (.bipush 20, 2) := by decide +kernel
theorem dX12_feed_22 : decode cX12_feed 22 = .ok (.if_icmp .ge 93, 3) := by decide +kernel
theorem dX12_feed_25 : decode cX12_feed 25 = .ok (.iload 6, 2) := by decide +kernel
theorem dX12_feed_27 : decode cX12_feed 27 = .ok (.iconst 4, 1) := by decide +kernel
theorem dX12_feed_28 : decode cX12_feed 28 = .ok (.if_icmp .ge 7, 3) := by decide +kernel
theorem dX12_feed_31 : decode cX12_feed 31 = .ok (.iload_n 1, 1) := by decide +kernel
theorem dX12_feed_32 : decode cX12_feed 32 = .ok (.goto 39, 3) := by decide +kernel
theorem dX12_feed_35 : decode cX12_feed 35 = .ok (.iload 6, 2) := by decide +kernel
theorem dX12_feed_37 : decode cX12_feed 37 = .ok (.bipush 8, 2) := by decide +kernel
theorem dX12_feed_39 : decode cX12_feed 39 = .ok (.if_icmp .ge 7, 3) := by decide +kernel
theorem dX12_feed_42 : decode cX12_feed 42 = .ok (.iload_n 2, 1) := by decide +kernel
theorem dX12_feed_43 : decode cX12_feed 43 = .ok (.goto 28, 3) := by decide +kernel
theorem dX12_feed_46 : decode cX12_feed 46 = .ok (.iload 6, 2) := by decide +kernel
theorem dX12_feed_48 : decode cX12_feed 48 = .ok (.bipush 12, 2) := by decide +kernel
theorem dX12_feed_50 : decode cX12_feed 50 = .ok (.if_icmp .ge 7, 3) := by decide +kernel
theorem dX12_feed_53 : decode cX12_feed 53 = .ok (.iload_n 3, 1) := by decide +kernel
theorem dX12_feed_54 : decode cX12_feed 54 = .ok (.goto 17, 3) := by decide +kernel
theorem dX12_feed_57 : decode cX12_feed 57 = .ok (.iload 6, 2) := by decide +kernel
theorem dX12_feed_59 : decode cX12_feed 59 = .ok (.bipush 16, 2) := by decide +kernel
theorem dX12_feed_61 : decode cX12_feed 61 = .ok (.if_icmp .ge 8, 3) := by decide +kernel
theorem dX12_feed_64 : decode cX12_feed 64 = .ok (.iload 4, 2) := by decide +kernel
theorem dX12_feed_66 : decode cX12_feed 66 = .ok (.goto 5, 3) := by decide +kernel
theorem dX12_feed_69 : decode cX12_feed 69 = .ok (.iload 5, 2) := by decide +kernel
theorem dX12_feed_71 : decode cX12_feed 71 = .ok (.istore 7, 2) := by decide +kernel
theorem dX12_feed_73 : decode cX12_feed 73 = .ok (.aload_n 0, 1) := by decide +kernel
theorem dX12_feed_74 : decode cX12_feed 74 = .ok (.getfield 119, 3) := by decide +kernel
theorem dX12_feed_77 : decode cX12_feed 77 = .ok (.aload_n 0, 1) := by decide +kernel
theorem dX12_feed_78 : decode cX12_feed 78 = .ok (.getfield 277, 3) := by decide +kernel
theorem dX12_feed_81 : decode cX12_feed 81 = .ok (.iload 7, 2) := by decide +kernel
theorem dX12_feed_83 : decode cX12_feed 83 = .ok (.bipush 24, 2) := by decide +kernel
theorem dX12_feed_85 : decode cX12_feed 85 = .ok (.bipush 8, 2) := by decide +kernel
theorem dX12_feed_87 : decode cX12_feed 87 = .ok (.iload 6, 2) := by decide +kernel
theorem dX12_feed_89 : decode cX12_feed 89 = .ok (.iconst 4, 1) := by decide +kernel
theorem dX12_feed_90 : decode cX12_feed 90 = .ok (.irem, 1) := by decide +kernel
theorem dX12_feed_91 : decode cX12_feed 91 = .ok (.imul, 1) := by decide +kernel
theorem dX12_feed_92 : decode cX12_feed 92 = .ok (.isub, 1) := by decide +kernel
theorem dX12_feed_93 : decode cX12_feed 93 = .ok (.ishr, 1) := by decide +kernel
theorem dX12_feed_94 : decode cX12_feed 94 = .ok (.sipush 255, 3) := by decide +kernel
theorem dX12_feed_97 : decode cX12_feed 97 = .ok (.iand, 1) := by decide +kernel
theorem dX12_feed_98 : decode cX12_feed 98 = .ok (.iastore, 1) := by decide +kernel
theorem dX12_feed_99 : decode cX12_feed 99 = .ok (.aload_n 0, 1) := by decide +kernel
theorem dX12_feed_100 : decode cX12_feed 100 = .ok (.dup, 1) := by decide +kernel
theorem dX12_feed_101 : decode cX12_feed 101 = .ok (.getfield 277, 3) := by decide +kernel
theorem dX12_feed_104 : decode cX12_feed 104 = .ok (.iconst 1, 1) := by decide +kernel
theorem dX12_feed_105 : decode cX12_feed 105 = .ok (.iadd, 1) := by decide +kernel
theorem dX12_feed_106 : decode cX12_feed 106 = .ok (.putfield 277, 3) := by decide +kernel
theorem dX12_feed_109 : decode cX12_feed 109 = .ok (.iinc 6 1, 3) := by decide +kernel
theorem dX12_feed_112 : decode cX12_feed 112 = .ok (.goto (-94), 3) := by decide +kernel
theorem dX12_feed_115 : decode cX12_feed 115 = .ok (.aload_n 0, 1) := by decide +kernel
theorem dX12_feed_116 : decode cX12_feed 116 = .ok (.getfield 277, 3) := by decide +kernel
theorem dX12_feed_119 : decode cX12_feed 119 = .ok (.ireturn, 1) := by decide +kernel
theorem dX12_end_0 : decode cX12_end 0 = .ok (.iload_n 1, 1) := by decide +kernel
theorem dX12_end_1 : decode cX12_end 1 = .ok (.iconst 0, 1) := by decide +kernel
theorem dX12_end_2 : decode cX12_end 2 = .ok (.aload_n 0, 1) := by decide +kernel
theorem dX12_end_3 : decode cX12_end 3 = .ok (.getfield 277, 3) := by decide +kernel
theorem dX12_end_6 : decode cX12_end 6 = .ok (.invokestatic 223, 3) := by decide +kernel
theorem dX12_end_9 : decode cX12_end 9 = .ok (.ifCond .ne 5, 3) := by decide +kernel
theorem dX12_end_12 : decode cX12_end 12 = .ok (.iconst 0, 1) := by decide +kernel
theorem dX12_end_13 : decode cX12_end 13 = .ok (.ireturn, 1) := by decide +kernel
theorem dX12_end_14 : decode cX12_end 14 = .ok (.aload_n 0, 1) := by decide +kernel
theorem dX12_end_15 : decode cX12_end 15 = .ok (.iload_n 1, 1) := by decide +kernel
theorem dX12_end_16 : decode cX12_end 16 = .ok (.putfield 277, 3) := by decide +kernel
theorem dX12_end_19 : decode cX12_end 19 = .ok (.iconst 1, 1) := by decide +kernel
theorem dX12_end_20 : decode cX12_end 20 = .ok (.ireturn, 1) := by decide +kernel
theorem dX12_see_0 : decode cX12_see 0 = .ok (.iload_n 1, 1) := by decide +kernel
theorem dX12_see_1 : decode cX12_see 1 = .ok (.aload_n 0, 1) := by decide +kernel
theorem dX12_see_2 : decode cX12_see 2 = .ok (.getfield 277, 3) := by decide +kernel
theorem dX12_see_5 : decode cX12_see 5 = .ok (.if_icmp .ge 12, 3) := by decide +kernel
theorem dX12_see_8 : decode cX12_see 8 = .ok (.aload_n 0, 1) := by decide +kernel
theorem dX12_see_9 : decode cX12_see 9 = .ok (.getfield 119, 3) := by decide +kernel
theorem dX12_see_12 : decode cX12_see 12 = .ok (.iload_n 1, 1) := by decide +kernel
theorem dX12_see_13 : decode cX12_see 13 = .ok (.iaload, 1) := by decide +kernel
theorem dX12_see_14 : decode cX12_see 14 = .ok (.goto 4, 3) := by decide +kernel
theorem dX12_see_17 : decode cX12_see 17 = .ok (.iconst (-1), 1) := by decide +kernel
theorem dX12_see_18 : decode cX12_see 18 = .ok (.ireturn, 1) := by decide +kernel
theorem dX12_isLetter_0 : decode cX12_isLetter 0 = .ok (.iload_n 0, 1) := by decide +kernel
theorem dX12_isLetter_1 : decode cX12_isLetter 1 = .ok (.bipush 97, 2) := by decide +kernel
theorem dX12_isLetter_3 : decode cX12_isLetter 3 = .ok (.bipush 122, 2) := by decide +kernel
theorem dX12_isLetter_5 : decode cX12_isLetter 5 = .ok (.invokestatic 223, 3) := by decide +kernel
theorem dX12_isLetter_8 : decode cX12_isLetter 8 = .ok (.ifCond .ne 14, 3) := by decide +kernel
theorem dX12_isLetter_11 : decode cX12_isLetter 11 = .ok (.iload_n 0, 1) := by decide +kernel
theorem dX12_isLetter_12 : decode cX12_isLetter 12 = .ok (.bipush 65, 2) := by decide +kernel
theorem dX12_isLetter_14 : decode cX12_isLetter 14 = .ok (.bipush 90, 2) := by decide +kernel
theorem dX12_isLetter_16 : decode cX12_isLetter 16 = .ok (.invokestatic 223, 3) := by decide +kernel
theorem dX12_isLetter_19 : decode cX12_isLetter 19 = .ok (.ifCond .eq 7, 3) := by decide +kernel
theorem dX12_isLetter_22 : decode cX12_isLetter 22 = .ok (.iconst 1, 1) := by decide +kernel
theorem dX12_isLetter_23 : decode cX12_isLetter 23 = .ok (.goto 4, 3) := by decide +kernel
theorem dX12_isLetter_26 : decode cX12_isLetter 26 = .ok (.iconst 0, 1) := by decide +kernel
theorem dX12_isLetter_27 : decode cX12_isLetter 27 = .ok (.ireturn, 1) := by decide +kernel
theorem dX12_isDigit_0 : decode cX12_isDigit 0 = .ok (.iload_n 0, 1) := by decide +kernel
theorem dX12_isDigit_1 : decode cX12_isDigit 1 = .ok (.bipush 48, 2) := by decide +kernel
theorem dX12_isDigit_3 : decode cX12_isDigit 3 = .ok (.bipush 57, 2) := by decide +kernel
theorem dX12_isDigit_5 : decode cX12_isDigit 5 = .ok (.invokestatic 223, 3) := by decide +kernel
theorem dX12_isDigit_8 : decode cX12_isDigit 8 = .ok (.ireturn, 1) := by decide +kernel
theorem dX12_is_0 : decode cX12_is 0 = .ok (.aload_n 0, 1) := by decide +kernel
theorem dX12_is_1 : decode cX12_is 1 = .ok (.getfield 280, 3) := by decide +kernel
theorem dX12_is_4 : decode cX12_is 4 = .ok (.aload_n 0, 1) := by decide +kernel
theorem dX12_is_5 : decode cX12_is 5 = .ok (.getfield 283, 3) := by decide +kernel
theorem dX12_is_8 : decode cX12_is 8 = .ok (.isub, 1) := by decide +kernel
theorem dX12_is_9 : decode cX12_is 9 = .ok (.aload_n 1, 1) := by decide +kernel
theorem dX12_is_10 : decode cX12_is 10 = .ok (.invokevirtual 286, 3) := by decide +kernel
theorem dX12_is_13 : decode cX12_is 13 = .ok (.if_icmp .ne 7, 3) := by decide +kernel
theorem dX12_is_16 : decode cX12_is 16 = .ok (.iconst 1, 1) := by decide +kernel
theorem dX12_is_17 : decode cX12_is 17 = .ok (.goto 4, 3) := by decide +kernel
theorem dX12_is_20 : decode cX12_is 20 = .ok (.iconst 0, 1) := by decide +kernel
theorem dX12_is_21 : decode cX12_is 21 = .ok (.istore_n 2, 1) := by decide +kernel
theorem dX12_is_22 : decode cX12_is 22 = .ok (.iconst 0, 1) := by decide +kernel
theorem dX12_is_23 : decode cX12_is 23 = .ok (.istore_n 3, 1) := by decide +kernel
theorem dX12_is_24 : decode cX12_is 24 = .ok (.iload_n 3, 1) := by decide +kernel
theorem dX12_is_25 : decode cX12_is 25 = .ok (.aload_n 1, 1) := by decide +kernel
theorem dX12_is_26 : decode cX12_is 26 = .ok (.invokevirtual 286, 3) := by decide +kernel
theorem dX12_is_29 : decode cX12_is 29 = .ok (.if_icmp .ge 38, 3) := by decide +kernel
theorem dX12_is_32 : decode cX12_is 32 = .ok (.iload_n 2, 1) := by decide +kernel
theorem dX12_is_33 : decode cX12_is 33 = .ok (.ifCond .eq 34, 3) := by decide +kernel
theorem dX12_is_36 : decode cX12_is 36 = .ok (.aload_n 0, 1) := by decide +kernel
theorem dX12_is_37 : decode cX12_is 37 = .ok (.getfield 119, 3) := by decide +kernel
theorem dX12_is_40 : decode cX12_is 40 = .ok (.aload_n 0, 1) := by decide +kernel
theorem dX12_is_41 : decode cX12_is 41 = .ok (.getfield 283, 3) := by decide +kernel
theorem dX12_is_44 : decode cX12_is 44 = .ok (.iload_n 3, 1) := by decide +kernel
theorem dX12_is_45 : decode cX12_is 45 = .ok (.iadd, 1) := by decide +kernel
theorem dX12_is_46 : decode cX12_is 46 = .ok (.iaload, 1) := by decide +kernel
theorem dX12_is_47 : decode cX12_is 47 = .ok (.aload_n 1, 1) := by decide +kernel
theorem dX12_is_48 : decode cX12_is 48 = .ok (.iload_n 3, 1) := by decide +kernel
theorem dX12_is_49 : decode cX12_is 49 = .ok (.invokevirtual 292, 3) := by decide +kernel
theorem dX12_is_52 : decode cX12_is 52 = .ok (.if_icmp .ne 7, 3) := by decide +kernel
theorem dX12_is_55 : decode cX12_is 55 = .ok (.iconst 1, 1) := by decide +kernel
theorem dX12_is_56 : decode cX12_is 56 = .ok (.goto 4, 3) := by decide +kernel
theorem dX12_is_59 : decode cX12_is 59 = .ok (.iconst 0, 1) := by decide +kernel
theorem dX12_is_60 : decode cX12_is 60 = .ok (.istore_n 2, 1) := by decide +kernel
theorem dX12_is_61 : decode cX12_is 61 = .ok (.iinc 3 1, 3) := by decide +kernel
theorem dX12_is_64 : decode cX12_is 64 = .ok (.goto (-40), 3) := by decide +kernel
theorem dX12_is_67 : decode cX12_is 67 = .ok (.iload_n 2, 1) := by decide +kernel
theorem dX12_is_68 : decode cX12_is 68 = .ok (.ireturn, 1) := by decide +kernel
theorem dX12_word_0 : decode cX12_word 0 = .ok (.aload_n 0, 1) := by decide +kernel
theorem dX12_word_1 : decode cX12_word 1 = .ok (.ldc_w 296, 3) := by decide +kernel
theorem dX12_word_4 : decode cX12_word 4 = .ok (.invokevirtual 298, 3) := by decide +kernel
theorem dX12_word_7 : decode cX12_word 7 = .ok (.ifCond .eq 7, 3) := by decide +kernel
theorem dX12_word_10 : decode cX12_word 10 = .ok (.sipush 301, 3) := by decide +kernel
theorem dX12_word_13 : decode cX12_word 13 = .ok (.ireturn, 1) := by decide +kernel
theorem dX12_word_14 : decode cX12_word 14 = .ok (.aload_n 0, 1) := by decide +kernel
theorem dX12_word_15 : decode cX12_word 15 = .ok (.ldc_w 302, 3) := by decide +kernel
theorem dX12_word_18 : decode cX12_word 18 = .ok (.invokevirtual 298, 3) := by decide +kernel
theorem dX12_word_21 : decode cX12_word 21 = .ok (.ifCond .eq 7, 3) := by decide +kernel
theorem dX12_word_24 : decode cX12_word 24 = .ok (.sipush 302, 3) := by decide +kernel
theorem dX12_word_27 : decode cX12_word 27 = .ok (.ireturn, 1) := by decide +kernel
theorem dX12_word_28 : decode cX12_word 28 = .ok (.aload_n 0, 1) := by decide +kernel
theorem dX12_word_29 : decode cX12_word 29 = .ok (.ldc_w 304, 3) := by decide +kernel
theorem dX12_word_32 : decode cX12_word 32 = .ok (.invokevirtual 298, 3) := by decide +kernel
theorem dX12_word_35 : decode cX12_word 35 = .ok (.ifCond .eq 7, 3) := by decide +kernel
theorem dX12_word_38 : decode cX12_word 38 = .ok (.sipush 303, 3) := by decide +kernel
theorem dX12_word_41 : decode cX12_word 41 = .ok (.ireturn, 1) := by decide +kernel
theorem dX12_word_42 : decode cX12_word 42 = .ok (.aload_n 0, 1) := by decide +kernel
theorem dX12_word_43 : decode cX12_word 43 = .ok (.ldc_w 306, 3) := by decide +kernel
theorem dX12_word_46 : decode cX12_word 46 = .ok (.invokevirtual 298, 3) := by decide +kernel
theorem dX12_word_49 : decode cX12_word 49 = .ok (.ifCond .eq 5, 3) := by decide +kernel
theorem dX12_word_52 : decode cX12_word 52 = .ok (.iconst 3, 1) := by decide +kernel
theorem dX12_word_53 : decode cX12_word 53 = .ok (.ireturn, 1) := by decide +kernel
theorem dX12_word_54 : decode cX12_word 54 = .ok (.aload_n 0, 1) := by decide +kernel
theorem dX12_word_55 : decode cX12_word 55 = .ok (.ldc_w 307, 3) := by decide +kernel
theorem dX12_word_58 : decode cX12_word 58 = .ok (.invokevirtual 298, 3) := by decide +kernel
theorem dX12_word_61 : decode cX12_word 61 = .ok (.ifCond .eq 5, 3) := by decide +kernel
theorem dX12_word_64 : decode cX12_word 64 = .ok (.iconst 4, 1) := by decide +kernel
theorem dX12_word_65 : decode cX12_word 65 = .ok (.ireturn, 1) := by decide +kernel
theorem dX12_word_66 : decode cX12_word 66 = .ok (.aload_n 0, 1) := by decide +kernel
theorem dX12_word_67 : decode cX12_word 67 = .ok (.ldc_w 309, 3) := by decide +kernel
theorem dX12_word_70 : decode cX12_word 70 = .ok (.invokevirtual 298, 3) := by decide +kernel
theorem dX12_word_73 : decode cX12_word 73 = .ok (.ifCond .eq 5, 3) := by decide +kernel
theorem dX12_word_76 : decode cX12_word 76 = .ok (.iconst 5, 1) := by decide +kernel
theorem dX12_word_77 : decode cX12_word 77 = .ok (.ireturn, 1) := by decide +kernel
theorem dX12_word_78 : decode cX12_word 78 = .ok (.aload_n 0, 1) := by decide +kernel
theorem dX12_word_79 : decode cX12_word 79 = .ok (.ldc_w 311, 3) := by decide +kernel
theorem dX12_word_82 : decode cX12_word 82 = .ok (.invokevirtual 298, 3) := by decide +kernel
theorem dX12_word_85 : decode cX12_word 85 = .ok (.ifCond .eq 6, 3) := by decide +kernel
theorem dX12_word_88 : decode cX12_word 88 = .ok (.bipush 6, 2) := by decide +kernel
theorem dX12_word_90 : decode cX12_word 90 = .ok (.ireturn, 1) := by decide +kernel
theorem dX12_word_91 : decode cX12_word 91 = .ok (.aload_n 0, 1) := by decide +kernel
theorem dX12_word_92 : decode cX12_word 92 = .ok (.ldc_w 313, 3) := by decide +kernel
theorem dX12_word_95 : decode cX12_word 95 = .ok (.invokevirtual 298, 3) := by decide +kernel
theorem dX12_word_98 : decode cX12_word 98 = .ok (.ifCond .eq 7, 3) := by decide +kernel
theorem dX12_word_101 : decode cX12_word 101 = .ok (.sipush 401, 3) := by decide +kernel
theorem dX12_word_104 : decode cX12_word 104 = .ok (.ireturn, 1) := by decide +kernel
theorem dX12_word_105 : decode cX12_word 105 = .ok (.aload_n 0, 1) := by decide +kernel
theorem dX12_word_106 : decode cX12_word 106 = .ok (.ldc_w 314, 3) := by decide +kernel
theorem dX12_word_109 : decode cX12_word 109 = .ok (.invokevirtual 298, 3) := by decide +kernel
theorem dX12_word_112 : decode cX12_word 112 = .ok (.ifCond .eq 7, 3) := by decide +kernel
theorem dX12_word_115 : decode cX12_word 115 = .ok (.sipush 402, 3) := by decide +kernel
theorem dX12_word_118 : decode cX12_word 118 = .ok (.ireturn, 1) := by decide +kernel
theorem dX12_word_119 : decode cX12_word 119 = .ok (.aload_n 0, 1) := by decide +kernel
theorem dX12_word_120 : decode cX12_word 120 = .ok (.ldc_w 315, 3) := by decide +kernel
theorem dX12_word_123 : decode cX12_word 123 = .ok (.invokevirtual 298, 3) := by decide +kernel
theorem dX12_word_126 : decode cX12_word 126 = .ok (.ifCond .eq 7, 3) := by decide +kernel
theorem dX12_word_129 : decode cX12_word 129 = .ok (.sipush 403, 3) := by decide +kernel
theorem dX12_word_132 : decode cX12_word 132 = .ok (.ireturn, 1) := by decide +kernel
theorem dX12_word_133 : decode cX12_word 133 = .ok (.aload_n 0, 1) := by decide +kernel
theorem dX12_word_134 : decode cX12_word 134 = .ok (.ldc_w 316, 3) := by decide +kernel
theorem dX12_word_137 : decode cX12_word 137 = .ok (.invokevirtual 298, 3) := by decide +kernel
theorem dX12_word_140 : decode cX12_word 140 = .ok (.ifCond .eq 7, 3) := by decide +kernel
theorem dX12_word_143 : decode cX12_word 143 = .ok (.sipush 404, 3) := by decide +kernel
theorem dX12_word_146 : decode cX12_word 146 = .ok (.ireturn, 1) := by decide +kernel
theorem dX12_word_147 : decode cX12_word 147 = .ok (.aload_n 0, 1) := by decide +kernel
theorem dX12_word_148 : decode cX12_word 148 = .ok (.ldc_w 317, 3) := by decide +kernel
theorem dX12_word_151 : decode cX12_word 151 = .ok (.invokevirtual 298, 3) := by decide +kernel
theorem dX12_word_154 : decode cX12_word 154 = .ok (.ifCond .eq 7, 3) := by decide +kernel
theorem dX12_word_157 : decode cX12_word 157 = .ok (.sipush 405, 3) := by decide +kernel
theorem dX12_word_160 : decode cX12_word 160 = .ok (.ireturn, 1) := by decide +kernel
theorem dX12_word_161 : decode cX12_word 161 = .ok (.aload_n 0, 1) := by decide +kernel
theorem dX12_word_162 : decode cX12_word 162 = .ok (.ldc_w 318, 3) := by decide +kernel
theorem dX12_word_165 : decode cX12_word 165 = .ok (.invokevirtual 298, 3) := by decide +kernel
theorem dX12_word_168 : decode cX12_word 168 = .ok (.ifCond .eq 7, 3) := by decide +kernel
theorem dX12_word_171 : decode cX12_word 171 = .ok (.sipush 406, 3) := by decide +kernel
theorem dX12_word_174 : decode cX12_word 174 = .ok (.ireturn, 1) := by decide +kernel
theorem dX12_word_175 : decode cX12_word 175 = .ok (.aload_n 0, 1) := by decide +kernel
theorem dX12_word_176 : decode cX12_word 176 = .ok (.ldc_w 320, 3) := by decide +kernel
theorem dX12_word_179 : decode cX12_word 179 = .ok (.invokevirtual 298, 3) := by decide +kernel
theorem dX12_word_182 : decode cX12_word 182 = .ok (.ifCond .eq 7, 3) := by decide +kernel
theorem dX12_word_185 : decode cX12_word 185 = .ok (.sipush 407, 3) := by decide +kernel
theorem dX12_word_188 : decode cX12_word 188 = .ok (.ireturn, 1) := by decide +kernel
theorem dX12_word_189 : decode cX12_word 189 = .ok (.aload_n 0, 1) := by decide +kernel
theorem dX12_word_190 : decode cX12_word 190 = .ok (.ldc_w 321, 3) := by decide +kernel
theorem dX12_word_193 : decode cX12_word 193 = .ok (.invokevirtual 298, 3) := by decide +kernel
theorem dX12_word_196 : decode cX12_word 196 = .ok (.ifCond .eq 7, 3) := by decide +kernel
theorem dX12_word_199 : decode cX12_word 199 = .ok (.sipush 408, 3) := by decide +kernel
theorem dX12_word_202 : decode cX12_word 202 = .ok (.ireturn, 1) := by decide +kernel
theorem dX12_word_203 : decode cX12_word 203 = .ok (.aload_n 0, 1) := by decide +kernel
theorem dX12_word_204 : decode cX12_word 204 = .ok (.ldc_w 322, 3) := by decide +kernel
theorem dX12_word_207 : decode cX12_word 207 = .ok (.invokevirtual 298, 3) := by decide +kernel
theorem dX12_word_210 : decode cX12_word 210 = .ok (.ifCond .eq 7, 3) := by decide +kernel
theorem dX12_word_213 : decode cX12_word 213 = .ok (.sipush 409, 3) := by decide +kernel
theorem dX12_word_216 : decode cX12_word 216 = .ok (.ireturn, 1) := by decide +kernel
theorem dX12_word_217 : decode cX12_word 217 = .ok (.aload_n 0, 1) := by decide +kernel
theorem dX12_word_218 : decode cX12_word 218 = .ok (.ldc_w 323, 3) := by decide +kernel
theorem dX12_word_221 : decode cX12_word 221 = .ok (.invokevirtual 298, 3) := by decide +kernel
theorem dX12_word_224 : decode cX12_word 224 = .ok (.ifCond .eq 9, 3) := by decide +kernel
theorem dX12_word_227 : decode cX12_word 227 = .ok (.sipush 410, 3) := by decide +kernel
theorem dX12_word_230 : decode cX12_word 230 = .ok (.goto 4, 3) := by decide +kernel
theorem dX12_word_233 : decode cX12_word 233 = .ok (.iconst 1, 1) := by decide +kernel
theorem dX12_word_234 : decode cX12_word 234 = .ok (.ireturn, 1) := by decide +kernel
theorem dX12_next0_0 : decode cX12_next0 0 = .ok (.aload_n 0, 1) := by decide +kernel
theorem dX12_next0_1 : decode cX12_next0 1 = .ok (.aload_n 0, 1) := by decide +kernel
theorem dX12_next0_2 : decode cX12_next0 2 = .ok (.getfield 280, 3) := by decide +kernel
theorem dX12_next0_5 : decode cX12_next0 5 = .ok (.invokevirtual 325, 3) := by decide +kernel
theorem dX12_next0_8 : decode cX12_next0 8 = .ok (.bipush 32, 2) := by decide +kernel
theorem dX12_next0_10 : decode cX12_next0 10 = .ok (.if_icmp .eq 16, 3) := by decide +kernel
theorem dX12_next0_13 : decode cX12_next0 13 = .ok (.aload_n 0, 1) := by decide +kernel
theorem dX12_next0_14 : decode cX12_next0 14 = .ok (.aload_n 0, 1) := by decide +kernel
theorem dX12_next0_15 : decode cX12_next0 15 = .ok (.getfield 280, 3) := by decide +kernel
theorem dX12_next0_18 : decode cX12_next0 18 = .ok (.invokevirtual 325, 3) := by decide +kernel
theorem dX12_next0_21 : decode cX12_next0 21 = .ok (.bipush 10, 2) := by decide +kernel
theorem dX12_next0_23 : decode cX12_next0 23 = .ok (.if_icmp .ne 16, 3) := by decide +kernel
theorem dX12_next0_26 : decode cX12_next0 26 = .ok (.aload_n 0, 1) := by decide +kernel
theorem dX12_next0_27 : decode cX12_next0 27 = .ok (.dup, 1) := by decide +kernel
theorem dX12_next0_28 : decode cX12_next0 28 = .ok (.getfield 280, 3) := by decide +kernel
theorem dX12_next0_31 : decode cX12_next0 31 = .ok (.iconst 1, 1) := by decide +kernel
theorem dX12_next0_32 : decode cX12_next0 32 = .ok (.iadd, 1) := by decide +kernel
theorem dX12_next0_33 : decode cX12_next0 33 = .ok (.putfield 280, 3) := by decide +kernel
theorem dX12_next0_36 : decode cX12_next0 36 = .ok (.goto (-36), 3) := by decide +kernel
theorem dX12_next0_39 : decode cX12_next0 39 = .ok (.aload_n 0, 1) := by decide +kernel
theorem dX12_next0_40 : decode cX12_next0 40 = .ok (.aload_n 0, 1) := by decide +kernel
theorem dX12_next0_41 : decode cX12_next0 41 = .ok (.getfield 280, 3) := by decide +kernel
theorem dX12_next0_44 : decode cX12_next0 44 = .ok (.putfield 283, 3) := by decide +kernel
theorem dX12_next0_47 : decode cX12_next0 47 = .ok (.aload_n 0, 1) := by decide +kernel
theorem dX12_next0_48 : decode cX12_next0 48 = .ok (.aload_n 0, 1) := by decide +kernel
theorem dX12_next0_49 : decode cX12_next0 49 = .ok (.getfield 280, 3) := by decide +kernel
theorem dX12_next0_52 : decode cX12_next0 52 = .ok (.invokevirtual 325, 3) := by decide +kernel
theorem dX12_next0_55 : decode cX12_next0 55 = .ok (.istore_n 1, 1) := by decide +kernel
theorem dX12_next0_56 : decode cX12_next0 56 = .ok (.iload_n 1, 1) := by decide +kernel
theorem dX12_next0_57 : decode cX12_next0 57 = .ok (.iconst (-1), 1) := by decide +kernel
theorem dX12_next0_58 : decode cX12_next0 58 = .ok (.if_icmp .ne 11, 3) := by decide +kernel
theorem dX12_next0_61 : decode cX12_next0 61 = .ok (.aload_n 0, 1) := by decide +kernel
theorem dX12_next0_62 : decode cX12_next0 62 = .ok (.iconst 0, 1) := by decide +kernel
theorem dX12_next0_63 : decode cX12_next0 63 = .ok (.putfield 328, 3) := by decide +kernel
theorem dX12_next0_66 : decode cX12_next0 66 = .ok (.goto 237, 3) := by decide +kernel
theorem dX12_next0_69 : decode cX12_next0 69 = .ok (.iload_n 1, 1) := by decide +kernel
theorem dX12_next0_70 : decode cX12_next0 70 = .ok (.invokestatic 331, 3) := by decide +kernel
theorem dX12_next0_73 : decode cX12_next0 73 = .ok (.ifCond .eq 41, 3) := by decide +kernel
theorem dX12_next0_76 : decode cX12_next0 76 = .ok (.aload_n 0, 1) := by decide +kernel
theorem dX12_next0_77 : decode cX12_next0 77 = .ok (.aload_n 0, 1) := by decide +kernel
theorem dX12_next0_78 : decode cX12_next0 78 = .ok (.getfield 280, 3) := by decide +kernel
theorem dX12_next0_81 : decode cX12_next0 81 = .ok (.invokevirtual 325, 3) := by decide +kernel
theorem dX12_next0_84 : decode cX12_next0 84 = .ok (.invokestatic 331, 3) := by decide +kernel
theorem dX12_next0_87 : decode cX12_next0 87 = .ok (.ifCond .eq 16, 3) := by decide +kernel
theorem dX12_next0_90 : decode cX12_next0 90 = .ok (.aload_n 0, 1) := by decide +kernel
theorem dX12_next0_91 : decode cX12_next0 91 = .ok (.dup, 1) := by decide +kernel
theorem dX12_next0_92 : decode cX12_next0 92 = .ok (.getfield 280, 3) := by decide +kernel
theorem dX12_next0_95 : decode cX12_next0 95 = .ok (.iconst 1, 1) := by decide +kernel
theorem dX12_next0_96 : decode cX12_next0 96 = .ok (.iadd, 1) := by decide +kernel
theorem dX12_next0_97 : decode cX12_next0 97 = .ok (.putfield 280, 3) := by decide +kernel
theorem dX12_next0_100 : decode cX12_next0 100 = .ok (.goto (-24), 3) := by decide +kernel
theorem dX12_next0_103 : decode cX12_next0 103 = .ok (.aload_n 0, 1) := by decide +kernel
theorem dX12_next0_104 : decode cX12_next0 104 = .ok (.aload_n 0, 1) := by decide +kernel
theorem dX12_next0_105 : decode cX12_next0 105 = .ok (.invokevirtual 334, 3) := by decide +kernel
theorem dX12_next0_108 : decode cX12_next0 108 = .ok (.putfield 328, 3) := by decide +kernel
theorem dX12_next0_111 : decode cX12_next0 111 = .ok (.goto 192, 3) := by decide +kernel
theorem dX12_next0_114 : decode cX12_next0 114 = .ok (.iload_n 1, 1) := by decide +kernel
theorem dX12_next0_115 : decode cX12_next0 115 = .ok (.invokestatic 337, 3) := by decide +kernel
theorem dX12_next0_118 : decode cX12_next0 118 = .ok (.ifCond .eq 96, 3) := by decide +kernel
theorem dX12_next0_121 : decode cX12_next0 121 = .ok (.aload_n 0, 1) := by decide +kernel
theorem dX12_next0_122 : decode cX12_next0 122 = .ok (.iconst 0, 1) := by decide +kernel
theorem dX12_next0_123 : decode cX12_next0 123 = .ok (.putfield 340, 3) := by decide +kernel
theorem dX12_next0_126 : decode cX12_next0 126 = .ok (.aload_n 0, 1) := by decide +kernel
theorem dX12_next0_127 : decode cX12_next0 127 = .ok (.aload_n 0, 1) := by decide +kernel
theorem dX12_next0_128 : decode cX12_next0 128 = .ok (.getfield 280, 3) := by decide +kernel
theorem dX12_next0_131 : decode cX12_next0 131 = .ok (.invokevirtual 325, 3) := by decide +kernel
theorem dX12_next0_134 : decode cX12_next0 134 = .ok (.invokestatic 337, 3) := by decide +kernel
theorem dX12_next0_137 : decode cX12_next0 137 = .ok (.ifCond .eq 52, 3) := by decide +kernel
theorem dX12_next0_140 : decode cX12_next0 140 = .ok (.aload_n 0, 1) := by decide +kernel
theorem dX12_next0_141 : decode cX12_next0 141 = .ok (.getfield 280, 3) := by decide +kernel
theorem dX12_next0_144 : decode cX12_next0 144 = .ok (.aload_n 0, 1) := by decide +kernel
theorem dX12_next0_145 : decode cX12_next0 145 = .ok (.getfield 283, 3) := by decide +kernel
theorem dX12_next0_148 : decode cX12_next0 148 = .ok (.iconst 4, 1) := by decide +kernel
theorem dX12_next0_149 : decode cX12_next0 149 = .ok (.iadd, 1) := by decide +kernel
theorem dX12_next0_150 : decode cX12_next0 150 = .ok (.if_icmp .ge 26, 3) := by decide +kernel
theorem dX12_next0_153 : decode cX12_next0 153 = .ok (.aload_n 0, 1) := by decide +kernel
theorem dX12_next0_154 : decode cX12_next0 154 = .ok (.bipush 10, 2) := by decide +kernel
theorem dX12_next0_156 : decode cX12_next0 156 = .ok (.aload_n 0, 1) := by decide +kernel
theorem dX12_next0_157 : decode cX12_next0 157 = .ok (.getfield 340, 3) := by decide +kernel
theorem dX12_next0_160 : decode cX12_next0 160 = .ok (.imul, 1) := by decide +kernel
theorem dX12_next0_161 : decode cX12_next0 161 = .ok (.aload_n 0, 1) := by decide +kernel
theorem dX12_next0_162 : decode cX12_next0 162 = .ok (.aload_n 0, 1) := by decide +kernel
theorem dX12_next0_163 : decode cX12_next0 163 = .ok (.getfield 280, 3) := by decide +kernel
theorem dX12_next0_166 : decode cX12_next0 166 = .ok (.invokevirtual 325, 3) := by decide +kernel
theorem dX12_next0_169 : decode cX12_next0 169 = .ok (.iadd, 1) := by decide +kernel
theorem dX12_next0_170 : decode cX12_next0 170 = .ok (.bipush 48, 2) := by decide +kernel
theorem dX12_next0_172 : decode cX12_next0 172 = .ok (.isub, 1) := by decide +kernel
theorem dX12_next0_173 : decode cX12_next0 173 = .ok (.putfield 340, 3) := by decide +kernel
theorem dX12_next0_176 : decode cX12_next0 176 = .ok (.aload_n 0, 1) := by decide +kernel
theorem dX12_next0_177 : decode cX12_next0 177 = .ok (.dup, 1) := by decide +kernel
theorem dX12_next0_178 : decode cX12_next0 178 = .ok (.getfield 280, 3) := by decide +kernel
theorem dX12_next0_181 : decode cX12_next0 181 = .ok (.iconst 1, 1) := by decide +kernel
theorem dX12_next0_182 : decode cX12_next0 182 = .ok (.iadd, 1) := by decide +kernel
theorem dX12_next0_183 : decode cX12_next0 183 = .ok (.putfield 280, 3) := by decide +kernel
theorem dX12_next0_186 : decode cX12_next0 186 = .ok (.goto (-60), 3) := by decide +kernel
theorem dX12_next0_189 : decode cX12_next0 189 = .ok (.aload_n 0, 1) := by decide +kernel
theorem dX12_next0_190 : decode cX12_next0 190 = .ok (.aload_n 0, 1) := by decide +kernel
theorem dX12_next0_191 : decode cX12_next0 191 = .ok (.getfield 280, 3) := by decide +kernel
theorem dX12_next0_194 : decode cX12_next0 194 = .ok (.aload_n 0, 1) := by decide +kernel
theorem dX12_next0_195 : decode cX12_next0 195 = .ok (.getfield 283, 3) := by decide +kernel
theorem dX12_next0_198 : decode cX12_next0 198 = .ok (.isub, 1) := by decide +kernel
theorem dX12_next0_199 : decode cX12_next0 199 = .ok (.iconst 5, 1) := by decide +kernel
theorem dX12_next0_200 : decode cX12_next0 200 = .ok (.if_icmp .ge 7, 3) := by decide +kernel
theorem dX12_next0_203 : decode cX12_next0 203 = .ok (.iconst 2, 1) := by decide +kernel
theorem dX12_next0_204 : decode cX12_next0 204 = .ok (.goto 4, 3) := by decide +kernel
theorem dX12_next0_207 : decode cX12_next0 207 = .ok (.iconst 1, 1) := by decide +kernel
theorem dX12_next0_208 : decode cX12_next0 208 = .ok (.putfield 328, 3) := by decide +kernel
theorem dX12_next0_211 : decode cX12_next0 211 = .ok (.goto 92, 3) := by decide +kernel
theorem dX12_next0_214 : decode cX12_next0 214 = .ok (.aload_n 0, 1) := by decide +kernel
theorem dX12_next0_215 : decode cX12_next0 215 = .ok (.dup, 1) := by decide +kernel
theorem dX12_next0_216 : decode cX12_next0 216 = .ok (.getfield 280, 3) := by decide +kernel
theorem dX12_next0_219 : decode cX12_next0 219 = .ok (.iconst 1, 1) := by decide +kernel
theorem dX12_next0_220 : decode cX12_next0 220 = .ok (.iadd, 1) := by decide +kernel
theorem dX12_next0_221 : decode cX12_next0 221 = .ok (.putfield 280, 3) := by decide +kernel
theorem dX12_next0_224 : decode cX12_next0 224 = .ok (.iload_n 1, 1) := by decide +kernel
theorem dX12_next0_225 : decode cX12_next0 225 = .ok (.bipush 59, 2) := by decide +kernel
theorem dX12_next0_227 : decode cX12_next0 227 = .ok (.if_icmp .eq 57, 3) := by decide +kernel
theorem dX12_next0_230 : decode cX12_next0 230 = .ok (.iload_n 1, 1) := by decide +kernel
theorem dX12_next0_231 : decode cX12_next0 231 = .ok (.bipush 43, 2) := by decide +kernel
theorem dX12_next0_233 : decode cX12_next0 233 = .ok (.if_icmp .eq 51, 3) := by decide +kernel
theorem dX12_next0_236 : decode cX12_next0 236 = .ok (.iload_n 1, 1) := by decide +kernel
theorem dX12_next0_237 : decode cX12_next0 237 = .ok (.bipush 45, 2) := by decide +kernel
theorem dX12_next0_239 : decode cX12_next0 239 = .ok (.if_icmp .eq 45, 3) := by decide +kernel
theorem dX12_next0_242 : decode cX12_next0 242 = .ok (.iload_n 1, 1) := by decide +kernel
theorem dX12_next0_243 : decode cX12_next0 243 = .ok (.bipush 42, 2) := by decide +kernel
theorem dX12_next0_245 : decode cX12_next0 245 = .ok (.if_icmp .eq 39, 3) := by decide +kernel
theorem dX12_next0_248 : decode cX12_next0 248 = .ok (.iload_n 1, 1) := by decide +kernel
theorem dX12_next0_249 : decode cX12_next0 249 = .ok (.bipush 47, 2) := by decide +kernel
theorem dX12_next0_251 : decode cX12_next0 251 = .ok (.if_icmp .eq 33, 3) := by decide +kernel
theorem dX12_next0_254 : decode cX12_next0 254 = .ok (.iload_n 1, 1) := by decide +kernel
theorem dX12_next0_255 : decode cX12_next0 255 = .ok (.bipush 40, 2) := by decide +kernel
theorem dX12_next0_257 : decode cX12_next0 257 = .ok (.if_icmp .eq 27, 3) := by decide +kernel
theorem dX12_next0_260 : decode cX12_next0 260 = .ok (.iload_n 1, 1) := by decide +kernel
theorem dX12_next0_261 : decode cX12_next0 261 = .ok (.bipush 41, 2) := by decide +kernel
theorem dX12_next0_263 : decode cX12_next0 263 = .ok (.if_icmp .eq 21, 3) := by decide +kernel
theorem dX12_next0_266 : decode cX12_next0 266 = .ok (.iload_n 1, 1) := by decide +kernel
theorem dX12_next0_267 : decode cX12_next0 267 = .ok (.bipush 60, 2) := by decide +kernel
theorem dX12_next0_269 : decode cX12_next0 269 = .ok (.if_icmp .eq 15, 3) := by decide +kernel
theorem dX12_next0_272 : decode cX12_next0 272 = .ok (.iload_n 1, 1) := by decide +kernel
theorem dX12_next0_273 : decode cX12_next0 273 = .ok (.bipush 61, 2) := by decide +kernel
theorem dX12_next0_275 : decode cX12_next0 275 = .ok (.if_icmp .eq 9, 3) := by decide +kernel
theorem dX12_next0_278 : decode cX12_next0 278 = .ok (.iload_n 1, 1) := by decide +kernel
theorem dX12_next0_279 : decode cX12_next0 279 = .ok (.bipush 62, 2) := by decide +kernel
theorem dX12_next0_281 : decode cX12_next0 281 = .ok (.if_icmp .ne 7, 3) := by decide +kernel
theorem dX12_next0_284 : decode cX12_next0 284 = .ok (.iconst 1, 1) := by decide +kernel
theorem dX12_next0_285 : decode cX12_next0 285 = .ok (.goto 4, 3) := by decide +kernel
theorem dX12_next0_288 : decode cX12_next0 288 = .ok (.iconst 0, 1) := by decide +kernel
theorem dX12_next0_289 : decode cX12_next0 289 = .ok (.istore_n 2, 1) := by decide +kernel
theorem dX12_next0_290 : decode cX12_next0 290 = .ok (.aload_n 0, 1) := by decide +kernel
theorem dX12_next0_291 : decode cX12_next0 291 = .ok (.iload_n 2, 1) := by decide +kernel
theorem dX12_next0_292 : decode cX12_next0 292 = .ok (.ifCond .eq 7, 3) := by decide +kernel
theorem dX12_next0_295 : decode cX12_next0 295 = .ok (.iload_n 1, 1) := by decide +kernel
theorem dX12_next0_296 : decode cX12_next0 296 = .ok (.goto 4, 3) := by decide +kernel
theorem dX12_next0_299 : decode cX12_next0 299 = .ok (.iconst 1, 1) := by decide +kernel
theorem dX12_next0_300 : decode cX12_next0 300 = .ok (.putfield 328, 3) := by decide +kernel
theorem dX12_next0_303 : decode cX12_next0 303 = .ok (.return_, 1) := by decide +kernel
theorem dX12_bad_0 : decode cX12_bad 0 = .ok (.aload_n 0, 1) := by decide +kernel
theorem dX12_bad_1 : decode cX12_bad 1 = .ok (.iload_n 1, 1) := by decide +kernel
theorem dX12_bad_2 : decode cX12_bad 2 = .ok (.putfield 343, 3) := by decide +kernel
theorem dX12_bad_5 : decode cX12_bad 5 = .ok (.aload_n 0, 1) := by decide +kernel
theorem dX12_bad_6 : decode cX12_bad 6 = .ok (.aload_n 0, 1) := by decide +kernel
theorem dX12_bad_7 : decode cX12_bad 7 = .ok (.getfield 283, 3) := by decide +kernel
theorem dX12_bad_10 : decode cX12_bad 10 = .ok (.putfield 346, 3) := by decide +kernel
theorem dX12_bad_13 : decode cX12_bad 13 = .ok (.iconst 0, 1) := by decide +kernel
theorem dX12_bad_14 : decode cX12_bad 14 = .ok (.ireturn, 1) := by decide +kernel
theorem dX12_need_0 : decode cX12_need 0 = .ok (.aload_n 0, 1) := by decide +kernel
theorem dX12_need_1 : decode cX12_need 1 = .ok (.getfield 328, 3) := by decide +kernel
theorem dX12_need_4 : decode cX12_need 4 = .ok (.iload_n 1, 1) := by decide +kernel
theorem dX12_need_5 : decode cX12_need 5 = .ok (.if_icmp .eq 9, 3) := by decide +kernel
theorem dX12_need_8 : decode cX12_need 8 = .ok (.aload_n 0, 1) := by decide +kernel
theorem dX12_need_9 : decode cX12_need 9 = .ok (.iconst 1, 1) := by decide +kernel
theorem dX12_need_10 : decode cX12_need 10 = .ok (.invokevirtual 349, 3) := by decide +kernel
theorem dX12_need_13 : decode cX12_need 13 = .ok (.ireturn, 1) := by decide +kernel
theorem dX12_need_14 : decode cX12_need 14 = .ok (.aload_n 0, 1) := by decide +kernel
theorem dX12_need_15 : decode cX12_need 15 = .ok (.invokevirtual 352, 3) := by decide +kernel
theorem dX12_need_18 : decode cX12_need 18 = .ok (.iconst 1, 1) := by decide +kernel
theorem dX12_need_19 : decode cX12_need 19 = .ok (.ireturn, 1) := by decide +kernel
theorem dX12_lay_0 : decode cX12_lay 0 = .ok (.aload_n 0, 1) := by decide +kernel
theorem dX12_lay_1 : decode cX12_lay 1 = .ok (.getfield 116, 3) := by decide +kernel
theorem dX12_lay_4 : decode cX12_lay 4 = .ok (.iconst 2, 1) := by decide +kernel
theorem dX12_lay_5 : decode cX12_lay 5 = .ok (.aload_n 0, 1) := by decide +kernel
theorem dX12_lay_6 : decode cX12_lay 6 = .ok (.getfield 355, 3) := by decide +kernel
theorem dX12_lay_9 : decode cX12_lay 9 = .ok (.imul, 1) := by decide +kernel
theorem dX12_lay_10 : decode cX12_lay 10 = .ok (.iload_n 1, 1) := by decide +kernel
theorem dX12_lay_11 : decode cX12_lay 11 = .ok (.iastore, 1) := by decide +kernel
theorem dX12_lay_12 : decode cX12_lay 12 = .ok (.aload_n 0, 1) := by decide +kernel
theorem dX12_lay_13 : decode cX12_lay 13 = .ok (.getfield 116, 3) := by decide +kernel
theorem dX12_lay_16 : decode cX12_lay 16 = .ok (.iconst 2, 1) := by decide +kernel
theorem dX12_lay_17 : decode cX12_lay 17 = .ok (.aload_n 0, 1) := by decide +kernel
theorem dX12_lay_18 : decode cX12_lay 18 = .ok (.getfield 355, 3) := by decide +kernel
theorem dX12_lay_21 : decode cX12_lay 21 = .ok (.imul, 1) := by decide +kernel
theorem dX12_lay_22 : decode cX12_lay 22 = .ok (.iconst 1, 1) := by decide +kernel
theorem dX12_lay_23 : decode cX12_lay 23 = .ok (.iadd, 1) := by decide +kernel
theorem dX12_lay_24 : decode cX12_lay 24 = .ok (.iload_n 2, 1) := by decide +kernel
theorem dX12_lay_25 : decode cX12_lay 25 = .ok (.iastore, 1) := by decide +kernel
theorem dX12_lay_26 : decode cX12_lay 26 = .ok (.aload_n 0, 1) := by decide +kernel
theorem dX12_lay_27 : decode cX12_lay 27 = .ok (.dup, 1) := by decide +kernel
theorem dX12_lay_28 : decode cX12_lay 28 = .ok (.getfield 355, 3) := by decide +kernel
theorem dX12_lay_31 : decode cX12_lay 31 = .ok (.iconst 1, 1) := by decide +kernel
theorem dX12_lay_32 : decode cX12_lay 32 = .ok (.iadd, 1) := by decide +kernel
theorem dX12_lay_33 : decode cX12_lay 33 = .ok (.putfield 355, 3) := by decide +kernel
theorem dX12_lay_36 : decode cX12_lay 36 = .ok (.return_, 1) := by decide +kernel
theorem dX12_opens_0 : decode cX12_opens 0 = .ok (.aload_n 0, 1) := by decide +kernel
theorem dX12_opens_1 : decode cX12_opens 1 = .ok (.getfield 358, 3) := by decide +kernel
theorem dX12_opens_4 : decode cX12_opens 4 = .ok (.bipush 8, 2) := by decide +kernel
theorem dX12_opens_6 : decode cX12_opens 6 = .ok (.if_icmp .ne 9, 3) := by decide +kernel
theorem dX12_opens_9 : decode cX12_opens 9 = .ok (.aload_n 0, 1) := by decide +kernel
theorem dX12_opens_10 : decode cX12_opens 10 = .ok (.iconst 3, 1) := by decide +kernel
theorem dX12_opens_11 : decode cX12_opens 11 = .ok (.invokevirtual 349, 3) := by decide +kernel
theorem dX12_opens_14 : decode cX12_opens 14 = .ok (.ireturn, 1) := by decide +kernel
theorem dX12_opens_15 : decode cX12_opens 15 = .ok (.aload_n 0, 1) := by decide +kernel
theorem dX12_opens_16 : decode cX12_opens 16 = .ok (.dup, 1) := by decide +kernel
theorem dX12_opens_17 : decode cX12_opens 17 = .ok (.getfield 358, 3) := by decide +kernel
theorem dX12_opens_20 : decode cX12_opens 20 = .ok (.iconst 1, 1) := by decide +kernel
theorem dX12_opens_21 : decode cX12_opens 21 = .ok (.iadd, 1) := by decide +kernel
theorem dX12_opens_22 : decode cX12_opens 22 = .ok (.putfield 358, 3) := by decide +kernel
theorem dX12_opens_25 : decode cX12_opens 25 = .ok (.aload_n 0, 1) := by decide +kernel
theorem dX12_opens_26 : decode cX12_opens 26 = .ok (.invokevirtual 352, 3) := by decide +kernel
theorem dX12_opens_29 : decode cX12_opens 29 = .ok (.iconst 1, 1) := by decide +kernel
theorem dX12_opens_30 : decode cX12_opens 30 = .ok (.ireturn, 1) := by decide +kernel
theorem dX12_sumUp_0 : decode cX12_sumUp 0 = .ok (.aload_n 0, 1) := by decide +kernel
theorem dX12_sumUp_1 : decode cX12_sumUp 1 = .ok (.invokevirtual 361, 3) := by decide +kernel
theorem dX12_sumUp_4 : decode cX12_sumUp 4 = .ok (.ifCond .ne 5, 3) := by decide +kernel
theorem dX12_sumUp_7 : decode cX12_sumUp 7 = .ok (.iconst 0, 1) := by decide +kernel
theorem dX12_sumUp_8 : decode cX12_sumUp 8 = .ok (.ireturn, 1) := by decide +kernel
theorem dX12_sumUp_9 : decode cX12_sumUp 9 = .ok (.aload_n 0, 1) := by decide +kernel
theorem dX12_sumUp_10 : decode cX12_sumUp 10 = .ok (.getfield 328, 3) := by decide +kernel
theorem dX12_sumUp_13 : decode cX12_sumUp 13 = .ok (.bipush 43, 2) := by decide +kernel
theorem dX12_sumUp_15 : decode cX12_sumUp 15 = .ok (.if_icmp .eq 12, 3) := by decide +kernel
theorem dX12_sumUp_18 : decode cX12_sumUp 18 = .ok (.aload_n 0, 1) := by decide +kernel
theorem dX12_sumUp_19 : decode cX12_sumUp 19 = .ok (.getfield 328, 3) := by decide +kernel
theorem dX12_sumUp_22 : decode cX12_sumUp 22 = .ok (.bipush 45, 2) := by decide +kernel
theorem dX12_sumUp_24 : decode cX12_sumUp 24 = .ok (.if_icmp .ne 42, 3) := by decide +kernel
theorem dX12_sumUp_27 : decode cX12_sumUp 27 = .ok (.aload_n 0, 1) := by decide +kernel
theorem dX12_sumUp_28 : decode cX12_sumUp 28 = .ok (.getfield 328, 3) := by decide +kernel
theorem dX12_sumUp_31 : decode cX12_sumUp 31 = .ok (.bipush 43, 2) := by decide +kernel
theorem dX12_sumUp_33 : decode cX12_sumUp 33 = .ok (.if_icmp .ne 8, 3) := by decide +kernel
theorem dX12_sumUp_36 : decode cX12_sumUp 36 = .ok (.bipush 12, 2) := by decide +kernel
theorem dX12_sumUp_38 : decode cX12_sumUp 38 = .ok (.goto 5, 3) := by decide +kernel
theorem dX12_sumUp_41 : decode cX12_sumUp 41 = .ok (.bipush 13, 2) := by decide +kernel
theorem dX12_sumUp_43 : decode cX12_sumUp 43 = .ok (.istore_n 1, 1) := by decide +kernel
theorem dX12_sumUp_44 : decode cX12_sumUp 44 = .ok (.aload_n 0, 1) := by decide +kernel
theorem dX12_sumUp_45 : decode cX12_sumUp 45 = .ok (.invokevirtual 352, 3) := by decide +kernel
theorem dX12_sumUp_48 : decode cX12_sumUp 48 = .ok (.aload_n 0, 1) := by decide +kernel
theorem dX12_sumUp_49 : decode cX12_sumUp 49 = .ok (.invokevirtual 361, 3) := by decide +kernel
theorem dX12_sumUp_52 : decode cX12_sumUp 52 = .ok (.ifCond .ne 5, 3) := by decide +kernel
theorem dX12_sumUp_55 : decode cX12_sumUp 55 = .ok (.iconst 0, 1) := by decide +kernel
theorem dX12_sumUp_56 : decode cX12_sumUp 56 = .ok (.ireturn, 1) := by decide +kernel
theorem dX12_sumUp_57 : decode cX12_sumUp 57 = .ok (.aload_n 0, 1) := by decide +kernel
theorem dX12_sumUp_58 : decode cX12_sumUp 58 = .ok (.iload_n 1, 1) := by decide +kernel
theorem dX12_sumUp_59 : decode cX12_sumUp 59 = .ok (.iconst 0, 1) := by decide +kernel
theorem dX12_sumUp_60 : decode cX12_sumUp 60 = .ok (.invokevirtual 365, 3) := by decide +kernel
theorem dX12_sumUp_63 : decode cX12_sumUp 63 = .ok (.goto (-54), 3) := by decide +kernel
theorem dX12_sumUp_66 : decode cX12_sumUp 66 = .ok (.iconst 1, 1) := by decide +kernel
theorem dX12_sumUp_67 : decode cX12_sumUp 67 = .ok (.ireturn, 1) := by decide +kernel
theorem dX12_product_0 : decode cX12_product 0 = .ok (.aload_n 0, 1) := by decide +kernel
theorem dX12_product_1 : decode cX12_product 1 = .ok (.invokevirtual 369, 3) := by decide +kernel
theorem dX12_product_4 : decode cX12_product 4 = .ok (.ifCond .ne 5, 3) := by decide +kernel
theorem dX12_product_7 : decode cX12_product 7 = .ok (.iconst 0, 1) := by decide +kernel
theorem dX12_product_8 : decode cX12_product 8 = .ok (.ireturn, 1) := by decide +kernel
theorem dX12_product_9 : decode cX12_product 9 = .ok (.aload_n 0, 1) := by decide +kernel
theorem dX12_product_10 : decode cX12_product 10 = .ok (.getfield 328, 3) := by decide +kernel
theorem dX12_product_13 : decode cX12_product 13 = .ok (.bipush 42, 2) := by decide +kernel
theorem dX12_product_15 : decode cX12_product 15 = .ok (.if_icmp .eq 12, 3) := by decide +kernel
theorem dX12_product_18 : decode cX12_product 18 = .ok (.aload_n 0, 1) := by decide +kernel
theorem dX12_product_19 : decode cX12_product 19 = .ok (.getfield 328, 3) := by decide +kernel
theorem dX12_product_22 : decode cX12_product 22 = .ok (.bipush 47, 2) := by decide +kernel
theorem dX12_product_24 : decode cX12_product 24 = .ok (.if_icmp .ne 89, 3) := by decide +kernel
theorem dX12_product_27 : decode cX12_product 27 = .ok (.aload_n 0, 1) := by decide +kernel
theorem dX12_product_28 : decode cX12_product 28 = .ok (.getfield 328, 3) := by decide +kernel
theorem dX12_product_31 : decode cX12_product 31 = .ok (.bipush 47, 2) := by decide +kernel
theorem dX12_product_33 : decode cX12_product 33 = .ok (.if_icmp .ne 7, 3) := by decide +kernel
theorem dX12_product_36 : decode cX12_product 36 = .ok (.iconst 1, 1) := by decide +kernel
theorem dX12_product_37 : decode cX12_product 37 = .ok (.goto 4, 3) := by decide +kernel
theorem dX12_product_40 : decode cX12_product 40 = .ok (.iconst 0, 1) := by decide +kernel
theorem dX12_product_41 : decode cX12_product 41 = .ok (.istore_n 1, 1) := by decide +kernel
theorem dX12_product_42 : decode cX12_product 42 = .ok (.aload_n 0, 1) := by decide +kernel
theorem dX12_product_43 : decode cX12_product 43 = .ok (.invokevirtual 352, 3) := by decide +kernel
theorem dX12_product_46 : decode cX12_product 46 = .ok (.iload_n 1, 1) := by decide +kernel
theorem dX12_product_47 : decode cX12_product 47 = .ok (.ifCond .eq 47, 3) := by decide +kernel
theorem dX12_product_50 : decode cX12_product 50 = .ok (.aload_n 0, 1) := by decide +kernel
theorem dX12_product_51 : decode cX12_product 51 = .ok (.getfield 328, 3) := by decide +kernel
theorem dX12_product_54 : decode cX12_product 54 = .ok (.iconst 2, 1) := by decide +kernel
theorem dX12_product_55 : decode cX12_product 55 = .ok (.if_icmp .eq 9, 3) := by decide +kernel
theorem dX12_product_58 : decode cX12_product 58 = .ok (.aload_n 0, 1) := by decide +kernel
theorem dX12_product_59 : decode cX12_product 59 = .ok (.iconst 1, 1) := by decide +kernel
theorem dX12_product_60 : decode cX12_product 60 = .ok (.invokevirtual 349, 3) := by decide +kernel
theorem dX12_product_63 : decode cX12_product 63 = .ok (.ireturn, 1) := by decide +kernel
theorem dX12_product_64 : decode cX12_product 64 = .ok (.aload_n 0, 1) := by decide +kernel
theorem dX12_product_65 : decode cX12_product 65 = .ok (.getfield 340, 3) := by decide +kernel
theorem dX12_product_68 : decode cX12_product 68 = .ok (.ifCond .ne 9, 3) := by decide +kernel
theorem dX12_product_71 : decode cX12_product 71 = .ok (.aload_n 0, 1) := by decide +kernel
theorem dX12_product_72 : decode cX12_product 72 = .ok (.iconst 2, 1) := by decide +kernel
theorem dX12_product_73 : decode cX12_product 73 = .ok (.invokevirtual 349, 3) := by decide +kernel
theorem dX12_product_76 : decode cX12_product 76 = .ok (.ireturn, 1) := by decide +kernel
theorem dX12_product_77 : decode cX12_product 77 = .ok (.aload_n 0, 1) := by decide +kernel
theorem dX12_product_78 : decode cX12_product 78 = .ok (.bipush 15, 2) := by decide +kernel
theorem dX12_product_80 : decode cX12_product 80 = .ok (.aload_n 0, 1) := by decide +kernel
theorem dX12_product_81 : decode cX12_product 81 = .ok (.getfield 340, 3) := by decide +kernel
theorem dX12_product_84 : decode cX12_product 84 = .ok (.invokevirtual 365, 3) := by decide +kernel
theorem dX12_product_87 : decode cX12_product 87 = .ok (.aload_n 0, 1) := by decide +kernel
theorem dX12_product_88 : decode cX12_product 88 = .ok (.invokevirtual 352, 3) := by decide +kernel
theorem dX12_product_91 : decode cX12_product 91 = .ok (.goto 19, 3) := by decide +kernel
theorem dX12_product_94 : decode cX12_product 94 = .ok (.aload_n 0, 1) := by decide +kernel
theorem dX12_product_95 : decode cX12_product 95 = .ok (.invokevirtual 369, 3) := by decide +kernel
theorem dX12_product_98 : decode cX12_product 98 = .ok (.ifCond .ne 5, 3) := by decide +kernel
theorem dX12_product_101 : decode cX12_product 101 = .ok (.iconst 0, 1) := by decide +kernel
theorem dX12_product_102 : decode cX12_product 102 = .ok (.ireturn, 1) := by decide +kernel
theorem dX12_product_103 : decode cX12_product 103 = .ok (.aload_n 0, 1) := by decide +kernel
theorem dX12_product_104 : decode cX12_product 104 = .ok (.bipush 14, 2) := by decide +kernel
theorem dX12_product_106 : decode cX12_product 106 = .ok (.iconst 0, 1) := by decide +kernel
theorem dX12_product_107 : decode cX12_product 107 = .ok (.invokevirtual 365, 3) := by decide +kernel
theorem dX12_product_110 : decode cX12_product 110 = .ok (.goto (-101), 3) := by decide +kernel
theorem dX12_product_113 : decode cX12_product 113 = .ok (.iconst 1, 1) := by decide +kernel
theorem dX12_product_114 : decode cX12_product 114 = .ok (.ireturn, 1) := by decide +kernel
theorem dX12_unit_0 : decode cX12_unit 0 = .ok (.aload_n 0, 1) := by decide +kernel
theorem dX12_unit_1 : decode cX12_unit 1 = .ok (.getfield 328, 3) := by decide +kernel
theorem dX12_unit_4 : decode cX12_unit 4 = .ok (.iconst 2, 1) := by decide +kernel
theorem dX12_unit_5 : decode cX12_unit 5 = .ok (.if_icmp .eq 19, 3) := by decide +kernel
theorem dX12_unit_8 : decode cX12_unit 8 = .ok (.aload_n 0, 1) := by decide +kernel
theorem dX12_unit_9 : decode cX12_unit 9 = .ok (.getfield 328, 3) := by decide +kernel
theorem dX12_unit_12 : decode cX12_unit 12 = .ok (.sipush 401, 3) := by decide +kernel
theorem dX12_unit_15 : decode cX12_unit 15 = .ok (.if_icmp .ge 9, 3) := by decide +kernel
theorem dX12_unit_18 : decode cX12_unit 18 = .ok (.aload_n 0, 1) := by decide +kernel
theorem dX12_unit_19 : decode cX12_unit 19 = .ok (.iconst 1, 1) := by decide +kernel
theorem dX12_unit_20 : decode cX12_unit 20 = .ok (.invokevirtual 349, 3) := by decide +kernel
theorem dX12_unit_23 : decode cX12_unit 23 = .ok (.ireturn, 1) := by decide +kernel
theorem dX12_unit_24 : decode cX12_unit 24 = .ok (.aload_n 0, 1) := by decide +kernel
theorem dX12_unit_25 : decode cX12_unit 25 = .ok (.aload_n 0, 1) := by decide +kernel
theorem dX12_unit_26 : decode cX12_unit 26 = .ok (.getfield 328, 3) := by decide +kernel
theorem dX12_unit_29 : decode cX12_unit 29 = .ok (.iconst 2, 1) := by decide +kernel
theorem dX12_unit_30 : decode cX12_unit 30 = .ok (.if_icmp .ne 7, 3) := by decide +kernel
theorem dX12_unit_33 : decode cX12_unit 33 = .ok (.iconst 0, 1) := by decide +kernel
theorem dX12_unit_34 : decode cX12_unit 34 = .ok (.goto 13, 3) := by decide +kernel
theorem dX12_unit_37 : decode cX12_unit 37 = .ok (.iconst 1, 1) := by decide +kernel
theorem dX12_unit_38 : decode cX12_unit 38 = .ok (.aload_n 0, 1) := by decide +kernel
theorem dX12_unit_39 : decode cX12_unit 39 = .ok (.getfield 328, 3) := by decide +kernel
theorem dX12_unit_42 : decode cX12_unit 42 = .ok (.iadd, 1) := by decide +kernel
theorem dX12_unit_43 : decode cX12_unit 43 = .ok (.sipush 401, 3) := by decide +kernel
theorem dX12_unit_46 : decode cX12_unit 46 = .ok (.isub, 1) := by decide +kernel
theorem dX12_unit_47 : decode cX12_unit 47 = .ok (.aload_n 0, 1) := by decide +kernel
theorem dX12_unit_48 : decode cX12_unit 48 = .ok (.getfield 340, 3) := by decide +kernel
theorem dX12_unit_51 : decode cX12_unit 51 = .ok (.invokevirtual 365, 3) := by decide +kernel
theorem dX12_unit_54 : decode cX12_unit 54 = .ok (.aload_n 0, 1) := by decide +kernel
theorem dX12_unit_55 : decode cX12_unit 55 = .ok (.invokevirtual 352, 3) := by decide +kernel
theorem dX12_unit_58 : decode cX12_unit 58 = .ok (.iconst 1, 1) := by decide +kernel
theorem dX12_unit_59 : decode cX12_unit 59 = .ok (.ireturn, 1) := by decide +kernel
theorem dX12_any_0 : decode cX12_any 0 = .ok (.aload_n 0, 1) := by decide +kernel
theorem dX12_any_1 : decode cX12_any 1 = .ok (.invokevirtual 372, 3) := by decide +kernel
theorem dX12_any_4 : decode cX12_any 4 = .ok (.ifCond .ne 5, 3) := by decide +kernel
theorem dX12_any_7 : decode cX12_any 7 = .ok (.iconst 0, 1) := by decide +kernel
theorem dX12_any_8 : decode cX12_any 8 = .ok (.ireturn, 1) := by decide +kernel
theorem dX12_any_9 : decode cX12_any 9 = .ok (.aload_n 0, 1) := by decide +kernel
theorem dX12_any_10 : decode cX12_any 10 = .ok (.getfield 328, 3) := by decide +kernel
theorem dX12_any_13 : decode cX12_any 13 = .ok (.iconst 4, 1) := by decide +kernel
theorem dX12_any_14 : decode cX12_any 14 = .ok (.if_icmp .ne 26, 3) := by decide +kernel
theorem dX12_any_17 : decode cX12_any 17 = .ok (.aload_n 0, 1) := by decide +kernel
theorem dX12_any_18 : decode cX12_any 18 = .ok (.invokevirtual 352, 3) := by decide +kernel
theorem dX12_any_21 : decode cX12_any 21 = .ok (.aload_n 0, 1) := by decide +kernel
theorem dX12_any_22 : decode cX12_any 22 = .ok (.invokevirtual 372, 3) := by decide +kernel
theorem dX12_any_25 : decode cX12_any 25 = .ok (.ifCond .ne 5, 3) := by decide +kernel
theorem dX12_any_28 : decode cX12_any 28 = .ok (.iconst 0, 1) := by decide +kernel
theorem dX12_any_29 : decode cX12_any 29 = .ok (.ireturn, 1) := by decide +kernel
theorem dX12_any_30 : decode cX12_any 30 = .ok (.aload_n 0, 1) := by decide +kernel
theorem dX12_any_31 : decode cX12_any 31 = .ok (.bipush 21, 2) := by decide +kernel
theorem dX12_any_33 : decode cX12_any 33 = .ok (.iconst 0, 1) := by decide +kernel
theorem dX12_any_34 : decode cX12_any 34 = .ok (.invokevirtual 365, 3) := by decide +kernel
theorem dX12_any_37 : decode cX12_any 37 = .ok (.goto (-28), 3) := by decide +kernel
theorem dX12_any_40 : decode cX12_any 40 = .ok (.iconst 1, 1) := by decide +kernel
theorem dX12_any_41 : decode cX12_any 41 = .ok (.ireturn, 1) := by decide +kernel
theorem dX12_every_0 : decode cX12_every 0 = .ok (.aload_n 0, 1) := by decide +kernel
theorem dX12_every_1 : decode cX12_every 1 = .ok (.invokevirtual 375, 3) := by decide +kernel
theorem dX12_every_4 : decode cX12_every 4 = .ok (.ifCond .ne 5, 3) := by decide +kernel
theorem dX12_every_7 : decode cX12_every 7 = .ok (.iconst 0, 1) := by decide +kernel
theorem dX12_every_8 : decode cX12_every 8 = .ok (.ireturn, 1) := by decide +kernel
theorem dX12_every_9 : decode cX12_every 9 = .ok (.aload_n 0, 1) := by decide +kernel
theorem dX12_every_10 : decode cX12_every 10 = .ok (.getfield 328, 3) := by decide +kernel
theorem dX12_every_13 : decode cX12_every 13 = .ok (.iconst 5, 1) := by decide +kernel
theorem dX12_every_14 : decode cX12_every 14 = .ok (.if_icmp .ne 26, 3) := by decide +kernel
theorem dX12_every_17 : decode cX12_every 17 = .ok (.aload_n 0, 1) := by decide +kernel
theorem dX12_every_18 : decode cX12_every 18 = .ok (.invokevirtual 352, 3) := by decide +kernel
theorem dX12_every_21 : decode cX12_every 21 = .ok (.aload_n 0, 1) := by decide +kernel
theorem dX12_every_22 : decode cX12_every 22 = .ok (.invokevirtual 375, 3) := by decide +kernel
theorem dX12_every_25 : decode cX12_every 25 = .ok (.ifCond .ne 5, 3) := by decide +kernel
theorem dX12_every_28 : decode cX12_every 28 = .ok (.iconst 0, 1) := by decide +kernel
theorem dX12_every_29 : decode cX12_every 29 = .ok (.ireturn, 1) := by decide +kernel
theorem dX12_every_30 : decode cX12_every 30 = .ok (.aload_n 0, 1) := by decide +kernel
theorem dX12_every_31 : decode cX12_every 31 = .ok (.bipush 20, 2) := by decide +kernel
theorem dX12_every_33 : decode cX12_every 33 = .ok (.iconst 0, 1) := by decide +kernel
theorem dX12_every_34 : decode cX12_every 34 = .ok (.invokevirtual 365, 3) := by decide +kernel
theorem dX12_every_37 : decode cX12_every 37 = .ok (.goto (-28), 3) := by decide +kernel
theorem dX12_every_40 : decode cX12_every 40 = .ok (.iconst 1, 1) := by decide +kernel
theorem dX12_every_41 : decode cX12_every 41 = .ok (.ireturn, 1) := by decide +kernel
theorem dX12_one_0 : decode cX12_one 0 = .ok (.aload_n 0, 1) := by decide +kernel
theorem dX12_one_1 : decode cX12_one 1 = .ok (.getfield 328, 3) := by decide +kernel
theorem dX12_one_4 : decode cX12_one 4 = .ok (.bipush 6, 2) := by decide +kernel
theorem dX12_one_6 : decode cX12_one 6 = .ok (.if_icmp .ne 38, 3) := by decide +kernel
theorem dX12_one_9 : decode cX12_one 9 = .ok (.aload_n 0, 1) := by decide +kernel
theorem dX12_one_10 : decode cX12_one 10 = .ok (.invokevirtual 378, 3) := by decide +kernel
theorem dX12_one_13 : decode cX12_one 13 = .ok (.ifCond .eq 10, 3) := by decide +kernel
theorem dX12_one_16 : decode cX12_one 16 = .ok (.aload_n 0, 1) := by decide +kernel
theorem dX12_one_17 : decode cX12_one 17 = .ok (.invokevirtual 375, 3) := by decide +kernel
theorem dX12_one_20 : decode cX12_one 20 = .ok (.ifCond .ne 5, 3) := by decide +kernel
theorem dX12_one_23 : decode cX12_one 23 = .ok (.iconst 0, 1) := by decide +kernel
theorem dX12_one_24 : decode cX12_one 24 = .ok (.ireturn, 1) := by decide +kernel
theorem dX12_one_25 : decode cX12_one 25 = .ok (.aload_n 0, 1) := by decide +kernel
theorem dX12_one_26 : decode cX12_one 26 = .ok (.dup, 1) := by decide +kernel
theorem dX12_one_27 : decode cX12_one 27 = .ok (.getfield 358, 3) := by decide +kernel
theorem dX12_one_30 : decode cX12_one 30 = .ok (.iconst 1, 1) := by decide +kernel
theorem dX12_one_31 : decode cX12_one 31 = .ok (.isub, 1) := by decide +kernel
theorem dX12_one_32 : decode cX12_one 32 = .ok (.putfield 358, 3) := by decide +kernel
theorem dX12_one_35 : decode cX12_one 35 = .ok (.aload_n 0, 1) := by decide +kernel
theorem dX12_one_36 : decode cX12_one 36 = .ok (.bipush 19, 2) := by decide +kernel
theorem dX12_one_38 : decode cX12_one 38 = .ok (.iconst 0, 1) := by decide +kernel
theorem dX12_one_39 : decode cX12_one 39 = .ok (.invokevirtual 365, 3) := by decide +kernel
theorem dX12_one_42 : decode cX12_one 42 = .ok (.iconst 1, 1) := by decide +kernel
theorem dX12_one_43 : decode cX12_one 43 = .ok (.ireturn, 1) := by decide +kernel
theorem dX12_one_44 : decode cX12_one 44 = .ok (.aload_n 0, 1) := by decide +kernel
theorem dX12_one_45 : decode cX12_one 45 = .ok (.getfield 328, 3) := by decide +kernel
theorem dX12_one_48 : decode cX12_one 48 = .ok (.bipush 40, 2) := by decide +kernel
theorem dX12_one_50 : decode cX12_one 50 = .ok (.if_icmp .ne 40, 3) := by decide +kernel
theorem dX12_one_53 : decode cX12_one 53 = .ok (.aload_n 0, 1) := by decide +kernel
theorem dX12_one_54 : decode cX12_one 54 = .ok (.invokevirtual 378, 3) := by decide +kernel
theorem dX12_one_57 : decode cX12_one 57 = .ok (.ifCond .eq 19, 3) := by decide +kernel
theorem dX12_one_60 : decode cX12_one 60 = .ok (.aload_n 0, 1) := by decide +kernel
theorem dX12_one_61 : decode cX12_one 61 = .ok (.invokevirtual 381, 3) := by decide +kernel
theorem dX12_one_64 : decode cX12_one 64 = .ok (.ifCond .eq 12, 3) := by decide +kernel
theorem dX12_one_67 : decode cX12_one 67 = .ok (.aload_n 0, 1) := by decide +kernel
theorem dX12_one_68 : decode cX12_one 68 = .ok (.bipush 41, 2) := by decide +kernel
theorem dX12_one_70 : decode cX12_one 70 = .ok (.invokevirtual 384, 3) := by decide +kernel
theorem dX12_one_73 : decode cX12_one 73 = .ok (.ifCond .ne 5, 3) := by decide +kernel
theorem dX12_one_76 : decode cX12_one 76 = .ok (.iconst 0, 1) := by decide +kernel
theorem dX12_one_77 : decode cX12_one 77 = .ok (.ireturn, 1) := by decide +kernel
theorem dX12_one_78 : decode cX12_one 78 = .ok (.aload_n 0, 1) := by decide +kernel
theorem dX12_one_79 : decode cX12_one 79 = .ok (.dup, 1) := by decide +kernel
theorem dX12_one_80 : decode cX12_one 80 = .ok (.getfield 358, 3) := by decide +kernel
theorem dX12_one_83 : decode cX12_one 83 = .ok (.iconst 1, 1) := by decide +kernel
theorem dX12_one_84 : decode cX12_one 84 = .ok (.isub, 1) := by decide +kernel
theorem dX12_one_85 : decode cX12_one 85 = .ok (.putfield 358, 3) := by decide +kernel
theorem dX12_one_88 : decode cX12_one 88 = .ok (.iconst 1, 1) := by decide +kernel
theorem dX12_one_89 : decode cX12_one 89 = .ok (.ireturn, 1) := by decide +kernel
theorem dX12_one_90 : decode cX12_one 90 = .ok (.aload_n 0, 1) := by decide +kernel
theorem dX12_one_91 : decode cX12_one 91 = .ok (.invokevirtual 387, 3) := by decide +kernel
theorem dX12_one_94 : decode cX12_one 94 = .ok (.ifCond .ne 5, 3) := by decide +kernel
theorem dX12_one_97 : decode cX12_one 97 = .ok (.iconst 0, 1) := by decide +kernel
theorem dX12_one_98 : decode cX12_one 98 = .ok (.ireturn, 1) := by decide +kernel
theorem dX12_one_99 : decode cX12_one 99 = .ok (.aload_n 0, 1) := by decide +kernel
theorem dX12_one_100 : decode cX12_one 100 = .ok (.getfield 328, 3) := by decide +kernel
theorem dX12_one_103 : decode cX12_one 103 = .ok (.bipush 60, 2) := by decide +kernel
theorem dX12_one_105 : decode cX12_one 105 = .ok (.if_icmp .ne 8, 3) := by decide +kernel
theorem dX12_one_108 : decode cX12_one 108 = .ok (.bipush 16, 2) := by decide +kernel
theorem dX12_one_110 : decode cX12_one 110 = .ok (.goto 32, 3) := by decide +kernel
theorem dX12_one_113 : decode cX12_one 113 = .ok (.aload_n 0, 1) := by decide +kernel
theorem dX12_one_114 : decode cX12_one 114 = .ok (.getfield 328, 3) := by decide +kernel
theorem dX12_one_117 : decode cX12_one 117 = .ok (.bipush 61, 2) := by decide +kernel
theorem dX12_one_119 : decode cX12_one 119 = .ok (.if_icmp .ne 8, 3) := by decide +kernel
theorem dX12_one_122 : decode cX12_one 122 = .ok (.bipush 17, 2) := by decide +kernel
theorem dX12_one_124 : decode cX12_one 124 = .ok (.goto 18, 3) := by decide +kernel
theorem dX12_one_127 : decode cX12_one 127 = .ok (.aload_n 0, 1) := by decide +kernel
theorem dX12_one_128 : decode cX12_one 128 = .ok (.getfield 328, 3) := by decide +kernel
theorem dX12_one_131 : decode cX12_one 131 = .ok (.bipush 62, 2) := by decide +kernel
theorem dX12_one_133 : decode cX12_one 133 = .ok (.if_icmp .ne 8, 3) := by decide +kernel
theorem dX12_one_136 : decode cX12_one 136 = .ok (.bipush 18, 2) := by decide +kernel
theorem dX12_one_138 : decode cX12_one 138 = .ok (.goto 4, 3) := by decide +kernel
theorem dX12_one_141 : decode cX12_one 141 = .ok (.iconst (-1), 1) := by decide +kernel
theorem dX12_one_142 : decode cX12_one 142 = .ok (.istore_n 1, 1) := by decide +kernel
theorem dX12_one_143 : decode cX12_one 143 = .ok (.iload_n 1, 1) := by decide +kernel
theorem dX12_one_144 : decode cX12_one 144 = .ok (.iconst (-1), 1) := by decide +kernel
theorem dX12_one_145 : decode cX12_one 145 = .ok (.if_icmp .ne 9, 3) := by decide +kernel
theorem dX12_one_148 : decode cX12_one 148 = .ok (.aload_n 0, 1) := by decide +kernel
theorem dX12_one_149 : decode cX12_one 149 = .ok (.iconst 1, 1) := by decide +kernel
theorem dX12_one_150 : decode cX12_one 150 = .ok (.invokevirtual 349, 3) := by decide +kernel
theorem dX12_one_153 : decode cX12_one 153 = .ok (.ireturn, 1) := by decide +kernel
theorem dX12_one_154 : decode cX12_one 154 = .ok (.aload_n 0, 1) := by decide +kernel
theorem dX12_one_155 : decode cX12_one 155 = .ok (.invokevirtual 352, 3) := by decide +kernel
theorem dX12_one_158 : decode cX12_one 158 = .ok (.aload_n 0, 1) := by decide +kernel
theorem dX12_one_159 : decode cX12_one 159 = .ok (.invokevirtual 387, 3) := by decide +kernel
theorem dX12_one_162 : decode cX12_one 162 = .ok (.ifCond .ne 5, 3) := by decide +kernel
theorem dX12_one_165 : decode cX12_one 165 = .ok (.iconst 0, 1) := by decide +kernel
theorem dX12_one_166 : decode cX12_one 166 = .ok (.ireturn, 1) := by decide +kernel
theorem dX12_one_167 : decode cX12_one 167 = .ok (.aload_n 0, 1) := by decide +kernel
theorem dX12_one_168 : decode cX12_one 168 = .ok (.iload_n 1, 1) := by decide +kernel
theorem dX12_one_169 : decode cX12_one 169 = .ok (.iconst 0, 1) := by decide +kernel
theorem dX12_one_170 : decode cX12_one 170 = .ok (.invokevirtual 365, 3) := by decide +kernel
theorem dX12_one_173 : decode cX12_one 173 = .ok (.iconst 1, 1) := by decide +kernel
theorem dX12_one_174 : decode cX12_one 174 = .ok (.ireturn, 1) := by decide +kernel
theorem dX12_aLine_0 : decode cX12_aLine 0 = .ok (.aload_n 0, 1) := by decide +kernel
theorem dX12_aLine_1 : decode cX12_aLine 1 = .ok (.getfield 328, 3) := by decide +kernel
theorem dX12_aLine_4 : decode cX12_aLine 4 = .ok (.sipush 301, 3) := by decide +kernel
theorem dX12_aLine_7 : decode cX12_aLine 7 = .ok (.sipush 303, 3) := by decide +kernel
theorem dX12_aLine_10 : decode cX12_aLine 10 = .ok (.invokestatic 223, 3) := by decide +kernel
theorem dX12_aLine_13 : decode cX12_aLine 13 = .ok (.ifCond .ne 9, 3) := by decide +kernel
theorem dX12_aLine_16 : decode cX12_aLine 16 = .ok (.aload_n 0, 1) := by decide +kernel
theorem dX12_aLine_17 : decode cX12_aLine 17 = .ok (.iconst 1, 1) := by decide +kernel
theorem dX12_aLine_18 : decode cX12_aLine 18 = .ok (.invokevirtual 349, 3) := by decide +kernel
theorem dX12_aLine_21 : decode cX12_aLine 21 = .ok (.ireturn, 1) := by decide +kernel
theorem dX12_aLine_22 : decode cX12_aLine 22 = .ok (.aload_n 0, 1) := by decide +kernel
theorem dX12_aLine_23 : decode cX12_aLine 23 = .ok (.getfield 390, 3) := by decide +kernel
theorem dX12_aLine_26 : decode cX12_aLine 26 = .ok (.bipush 20, 2) := by decide +kernel
theorem dX12_aLine_28 : decode cX12_aLine 28 = .ok (.if_icmp .ne 9, 3) := by decide +kernel
theorem dX12_aLine_31 : decode cX12_aLine 31 = .ok (.aload_n 0, 1) := by decide +kernel
theorem dX12_aLine_32 : decode cX12_aLine 32 = .ok (.iconst 3, 1) := by decide +kernel
theorem dX12_aLine_33 : decode cX12_aLine 33 = .ok (.invokevirtual 349, 3) := by decide +kernel
theorem dX12_aLine_36 : decode cX12_aLine 36 = .ok (.ireturn, 1) := by decide +kernel
theorem dX12_aLine_37 : decode cX12_aLine 37 = .ok (.aload_n 0, 1) := by decide +kernel
theorem dX12_aLine_38 : decode cX12_aLine 38 = .ok (.getfield 390, 3) := by decide +kernel
theorem dX12_aLine_41 : decode cX12_aLine 41 = .ok (.istore_n 1, 1) := by decide +kernel
theorem dX12_aLine_42 : decode cX12_aLine 42 = .ok (.aload_n 0, 1) := by decide +kernel
theorem dX12_aLine_43 : decode cX12_aLine 43 = .ok (.getfield 107, 3) := by decide +kernel
theorem dX12_aLine_46 : decode cX12_aLine 46 = .ok (.iload_n 1, 1) := by decide +kernel
theorem dX12_aLine_47 : decode cX12_aLine 47 = .ok (.aload_n 0, 1) := by decide +kernel
theorem dX12_aLine_48 : decode cX12_aLine 48 = .ok (.getfield 328, 3) := by decide +kernel
theorem dX12_aLine_51 : decode cX12_aLine 51 = .ok (.sipush 301, 3) := by decide +kernel
theorem dX12_aLine_54 : decode cX12_aLine 54 = .ok (.isub, 1) := by decide +kernel
theorem dX12_aLine_55 : decode cX12_aLine 55 = .ok (.iastore, 1) := by decide +kernel
theorem dX12_aLine_56 : decode cX12_aLine 56 = .ok (.aload_n 0, 1) := by decide +kernel
theorem dX12_aLine_57 : decode cX12_aLine 57 = .ok (.getfield 110, 3) := by decide +kernel
theorem dX12_aLine_60 : decode cX12_aLine 60 = .ok (.iload_n 1, 1) := by decide +kernel
theorem dX12_aLine_61 : decode cX12_aLine 61 = .ok (.aload_n 0, 1) := by decide +kernel
theorem dX12_aLine_62 : decode cX12_aLine 62 = .ok (.getfield 355, 3) := by decide +kernel
theorem dX12_aLine_65 : decode cX12_aLine 65 = .ok (.iastore, 1) := by decide +kernel
theorem dX12_aLine_66 : decode cX12_aLine 66 = .ok (.aload_n 0, 1) := by decide +kernel
theorem dX12_aLine_67 : decode cX12_aLine 67 = .ok (.iconst 0, 1) := by decide +kernel
theorem dX12_aLine_68 : decode cX12_aLine 68 = .ok (.putfield 358, 3) := by decide +kernel
theorem dX12_aLine_71 : decode cX12_aLine 71 = .ok (.aload_n 0, 1) := by decide +kernel
theorem dX12_aLine_72 : decode cX12_aLine 72 = .ok (.invokevirtual 352, 3) := by decide +kernel
theorem dX12_aLine_75 : decode cX12_aLine 75 = .ok (.aload_n 0, 1) := by decide +kernel
theorem dX12_aLine_76 : decode cX12_aLine 76 = .ok (.getfield 107, 3) := by decide +kernel
theorem dX12_aLine_79 : decode cX12_aLine 79 = .ok (.iload_n 1, 1) := by decide +kernel
theorem dX12_aLine_80 : decode cX12_aLine 80 = .ok (.iaload, 1) := by decide +kernel
theorem dX12_aLine_81 : decode cX12_aLine 81 = .ok (.ifCond .le 12, 3) := by decide +kernel
theorem dX12_aLine_84 : decode cX12_aLine 84 = .ok (.aload_n 0, 1) := by decide +kernel
theorem dX12_aLine_85 : decode cX12_aLine 85 = .ok (.invokevirtual 387, 3) := by decide +kernel
theorem dX12_aLine_88 : decode cX12_aLine 88 = .ok (.ifCond .ne 5, 3) := by decide +kernel
theorem dX12_aLine_91 : decode cX12_aLine 91 = .ok (.iconst 0, 1) := by decide +kernel
theorem dX12_aLine_92 : decode cX12_aLine 92 = .ok (.ireturn, 1) := by decide +kernel
theorem dX12_aLine_93 : decode cX12_aLine 93 = .ok (.aload_n 0, 1) := by decide +kernel
theorem dX12_aLine_94 : decode cX12_aLine 94 = .ok (.getfield 113, 3) := by decide +kernel
theorem dX12_aLine_97 : decode cX12_aLine 97 = .ok (.iload_n 1, 1) := by decide +kernel
theorem dX12_aLine_98 : decode cX12_aLine 98 = .ok (.aload_n 0, 1) := by decide +kernel
theorem dX12_aLine_99 : decode cX12_aLine 99 = .ok (.getfield 355, 3) := by decide +kernel
theorem dX12_aLine_102 : decode cX12_aLine 102 = .ok (.iastore, 1) := by decide +kernel
theorem dX12_aLine_103 : decode cX12_aLine 103 = .ok (.aload_n 0, 1) := by decide +kernel
theorem dX12_aLine_104 : decode cX12_aLine 104 = .ok (.getfield 107, 3) := by decide +kernel
theorem dX12_aLine_107 : decode cX12_aLine 107 = .ok (.iload_n 1, 1) := by decide +kernel
theorem dX12_aLine_108 : decode cX12_aLine 108 = .ok (.iaload, 1) := by decide +kernel
theorem dX12_aLine_109 : decode cX12_aLine 109 = .ok (.ifCond .ne 12, 3) := by decide +kernel
theorem dX12_aLine_112 : decode cX12_aLine 112 = .ok (.aload_n 0, 1) := by decide +kernel
theorem dX12_aLine_113 : decode cX12_aLine 113 = .ok (.invokevirtual 381, 3) := by decide +kernel
theorem dX12_aLine_116 : decode cX12_aLine 116 = .ok (.ifCond .ne 26, 3) := by decide +kernel
theorem dX12_aLine_119 : decode cX12_aLine 119 = .ok (.iconst 0, 1) := by decide +kernel
theorem dX12_aLine_120 : decode cX12_aLine 120 = .ok (.ireturn, 1) := by decide +kernel
theorem dX12_aLine_121 : decode cX12_aLine 121 = .ok (.aload_n 0, 1) := by decide +kernel
theorem dX12_aLine_122 : decode cX12_aLine 122 = .ok (.getfield 328, 3) := by decide +kernel
theorem dX12_aLine_125 : decode cX12_aLine 125 = .ok (.iconst 3, 1) := by decide +kernel
theorem dX12_aLine_126 : decode cX12_aLine 126 = .ok (.if_icmp .ne 16, 3) := by decide +kernel
theorem dX12_aLine_129 : decode cX12_aLine 129 = .ok (.aload_n 0, 1) := by decide +kernel
theorem dX12_aLine_130 : decode cX12_aLine 130 = .ok (.invokevirtual 352, 3) := by decide +kernel
theorem dX12_aLine_133 : decode cX12_aLine 133 = .ok (.aload_n 0, 1) := by decide +kernel
theorem dX12_aLine_134 : decode cX12_aLine 134 = .ok (.invokevirtual 381, 3) := by decide +kernel
theorem dX12_aLine_137 : decode cX12_aLine 137 = .ok (.ifCond .ne 5, 3) := by decide +kernel
theorem dX12_aLine_140 : decode cX12_aLine 140 = .ok (.iconst 0, 1) := by decide +kernel
theorem dX12_aLine_141 : decode cX12_aLine 141 = .ok (.ireturn, 1) := by decide +kernel
theorem dX12_aLine_142 : decode cX12_aLine 142 = .ok (.aload_n 0, 1) := by decide +kernel
theorem dX12_aLine_143 : decode cX12_aLine 143 = .ok (.dup, 1) := by decide +kernel
theorem dX12_aLine_144 : decode cX12_aLine 144 = .ok (.getfield 390, 3) := by decide +kernel
theorem dX12_aLine_147 : decode cX12_aLine 147 = .ok (.iconst 1, 1) := by decide +kernel
theorem dX12_aLine_148 : decode cX12_aLine 148 = .ok (.iadd, 1) := by decide +kernel
theorem dX12_aLine_149 : decode cX12_aLine 149 = .ok (.putfield 390, 3) := by decide +kernel
theorem dX12_aLine_152 : decode cX12_aLine 152 = .ok (.aload_n 0, 1) := by decide +kernel
theorem dX12_aLine_153 : decode cX12_aLine 153 = .ok (.bipush 59, 2) := by decide +kernel
theorem dX12_aLine_155 : decode cX12_aLine 155 = .ok (.invokevirtual 384, 3) := by decide +kernel
theorem dX12_aLine_158 : decode cX12_aLine 158 = .ok (.ireturn, 1) := by decide +kernel
theorem dX12_rules_0 : decode cX12_rules 0 = .ok (.aload_n 0, 1) := by decide +kernel
theorem dX12_rules_1 : decode cX12_rules 1 = .ok (.iconst 0, 1) := by decide +kernel
theorem dX12_rules_2 : decode cX12_rules 2 = .ok (.putfield 393, 3) := by decide +kernel
theorem dX12_rules_5 : decode cX12_rules 5 = .ok (.aload_n 0, 1) := by decide +kernel
theorem dX12_rules_6 : decode cX12_rules 6 = .ok (.iconst (-1), 1) := by decide +kernel
theorem dX12_rules_7 : decode cX12_rules 7 = .ok (.putfield 125, 3) := by decide +kernel
theorem dX12_rules_10 : decode cX12_rules 10 = .ok (.iload_n 1, 1) := by decide +kernel
theorem dX12_rules_11 : decode cX12_rules 11 = .ok (.iconst 0, 1) := by decide +kernel
theorem dX12_rules_12 : decode cX12_rules 12 = .ok (.iconst 2, 1) := by decide +kernel
theorem dX12_rules_13 : decode cX12_rules 13 = .ok (.invokestatic 223, 3) := by decide +kernel
theorem dX12_rules_16 : decode cX12_rules 16 = .ok (.ifCond .ne 10, 3) := by decide +kernel
theorem dX12_rules_19 : decode cX12_rules 19 = .ok (.aload_n 0, 1) := by decide +kernel
theorem dX12_rules_20 : decode cX12_rules 20 = .ok (.iconst 0, 1) := by decide +kernel
theorem dX12_rules_21 : decode cX12_rules 21 = .ok (.putfield 277, 3) := by decide +kernel
theorem dX12_rules_24 : decode cX12_rules 24 = .ok (.iconst (-1), 1) := by decide +kernel
theorem dX12_rules_25 : decode cX12_rules 25 = .ok (.ireturn, 1) := by decide +kernel
theorem dX12_rules_26 : decode cX12_rules 26 = .ok (.aload_n 0, 1) := by decide +kernel
theorem dX12_rules_27 : decode cX12_rules 27 = .ok (.iconst 0, 1) := by decide +kernel
theorem dX12_rules_28 : decode cX12_rules 28 = .ok (.putfield 343, 3) := by decide +kernel
theorem dX12_rules_31 : decode cX12_rules 31 = .ok (.aload_n 0, 1) := by decide +kernel
theorem dX12_rules_32 : decode cX12_rules 32 = .ok (.iconst 0, 1) := by decide +kernel
theorem dX12_rules_33 : decode cX12_rules 33 = .ok (.putfield 280, 3) := by decide +kernel
theorem dX12_rules_36 : decode cX12_rules 36 = .ok (.aload_n 0, 1) := by decide +kernel
theorem dX12_rules_37 : decode cX12_rules 37 = .ok (.iconst 0, 1) := by decide +kernel
theorem dX12_rules_38 : decode cX12_rules 38 = .ok (.putfield 390, 3) := by decide +kernel
theorem dX12_rules_41 : decode cX12_rules 41 = .ok (.aload_n 0, 1) := by decide +kernel
theorem dX12_rules_42 : decode cX12_rules 42 = .ok (.iconst 0, 1) := by decide +kernel
theorem dX12_rules_43 : decode cX12_rules 43 = .ok (.putfield 355, 3) := by decide +kernel
theorem dX12_rules_46 : decode cX12_rules 46 = .ok (.aload_n 0, 1) := by decide +kernel
theorem dX12_rules_47 : decode cX12_rules 47 = .ok (.invokevirtual 352, 3) := by decide +kernel
theorem dX12_rules_50 : decode cX12_rules 50 = .ok (.iconst 1, 1) := by decide +kernel
theorem dX12_rules_51 : decode cX12_rules 51 = .ok (.istore_n 2, 1) := by decide +kernel
theorem dX12_rules_52 : decode cX12_rules 52 = .ok (.iload_n 2, 1) := by decide +kernel
theorem dX12_rules_53 : decode cX12_rules 53 = .ok (.ifCond .eq 18, 3) := by decide +kernel
theorem dX12_rules_56 : decode cX12_rules 56 = .ok (.aload_n 0, 1) := by decide +kernel
theorem dX12_rules_57 : decode cX12_rules 57 = .ok (.getfield 328, 3) := by decide +kernel
theorem dX12_rules_60 : decode cX12_rules 60 = .ok (.ifCond .eq 11, 3) := by decide +kernel
theorem dX12_rules_63 : decode cX12_rules 63 = .ok (.aload_n 0, 1) := by decide +kernel
theorem dX12_rules_64 : decode cX12_rules 64 = .ok (.invokevirtual 396, 3) := by decide +kernel
theorem dX12_rules_67 : decode cX12_rules 67 = .ok (.istore_n 2, 1) := by decide +kernel
theorem dX12_rules_68 : decode cX12_rules 68 = .ok (.goto (-16), 3) := by decide +kernel
theorem dX12_rules_71 : decode cX12_rules 71 = .ok (.aload_n 0, 1) := by decide +kernel
theorem dX12_rules_72 : decode cX12_rules 72 = .ok (.iconst 0, 1) := by decide +kernel
theorem dX12_rules_73 : decode cX12_rules 73 = .ok (.putfield 277, 3) := by decide +kernel
theorem dX12_rules_76 : decode cX12_rules 76 = .ok (.aload_n 0, 1) := by decide +kernel
theorem dX12_rules_77 : decode cX12_rules 77 = .ok (.aload_n 0, 1) := by decide +kernel
theorem dX12_rules_78 : decode cX12_rules 78 = .ok (.getfield 343, 3) := by decide +kernel
theorem dX12_rules_81 : decode cX12_rules 81 = .ok (.putfield 393, 3) := by decide +kernel
theorem dX12_rules_84 : decode cX12_rules 84 = .ok (.aload_n 0, 1) := by decide +kernel
theorem dX12_rules_85 : decode cX12_rules 85 = .ok (.iload_n 2, 1) := by decide +kernel
theorem dX12_rules_86 : decode cX12_rules 86 = .ok (.ifCond .eq 7, 3) := by decide +kernel
theorem dX12_rules_89 : decode cX12_rules 89 = .ok (.iconst (-1), 1) := by decide +kernel
theorem dX12_rules_90 : decode cX12_rules 90 = .ok (.goto 7, 3) := by decide +kernel
theorem dX12_rules_93 : decode cX12_rules 93 = .ok (.aload_n 0, 1) := by decide +kernel
theorem dX12_rules_94 : decode cX12_rules 94 = .ok (.getfield 346, 3) := by decide +kernel
theorem dX12_rules_97 : decode cX12_rules 97 = .ok (.putfield 125, 3) := by decide +kernel
theorem dX12_rules_100 : decode cX12_rules 100 = .ok (.iload_n 2, 1) := by decide +kernel
theorem dX12_rules_101 : decode cX12_rules 101 = .ok (.ifCond .ne 5, 3) := by decide +kernel
theorem dX12_rules_104 : decode cX12_rules 104 = .ok (.iconst (-1), 1) := by decide +kernel
theorem dX12_rules_105 : decode cX12_rules 105 = .ok (.ireturn, 1) := by decide +kernel
theorem dX12_rules_106 : decode cX12_rules 106 = .ok (.aload_n 0, 1) := by decide +kernel
theorem dX12_rules_107 : decode cX12_rules 107 = .ok (.getfield 92, 3) := by decide +kernel
theorem dX12_rules_110 : decode cX12_rules 110 = .ok (.iload_n 1, 1) := by decide +kernel
theorem dX12_rules_111 : decode cX12_rules 111 = .ok (.aload_n 0, 1) := by decide +kernel
theorem dX12_rules_112 : decode cX12_rules 112 = .ok (.getfield 390, 3) := by decide +kernel
theorem dX12_rules_115 : decode cX12_rules 115 = .ok (.iastore, 1) := by decide +kernel
theorem dX12_rules_116 : decode cX12_rules 116 = .ok (.iconst 0, 1) := by decide +kernel
theorem dX12_rules_117 : decode cX12_rules 117 = .ok (.istore_n 3, 1) := by decide +kernel
theorem dX12_rules_118 : decode cX12_rules 118 = .ok (.iload_n 3, 1) := by decide +kernel
theorem dX12_rules_119 : decode cX12_rules 119 = .ok (.aload_n 0, 1) := by decide +kernel
theorem dX12_rules_120 : decode cX12_rules 120 = .ok (.getfield 390, 3) := by decide +kernel
theorem dX12_rules_123 : decode cX12_rules 123 = .ok (.if_icmp .ge 60, 3) := by decide +kernel
theorem dX12_rules_126 : decode cX12_rules 126 = .ok (.aload_n 0, 1) := by decide +kernel
theorem dX12_rules_127 : decode cX12_rules 127 = .ok (.getfield 95, 3) := by decide +kernel
theorem dX12_rules_130 : decode cX12_rules 130 = .ok (.bipush 20, 2) := by decide +kernel
theorem dX12_rules_132 : decode cX12_rules 132 = .ok (.iload_n 1, 1) := by decide +kernel
theorem dX12_rules_133 : decode cX12_rules 133 = .ok (.imul, 1) := by decide +kernel
theorem dX12_rules_134 : decode cX12_rules 134 = .ok (.iload_n 3, 1) := by decide +kernel
theorem dX12_rules_135 : decode cX12_rules 135 = .ok (.iadd, 1) := by decide +kernel
theorem dX12_rules_136 : decode cX12_rules 136 = .ok (.aload_n 0, 1) := by decide +kernel
theorem dX12_rules_137 : decode cX12_rules 137 = .ok (.getfield 107, 3) := by decide +kernel
theorem dX12_rules_140 : decode cX12_rules 140 = .ok (.iload_n 3, 1) := by decide +kernel
theorem dX12_rules_141 : decode cX12_rules 141 = .ok (.iaload, 1) := by decide +kernel
theorem dX12_rules_142 : decode cX12_rules 142 = .ok (.iastore, 1) := by decide +kernel
theorem dX12_rules_143 : decode cX12_rules 143 = .ok (.aload_n 0, 1) := by decide +kernel
theorem dX12_rules_144 : decode cX12_rules 144 = .ok (.getfield 98, 3) := by decide +kernel
theorem dX12_rules_147 : decode cX12_rules 147 = .ok (.bipush 21, 2) := by decide +kernel
theorem dX12_rules_149 : decode cX12_rules 149 = .ok (.iload_n 1, 1) := by decide +kernel
theorem dX12_rules_150 : decode cX12_rules 150 = .ok (.imul, 1) := by decide +kernel
theorem dX12_rules_151 : decode cX12_rules 151 = .ok (.iload_n 3, 1) := by decide +kernel
theorem dX12_rules_152 : decode cX12_rules 152 = .ok (.iadd, 1) := by decide +kernel
theorem dX12_rules_153 : decode cX12_rules 153 = .ok (.aload_n 0, 1) := by decide +kernel
theorem dX12_rules_154 : decode cX12_rules 154 = .ok (.getfield 110, 3) := by decide +kernel
theorem dX12_rules_157 : decode cX12_rules 157 = .ok (.iload_n 3, 1) := by decide +kernel
theorem dX12_rules_158 : decode cX12_rules 158 = .ok (.iaload, 1) := by decide +kernel
theorem dX12_rules_159 : decode cX12_rules 159 = .ok (.iastore, 1) := by decide +kernel
theorem dX12_rules_160 : decode cX12_rules 160 = .ok (.aload_n 0, 1) := by decide +kernel
theorem dX12_rules_161 : decode cX12_rules 161 = .ok (.getfield 101, 3) := by decide +kernel
theorem dX12_rules_164 : decode cX12_rules 164 = .ok (.bipush 20, 2) := by decide +kernel
theorem dX12_rules_166 : decode cX12_rules 166 = .ok (.iload_n 1, 1) := by decide +kernel
theorem dX12_rules_167 : decode cX12_rules 167 = .ok (.imul, 1) := by decide +kernel
theorem dX12_rules_168 : decode cX12_rules 168 = .ok (.iload_n 3, 1) := by decide +kernel
theorem dX12_rules_169 : decode cX12_rules 169 = .ok (.iadd, 1) := by decide +kernel
theorem dX12_rules_170 : decode cX12_rules 170 = .ok (.aload_n 0, 1) := by decide +kernel
theorem dX12_rules_171 : decode cX12_rules 171 = .ok (.getfield 113, 3) := by decide +kernel
theorem dX12_rules_174 : decode cX12_rules 174 = .ok (.iload_n 3, 1) := by decide +kernel
theorem dX12_rules_175 : decode cX12_rules 175 = .ok (.iaload, 1) := by decide +kernel
theorem dX12_rules_176 : decode cX12_rules 176 = .ok (.iastore, 1) := by decide +kernel
theorem dX12_rules_177 : decode cX12_rules 177 = .ok (.iinc 3 1, 3) := by decide +kernel
theorem dX12_rules_180 : decode cX12_rules 180 = .ok (.goto (-62), 3) := by decide +kernel
theorem dX12_rules_183 : decode cX12_rules 183 = .ok (.aload_n 0, 1) := by decide +kernel
theorem dX12_rules_184 : decode cX12_rules 184 = .ok (.getfield 98, 3) := by decide +kernel
theorem dX12_rules_187 : decode cX12_rules 187 = .ok (.bipush 21, 2) := by decide +kernel
theorem dX12_rules_189 : decode cX12_rules 189 = .ok (.iload_n 1, 1) := by decide +kernel
theorem dX12_rules_190 : decode cX12_rules 190 = .ok (.imul, 1) := by decide +kernel
theorem dX12_rules_191 : decode cX12_rules 191 = .ok (.aload_n 0, 1) := by decide +kernel
theorem dX12_rules_192 : decode cX12_rules 192 = .ok (.getfield 390, 3) := by decide +kernel
theorem dX12_rules_195 : decode cX12_rules 195 = .ok (.iadd, 1) := by decide +kernel
theorem dX12_rules_196 : decode cX12_rules 196 = .ok (.aload_n 0, 1) := by decide +kernel
theorem dX12_rules_197 : decode cX12_rules 197 = .ok (.getfield 355, 3) := by decide +kernel
theorem dX12_rules_200 : decode cX12_rules 200 = .ok (.iastore, 1) := by decide +kernel
theorem dX12_rules_201 : decode cX12_rules 201 = .ok (.iconst 0, 1) := by decide +kernel
theorem dX12_rules_202 : decode cX12_rules 202 = .ok (.istore_n 3, 1) := by decide +kernel
theorem dX12_rules_203 : decode cX12_rules 203 = .ok (.iload_n 3, 1) := by decide +kernel
theorem dX12_rules_204 : decode cX12_rules 204 = .ok (.iconst 2, 1) := by decide +kernel
theorem dX12_rules_205 : decode cX12_rules 205 = .ok (.aload_n 0, 1) := by decide +kernel
theorem dX12_rules_206 : decode cX12_rules 206 = .ok (.getfield 355, 3) := by decide +kernel
theorem dX12_rules_209 : decode cX12_rules 209 = .ok (.imul, 1) := by decide +kernel
theorem dX12_rules_210 : decode cX12_rules 210 = .ok (.if_icmp .ge 27, 3) := by decide +kernel
theorem dX12_rules_213 : decode cX12_rules 213 = .ok (.aload_n 0, 1) := by decide +kernel
theorem dX12_rules_214 : decode cX12_rules 214 = .ok (.getfield 104, 3) := by decide +kernel
theorem dX12_rules_217 : decode cX12_rules 217 = .ok (.sipush 1220, 3) := by decide +kernel
theorem dX12_rules_220 : decode cX12_rules 220 = .ok (.iload_n 1, 1) := by decide +kernel
theorem dX12_rules_221 : decode cX12_rules 221 = .ok (.imul, 1) := by decide +kernel
theorem dX12_rules_222 : decode cX12_rules 222 = .ok (.iload_n 3, 1) := by decide +kernel
theorem dX12_rules_223 : decode cX12_rules 223 = .ok (.iadd, 1) := by decide +kernel
theorem dX12_rules_224 : decode cX12_rules 224 = .ok (.aload_n 0, 1) := by decide +kernel
theorem dX12_rules_225 : decode cX12_rules 225 = .ok (.getfield 116, 3) := by decide +kernel
theorem dX12_rules_228 : decode cX12_rules 228 = .ok (.iload_n 3, 1) := by decide +kernel
theorem dX12_rules_229 : decode cX12_rules 229 = .ok (.iaload, 1) := by decide +kernel
theorem dX12_rules_230 : decode cX12_rules 230 = .ok (.iastore, 1) := by decide +kernel
theorem dX12_rules_231 : decode cX12_rules 231 = .ok (.iinc 3 1, 3) := by decide +kernel
theorem dX12_rules_234 : decode cX12_rules 234 = .ok (.goto (-31), 3) := by decide +kernel
theorem dX12_rules_237 : decode cX12_rules 237 = .ok (.aload_n 0, 1) := by decide +kernel
theorem dX12_rules_238 : decode cX12_rules 238 = .ok (.getfield 390, 3) := by decide +kernel
theorem dX12_rules_241 : decode cX12_rules 241 = .ok (.ireturn, 1) := by decide +kernel
theorem dX12_fault_0 : decode cX12_fault 0 = .ok (.iload_n 1, 1) := by decide +kernel
theorem dX12_fault_1 : decode cX12_fault 1 = .ok (.ifCond .ne 10, 3) := by decide +kernel
theorem dX12_fault_4 : decode cX12_fault 4 = .ok (.aload_n 0, 1) := by decide +kernel
theorem dX12_fault_5 : decode cX12_fault 5 = .ok (.getfield 393, 3) := by decide +kernel
theorem dX12_fault_8 : decode cX12_fault 8 = .ok (.goto 16, 3) := by decide +kernel
theorem dX12_fault_11 : decode cX12_fault 11 = .ok (.iload_n 1, 1) := by decide +kernel
theorem dX12_fault_12 : decode cX12_fault 12 = .ok (.iconst 1, 1) := by decide +kernel
theorem dX12_fault_13 : decode cX12_fault 13 = .ok (.if_icmp .ne 10, 3) := by decide +kernel
theorem dX12_fault_16 : decode cX12_fault 16 = .ok (.aload_n 0, 1) := by decide +kernel
theorem dX12_fault_17 : decode cX12_fault 17 = .ok (.getfield 125, 3) := by decide +kernel
theorem dX12_fault_20 : decode cX12_fault 20 = .ok (.goto 4, 3) := by decide +kernel
theorem dX12_fault_23 : decode cX12_fault 23 = .ok (.iconst (-1), 1) := by decide +kernel
theorem dX12_fault_24 : decode cX12_fault 24 = .ok (.ireturn, 1) := by decide +kernel
theorem dX12_both_0 : decode cX12_both 0 = .ok (.iload_n 0, 1) := by decide +kernel
theorem dX12_both_1 : decode cX12_both 1 = .ok (.tableswitch 100 12 20 #[51, 55, 59, 100, 63, 74, 85, 100, 96], 51) := by decide +kernel
theorem dX12_both_52 : decode cX12_both 52 = .ok (.iload_n 1, 1) := by decide +kernel
theorem dX12_both_53 : decode cX12_both 53 = .ok (.iload_n 2, 1) := by decide +kernel
theorem dX12_both_54 : decode cX12_both 54 = .ok (.iadd, 1) := by decide +kernel
theorem dX12_both_55 : decode cX12_both 55 = .ok (.ireturn, 1) := by decide +kernel
theorem dX12_both_56 : decode cX12_both 56 = .ok (.iload_n 1, 1) := by decide +kernel
theorem dX12_both_57 : decode cX12_both 57 = .ok (.iload_n 2, 1) := by decide +kernel
theorem dX12_both_58 : decode cX12_both 58 = .ok (.isub, 1) := by decide +kernel
theorem dX12_both_59 : decode cX12_both 59 = .ok (.ireturn, 1) := by decide +kernel
theorem dX12_both_60 : decode cX12_both 60 = .ok (.iload_n 1, 1) := by decide +kernel
theorem dX12_both_61 : decode cX12_both 61 = .ok (.iload_n 2, 1) := by decide +kernel
theorem dX12_both_62 : decode cX12_both 62 = .ok (.imul, 1) := by decide +kernel
theorem dX12_both_63 : decode cX12_both 63 = .ok (.ireturn, 1) := by decide +kernel
theorem dX12_both_64 : decode cX12_both 64 = .ok (.iload_n 1, 1) := by decide +kernel
theorem dX12_both_65 : decode cX12_both 65 = .ok (.iload_n 2, 1) := by decide +kernel
theorem dX12_both_66 : decode cX12_both 66 = .ok (.if_icmp .ge 7, 3) := by decide +kernel
theorem dX12_both_69 : decode cX12_both 69 = .ok (.iconst 1, 1) := by decide +kernel
theorem dX12_both_70 : decode cX12_both 70 = .ok (.goto 4, 3) := by decide +kernel
theorem dX12_both_73 : decode cX12_both 73 = .ok (.iconst 0, 1) := by decide +kernel
theorem dX12_both_74 : decode cX12_both 74 = .ok (.ireturn, 1) := by decide +kernel
theorem dX12_both_75 : decode cX12_both 75 = .ok (.iload_n 1, 1) := by decide +kernel
theorem dX12_both_76 : decode cX12_both 76 = .ok (.iload_n 2, 1) := by decide +kernel
theorem dX12_both_77 : decode cX12_both 77 = .ok (.if_icmp .ne 7, 3) := by decide +kernel
theorem dX12_both_80 : decode cX12_both 80 = .ok (.iconst 1, 1) := by decide +kernel
theorem dX12_both_81 : decode cX12_both 81 = .ok (.goto 4, 3) := by decide +kernel
theorem dX12_both_84 : decode cX12_both 84 = .ok (.iconst 0, 1) := by decide +kernel
theorem dX12_both_85 : decode cX12_both 85 = .ok (.ireturn, 1) := by decide +kernel
theorem dX12_both_86 : decode cX12_both 86 = .ok (.iload_n 1, 1) := by decide +kernel
theorem dX12_both_87 : decode cX12_both 87 = .ok (.iload_n 2, 1) := by decide +kernel
theorem dX12_both_88 : decode cX12_both 88 = .ok (.if_icmp .le 7, 3) := by decide +kernel
theorem dX12_both_91 : decode cX12_both 91 = .ok (.iconst 1, 1) := by decide +kernel
theorem dX12_both_92 : decode cX12_both 92 = .ok (.goto 4, 3) := by decide +kernel
theorem dX12_both_95 : decode cX12_both 95 = .ok (.iconst 0, 1) := by decide +kernel
theorem dX12_both_96 : decode cX12_both 96 = .ok (.ireturn, 1) := by decide +kernel
theorem dX12_both_97 : decode cX12_both 97 = .ok (.iload_n 1, 1) := by decide +kernel
theorem dX12_both_98 : decode cX12_both 98 = .ok (.iload_n 2, 1) := by decide +kernel
theorem dX12_both_99 : decode cX12_both 99 = .ok (.iand, 1) := by decide +kernel
theorem dX12_both_100 : decode cX12_both 100 = .ok (.ireturn, 1) := by decide +kernel
theorem dX12_both_101 : decode cX12_both 101 = .ok (.iload_n 1, 1) := by decide +kernel
theorem dX12_both_102 : decode cX12_both 102 = .ok (.iload_n 2, 1) := by decide +kernel
theorem dX12_both_103 : decode cX12_both 103 = .ok (.ior, 1) := by decide +kernel
theorem dX12_both_104 : decode cX12_both 104 = .ok (.ireturn, 1) := by decide +kernel
theorem dX12_comesTo_0 : decode cX12_comesTo 0 = .ok (.iconst 0, 1) := by decide +kernel
theorem dX12_comesTo_1 : decode cX12_comesTo 1 = .ok (.istore 4, 2) := by decide +kernel
theorem dX12_comesTo_3 : decode cX12_comesTo 3 = .ok (.iload_n 2, 1) := by decide +kernel
theorem dX12_comesTo_4 : decode cX12_comesTo 4 = .ok (.istore 5, 2) := by decide +kernel
theorem dX12_comesTo_6 : decode cX12_comesTo 6 = .ok (.iload 5, 2) := by decide +kernel
theorem dX12_comesTo_8 : decode cX12_comesTo 8 = .ok (.iload_n 3, 1) := by decide +kernel
theorem dX12_comesTo_9 : decode cX12_comesTo 9 = .ok (.if_icmp .ge 169, 3) := by decide +kernel
theorem dX12_comesTo_12 : decode cX12_comesTo 12 = .ok (.aload_n 0, 1) := by decide +kernel
theorem dX12_comesTo_13 : decode cX12_comesTo 13 = .ok (.getfield 104, 3) := by decide +kernel
theorem dX12_comesTo_16 : decode cX12_comesTo 16 = .ok (.sipush 1220, 3) := by decide +kernel
theorem dX12_comesTo_19 : decode cX12_comesTo 19 = .ok (.iload_n 1, 1) := by decide +kernel
theorem dX12_comesTo_20 : decode cX12_comesTo 20 = .ok (.imul, 1) := by decide +kernel
theorem dX12_comesTo_21 : decode cX12_comesTo 21 = .ok (.iconst 2, 1) := by decide +kernel
theorem dX12_comesTo_22 : decode cX12_comesTo 22 = .ok (.iload 5, 2) := by decide +kernel
theorem dX12_comesTo_24 : decode cX12_comesTo 24 = .ok (.imul, 1) := by decide +kernel
theorem dX12_comesTo_25 : decode cX12_comesTo 25 = .ok (.iadd, 1) := by decide +kernel
theorem dX12_comesTo_26 : decode cX12_comesTo 26 = .ok (.iaload, 1) := by decide +kernel
theorem dX12_comesTo_27 : decode cX12_comesTo 27 = .ok (.istore 6, 2) := by decide +kernel
theorem dX12_comesTo_29 : decode cX12_comesTo 29 = .ok (.aload_n 0, 1) := by decide +kernel
theorem dX12_comesTo_30 : decode cX12_comesTo 30 = .ok (.getfield 104, 3) := by decide +kernel
theorem dX12_comesTo_33 : decode cX12_comesTo 33 = .ok (.sipush 1220, 3) := by decide +kernel
theorem dX12_comesTo_36 : decode cX12_comesTo 36 = .ok (.iload_n 1, 1) := by decide +kernel
theorem dX12_comesTo_37 : decode cX12_comesTo 37 = .ok (.imul, 1) := by decide +kernel
theorem dX12_comesTo_38 : decode cX12_comesTo 38 = .ok (.iconst 2, 1) := by decide +kernel
theorem dX12_comesTo_39 : decode cX12_comesTo 39 = .ok (.iload 5, 2) := by decide +kernel
theorem dX12_comesTo_41 : decode cX12_comesTo 41 = .ok (.imul, 1) := by decide +kernel
theorem dX12_comesTo_42 : decode cX12_comesTo 42 = .ok (.iadd, 1) := by decide +kernel
theorem dX12_comesTo_43 : decode cX12_comesTo 43 = .ok (.iconst 1, 1) := by decide +kernel
theorem dX12_comesTo_44 : decode cX12_comesTo 44 = .ok (.iadd, 1) := by decide +kernel
theorem dX12_comesTo_45 : decode cX12_comesTo 45 = .ok (.iaload, 1) := by decide +kernel
theorem dX12_comesTo_46 : decode cX12_comesTo 46 = .ok (.istore 7, 2) := by decide +kernel
theorem dX12_comesTo_48 : decode cX12_comesTo 48 = .ok (.iload 6, 2) := by decide +kernel
theorem dX12_comesTo_50 : decode cX12_comesTo 50 = .ok (.bipush 12, 2) := by decide +kernel
theorem dX12_comesTo_52 : decode cX12_comesTo 52 = .ok (.if_icmp .ge 33, 3) := by decide +kernel
theorem dX12_comesTo_55 : decode cX12_comesTo 55 = .ok (.aload_n 0, 1) := by decide +kernel
theorem dX12_comesTo_56 : decode cX12_comesTo 56 = .ok (.getfield 122, 3) := by decide +kernel
theorem dX12_comesTo_59 : decode cX12_comesTo 59 = .ok (.iload 4, 2) := by decide +kernel
theorem dX12_comesTo_61 : decode cX12_comesTo 61 = .ok (.iload 6, 2) := by decide +kernel
theorem dX12_comesTo_63 : decode cX12_comesTo 63 = .ok (.ifCond .ne 8, 3) := by decide +kernel
theorem dX12_comesTo_66 : decode cX12_comesTo 66 = .ok (.iload 7, 2) := by decide +kernel
theorem dX12_comesTo_68 : decode cX12_comesTo 68 = .ok (.goto 10, 3) := by decide +kernel
theorem dX12_comesTo_71 : decode cX12_comesTo 71 = .ok (.aload_n 0, 1) := by decide +kernel
theorem dX12_comesTo_72 : decode cX12_comesTo 72 = .ok (.getfield 129, 3) := by decide +kernel
theorem dX12_comesTo_75 : decode cX12_comesTo 75 = .ok (.iload 6, 2) := by decide +kernel
theorem dX12_comesTo_77 : decode cX12_comesTo 77 = .ok (.iaload, 1) := by decide +kernel
theorem dX12_comesTo_78 : decode cX12_comesTo 78 = .ok (.iastore, 1) := by decide +kernel
theorem dX12_comesTo_79 : decode cX12_comesTo 79 = .ok (.iinc 4 1, 3) := by decide +kernel
theorem dX12_comesTo_82 : decode cX12_comesTo 82 = .ok (.goto 90, 3) := by decide +kernel
theorem dX12_comesTo_85 : decode cX12_comesTo 85 = .ok (.iload 6, 2) := by decide +kernel
theorem dX12_comesTo_87 : decode cX12_comesTo 87 = .ok (.bipush 15, 2) := by decide +kernel
theorem dX12_comesTo_89 : decode cX12_comesTo 89 = .ok (.if_icmp .ne 20, 3) := by decide +kernel
theorem dX12_comesTo_92 : decode cX12_comesTo 92 = .ok (.aload_n 0, 1) := by decide +kernel
theorem dX12_comesTo_93 : decode cX12_comesTo 93 = .ok (.getfield 122, 3) := by decide +kernel
theorem dX12_comesTo_96 : decode cX12_comesTo 96 = .ok (.iload 4, 2) := by decide +kernel
theorem dX12_comesTo_98 : decode cX12_comesTo 98 = .ok (.iconst 1, 1) := by decide +kernel
theorem dX12_comesTo_99 : decode cX12_comesTo 99 = .ok (.isub, 1) := by decide +kernel
theorem dX12_comesTo_100 : decode cX12_comesTo 100 = .ok (.dup2, 1) := by decide +kernel
theorem dX12_comesTo_101 : decode cX12_comesTo 101 = .ok (.iaload, 1) := by decide +kernel
theorem dX12_comesTo_102 : decode cX12_comesTo 102 = .ok (.iload 7, 2) := by decide +kernel
theorem dX12_comesTo_104 : decode cX12_comesTo 104 = .ok (.idiv, 1) := by decide +kernel
theorem dX12_comesTo_105 : decode cX12_comesTo 105 = .ok (.iastore, 1) := by decide +kernel
theorem dX12_comesTo_106 : decode cX12_comesTo 106 = .ok (.goto 66, 3) := by decide +kernel
theorem dX12_comesTo_109 : decode cX12_comesTo 109 = .ok (.iload 6, 2) := by decide +kernel
theorem dX12_comesTo_111 : decode cX12_comesTo 111 = .ok (.bipush 19, 2) := by decide +kernel
theorem dX12_comesTo_113 : decode cX12_comesTo 113 = .ok (.if_icmp .ne 26, 3) := by decide +kernel
theorem dX12_comesTo_116 : decode cX12_comesTo 116 = .ok (.aload_n 0, 1) := by decide +kernel
theorem dX12_comesTo_117 : decode cX12_comesTo 117 = .ok (.getfield 122, 3) := by decide +kernel
theorem dX12_comesTo_120 : decode cX12_comesTo 120 = .ok (.iload 4, 2) := by decide +kernel
theorem dX12_comesTo_122 : decode cX12_comesTo 122 = .ok (.iconst 1, 1) := by decide +kernel
theorem dX12_comesTo_123 : decode cX12_comesTo 123 = .ok (.isub, 1) := by decide +kernel
theorem dX12_comesTo_124 : decode cX12_comesTo 124 = .ok (.iconst 1, 1) := by decide +kernel
theorem dX12_comesTo_125 : decode cX12_comesTo 125 = .ok (.aload_n 0, 1) := by decide +kernel
theorem dX12_comesTo_126 : decode cX12_comesTo 126 = .ok (.getfield 122, 3) := by decide +kernel
theorem dX12_comesTo_129 : decode cX12_comesTo 129 = .ok (.iload 4, 2) := by decide +kernel
theorem dX12_comesTo_131 : decode cX12_comesTo 131 = .ok (.iconst 1, 1) := by decide +kernel
theorem dX12_comesTo_132 : decode cX12_comesTo 132 = .ok (.isub, 1) := by decide +kernel
theorem dX12_comesTo_133 : decode cX12_comesTo 133 = .ok (.iaload, 1) := by decide +kernel
theorem dX12_comesTo_134 : decode cX12_comesTo 134 = .ok (.isub, 1) := by decide +kernel
theorem dX12_comesTo_135 : decode cX12_comesTo 135 = .ok (.iastore, 1) := by decide +kernel
theorem dX12_comesTo_136 : decode cX12_comesTo 136 = .ok (.goto 36, 3) := by decide +kernel
theorem dX12_comesTo_139 : decode cX12_comesTo 139 = .ok (.iinc 4 (-1), 3) := by decide +kernel
theorem dX12_comesTo_142 : decode cX12_comesTo 142 = .ok (.aload_n 0, 1) := by decide +kernel
theorem dX12_comesTo_143 : decode cX12_comesTo 143 = .ok (.getfield 122, 3) := by decide +kernel
theorem dX12_comesTo_146 : decode cX12_comesTo 146 = .ok (.iload 4, 2) := by decide +kernel
theorem dX12_comesTo_148 : decode cX12_comesTo 148 = .ok (.iconst 1, 1) := by decide +kernel
theorem dX12_comesTo_149 : decode cX12_comesTo 149 = .ok (.isub, 1) := by decide +kernel
theorem dX12_comesTo_150 : decode cX12_comesTo 150 = .ok (.iload 6, 2) := by decide +kernel
theorem dX12_comesTo_152 : decode cX12_comesTo 152 = .ok (.aload_n 0, 1) := by decide +kernel
theorem dX12_comesTo_153 : decode cX12_comesTo 153 = .ok (.getfield 122, 3) := by decide +kernel
theorem dX12_comesTo_156 : decode cX12_comesTo 156 = .ok (.iload 4, 2) := by decide +kernel
theorem dX12_comesTo_158 : decode cX12_comesTo 158 = .ok (.iconst 1, 1) := by decide +kernel
theorem dX12_comesTo_159 : decode cX12_comesTo 159 = .ok (.isub, 1) := by decide +kernel
theorem dX12_comesTo_160 : decode cX12_comesTo 160 = .ok (.iaload, 1) := by decide +kernel
theorem dX12_comesTo_161 : decode cX12_comesTo 161 = .ok (.aload_n 0, 1) := by decide +kernel
theorem dX12_comesTo_162 : decode cX12_comesTo 162 = .ok (.getfield 122, 3) := by decide +kernel
theorem dX12_comesTo_165 : decode cX12_comesTo 165 = .ok (.iload 4, 2) := by decide +kernel
theorem dX12_comesTo_167 : decode cX12_comesTo 167 = .ok (.iaload, 1) := by decide +kernel
theorem dX12_comesTo_168 : decode cX12_comesTo 168 = .ok (.invokestatic 399, 3) := by decide +kernel
theorem dX12_comesTo_171 : decode cX12_comesTo 171 = .ok (.iastore, 1) := by decide +kernel
theorem dX12_comesTo_172 : decode cX12_comesTo 172 = .ok (.iinc 5 1, 3) := by decide +kernel
theorem dX12_comesTo_175 : decode cX12_comesTo 175 = .ok (.goto (-169), 3) := by decide +kernel
theorem dX12_comesTo_178 : decode cX12_comesTo 178 = .ok (.aload_n 0, 1) := by decide +kernel
theorem dX12_comesTo_179 : decode cX12_comesTo 179 = .ok (.getfield 122, 3) := by decide +kernel
theorem dX12_comesTo_182 : decode cX12_comesTo 182 = .ok (.iconst 0, 1) := by decide +kernel
theorem dX12_comesTo_183 : decode cX12_comesTo 183 = .ok (.iaload, 1) := by decide +kernel
theorem dX12_comesTo_184 : decode cX12_comesTo 184 = .ok (.ireturn, 1) := by decide +kernel
theorem dX12_isSo_0 : decode cX12_isSo 0 = .ok (.aload_n 0, 1) := by decide +kernel
theorem dX12_isSo_1 : decode cX12_isSo 1 = .ok (.getfield 101, 3) := by decide +kernel
theorem dX12_isSo_4 : decode cX12_isSo 4 = .ok (.bipush 20, 2) := by decide +kernel
theorem dX12_isSo_6 : decode cX12_isSo 6 = .ok (.iload_n 1, 1) := by decide +kernel
theorem dX12_isSo_7 : decode cX12_isSo 7 = .ok (.imul, 1) := by decide +kernel
theorem dX12_isSo_8 : decode cX12_isSo 8 = .ok (.iload_n 2, 1) := by decide +kernel
theorem dX12_isSo_9 : decode cX12_isSo 9 = .ok (.iadd, 1) := by decide +kernel
theorem dX12_isSo_10 : decode cX12_isSo 10 = .ok (.iaload, 1) := by decide +kernel
theorem dX12_isSo_11 : decode cX12_isSo 11 = .ok (.istore_n 3, 1) := by decide +kernel
theorem dX12_isSo_12 : decode cX12_isSo 12 = .ok (.aload_n 0, 1) := by decide +kernel
theorem dX12_isSo_13 : decode cX12_isSo 13 = .ok (.getfield 98, 3) := by decide +kernel
theorem dX12_isSo_16 : decode cX12_isSo 16 = .ok (.bipush 21, 2) := by decide +kernel
theorem dX12_isSo_18 : decode cX12_isSo 18 = .ok (.iload_n 1, 1) := by decide +kernel
theorem dX12_isSo_19 : decode cX12_isSo 19 = .ok (.imul, 1) := by decide +kernel
theorem dX12_isSo_20 : decode cX12_isSo 20 = .ok (.iload_n 2, 1) := by decide +kernel
theorem dX12_isSo_21 : decode cX12_isSo 21 = .ok (.iadd, 1) := by decide +kernel
theorem dX12_isSo_22 : decode cX12_isSo 22 = .ok (.iconst 1, 1) := by decide +kernel
theorem dX12_isSo_23 : decode cX12_isSo 23 = .ok (.iadd, 1) := by decide +kernel
theorem dX12_isSo_24 : decode cX12_isSo 24 = .ok (.iaload, 1) := by decide +kernel
theorem dX12_isSo_25 : decode cX12_isSo 25 = .ok (.istore 4, 2) := by decide +kernel
theorem dX12_isSo_27 : decode cX12_isSo 27 = .ok (.iload_n 3, 1) := by decide +kernel
theorem dX12_isSo_28 : decode cX12_isSo 28 = .ok (.iload 4, 2) := by decide +kernel
theorem dX12_isSo_30 : decode cX12_isSo 30 = .ok (.if_icmp .eq 15, 3) := by decide +kernel
theorem dX12_isSo_33 : decode cX12_isSo 33 = .ok (.aload_n 0, 1) := by decide +kernel
theorem dX12_isSo_34 : decode cX12_isSo 34 = .ok (.iload_n 1, 1) := by decide +kernel
theorem dX12_isSo_35 : decode cX12_isSo 35 = .ok (.iload_n 3, 1) := by decide +kernel
theorem dX12_isSo_36 : decode cX12_isSo 36 = .ok (.iload 4, 2) := by decide +kernel
theorem dX12_isSo_38 : decode cX12_isSo 38 = .ok (.invokevirtual 402, 3) := by decide +kernel
theorem dX12_isSo_41 : decode cX12_isSo 41 = .ok (.iconst 1, 1) := by decide +kernel
theorem dX12_isSo_42 : decode cX12_isSo 42 = .ok (.if_icmp .ne 7, 3) := by decide +kernel
theorem dX12_isSo_45 : decode cX12_isSo 45 = .ok (.iconst 1, 1) := by decide +kernel
theorem dX12_isSo_46 : decode cX12_isSo 46 = .ok (.goto 4, 3) := by decide +kernel
theorem dX12_isSo_49 : decode cX12_isSo 49 = .ok (.iconst 0, 1) := by decide +kernel
theorem dX12_isSo_50 : decode cX12_isSo 50 = .ok (.ireturn, 1) := by decide +kernel
theorem dX12_numberOf_0 : decode cX12_numberOf 0 = .ok (.aload_n 0, 1) := by decide +kernel
theorem dX12_numberOf_1 : decode cX12_numberOf 1 = .ok (.iload_n 1, 1) := by decide +kernel
theorem dX12_numberOf_2 : decode cX12_numberOf 2 = .ok (.aload_n 0, 1) := by decide +kernel
theorem dX12_numberOf_3 : decode cX12_numberOf 3 = .ok (.getfield 98, 3) := by decide +kernel
theorem dX12_numberOf_6 : decode cX12_numberOf 6 = .ok (.bipush 21, 2) := by decide +kernel
theorem dX12_numberOf_8 : decode cX12_numberOf 8 = .ok (.iload_n 1, 1) := by decide +kernel
theorem dX12_numberOf_9 : decode cX12_numberOf 9 = .ok (.imul, 1) := by decide +kernel
theorem dX12_numberOf_10 : decode cX12_numberOf 10 = .ok (.iload_n 2, 1) := by decide +kernel
theorem dX12_numberOf_11 : decode cX12_numberOf 11 = .ok (.iadd, 1) := by decide +kernel
theorem dX12_numberOf_12 : decode cX12_numberOf 12 = .ok (.iaload, 1) := by decide +kernel
theorem dX12_numberOf_13 : decode cX12_numberOf 13 = .ok (.aload_n 0, 1) := by decide +kernel
theorem dX12_numberOf_14 : decode cX12_numberOf 14 = .ok (.getfield 101, 3) := by decide +kernel
theorem dX12_numberOf_17 : decode cX12_numberOf 17 = .ok (.bipush 20, 2) := by decide +kernel
theorem dX12_numberOf_19 : decode cX12_numberOf 19 = .ok (.iload_n 1, 1) := by decide +kernel
theorem dX12_numberOf_20 : decode cX12_numberOf 20 = .ok (.imul, 1) := by decide +kernel
theorem dX12_numberOf_21 : decode cX12_numberOf 21 = .ok (.iload_n 2, 1) := by decide +kernel
theorem dX12_numberOf_22 : decode cX12_numberOf 22 = .ok (.iadd, 1) := by decide +kernel
theorem dX12_numberOf_23 : decode cX12_numberOf 23 = .ok (.iaload, 1) := by decide +kernel
theorem dX12_numberOf_24 : decode cX12_numberOf 24 = .ok (.invokevirtual 402, 3) := by decide +kernel
theorem dX12_numberOf_27 : decode cX12_numberOf 27 = .ok (.ireturn, 1) := by decide +kernel
theorem dX12_asksAll_0 : decode cX12_asksAll 0 = .ok (.aload_n 0, 1) := by decide +kernel
theorem dX12_asksAll_1 : decode cX12_asksAll 1 = .ok (.getfield 25, 3) := by decide +kernel
theorem dX12_asksAll_4 : decode cX12_asksAll 4 = .ok (.iload_n 1, 1) := by decide +kernel
theorem dX12_asksAll_5 : decode cX12_asksAll 5 = .ok (.iaload, 1) := by decide +kernel
theorem dX12_asksAll_6 : decode cX12_asksAll 6 = .ok (.istore_n 3, 1) := by decide +kernel
theorem dX12_asksAll_7 : decode cX12_asksAll 7 = .ok (.aload_n 0, 1) := by decide +kernel
theorem dX12_asksAll_8 : decode cX12_asksAll 8 = .ok (.iload_n 2, 1) := by decide +kernel
theorem dX12_asksAll_9 : decode cX12_asksAll 9 = .ok (.invokevirtual 270, 3) := by decide +kernel
theorem dX12_asksAll_12 : decode cX12_asksAll 12 = .ok (.istore 4, 2) := by decide +kernel
theorem dX12_asksAll_14 : decode cX12_asksAll 14 = .ok (.aload_n 0, 1) := by decide +kernel
theorem dX12_asksAll_15 : decode cX12_asksAll 15 = .ok (.getfield 129, 3) := by decide +kernel
theorem dX12_asksAll_18 : decode cX12_asksAll 18 = .ok (.iconst 1, 1) := by decide +kernel
theorem dX12_asksAll_19 : decode cX12_asksAll 19 = .ok (.aload_n 0, 1) := by decide +kernel
theorem dX12_asksAll_20 : decode cX12_asksAll 20 = .ok (.getfield 7, 3) := by decide +kernel
theorem dX12_asksAll_23 : decode cX12_asksAll 23 = .ok (.iload_n 3, 1) := by decide +kernel
theorem dX12_asksAll_24 : decode cX12_asksAll 24 = .ok (.iaload, 1) := by decide +kernel
theorem dX12_asksAll_25 : decode cX12_asksAll 25 = .ok (.iastore, 1) := by decide +kernel
theorem dX12_asksAll_26 : decode cX12_asksAll 26 = .ok (.aload_n 0, 1) := by decide +kernel
theorem dX12_asksAll_27 : decode cX12_asksAll 27 = .ok (.getfield 129, 3) := by decide +kernel
theorem dX12_asksAll_30 : decode cX12_asksAll 30 = .ok (.iconst 2, 1) := by decide +kernel
theorem dX12_asksAll_31 : decode cX12_asksAll 31 = .ok (.aload_n 0, 1) := by decide +kernel
theorem dX12_asksAll_32 : decode cX12_asksAll 32 = .ok (.getfield 19, 3) := by decide +kernel
theorem dX12_asksAll_35 : decode cX12_asksAll 35 = .ok (.iload_n 3, 1) := by decide +kernel
theorem dX12_asksAll_36 : decode cX12_asksAll 36 = .ok (.iaload, 1) := by decide +kernel
theorem dX12_asksAll_37 : decode cX12_asksAll 37 = .ok (.iastore, 1) := by decide +kernel
theorem dX12_asksAll_38 : decode cX12_asksAll 38 = .ok (.aload_n 0, 1) := by decide +kernel
theorem dX12_asksAll_39 : decode cX12_asksAll 39 = .ok (.getfield 129, 3) := by decide +kernel
theorem dX12_asksAll_42 : decode cX12_asksAll 42 = .ok (.iconst 3, 1) := by decide +kernel
theorem dX12_asksAll_43 : decode cX12_asksAll 43 = .ok (.aload_n 0, 1) := by decide +kernel
theorem dX12_asksAll_44 : decode cX12_asksAll 44 = .ok (.getfield 13, 3) := by decide +kernel
theorem dX12_asksAll_47 : decode cX12_asksAll 47 = .ok (.iload_n 3, 1) := by decide +kernel
theorem dX12_asksAll_48 : decode cX12_asksAll 48 = .ok (.iaload, 1) := by decide +kernel
theorem dX12_asksAll_49 : decode cX12_asksAll 49 = .ok (.iastore, 1) := by decide +kernel
theorem dX12_asksAll_50 : decode cX12_asksAll 50 = .ok (.aload_n 0, 1) := by decide +kernel
theorem dX12_asksAll_51 : decode cX12_asksAll 51 = .ok (.getfield 129, 3) := by decide +kernel
theorem dX12_asksAll_54 : decode cX12_asksAll 54 = .ok (.iconst 4, 1) := by decide +kernel
theorem dX12_asksAll_55 : decode cX12_asksAll 55 = .ok (.aload_n 0, 1) := by decide +kernel
theorem dX12_asksAll_56 : decode cX12_asksAll 56 = .ok (.getfield 22, 3) := by decide +kernel
theorem dX12_asksAll_59 : decode cX12_asksAll 59 = .ok (.iload_n 3, 1) := by decide +kernel
theorem dX12_asksAll_60 : decode cX12_asksAll 60 = .ok (.iaload, 1) := by decide +kernel
theorem dX12_asksAll_61 : decode cX12_asksAll 61 = .ok (.iastore, 1) := by decide +kernel
theorem dX12_asksAll_62 : decode cX12_asksAll 62 = .ok (.aload_n 0, 1) := by decide +kernel
theorem dX12_asksAll_63 : decode cX12_asksAll 63 = .ok (.getfield 129, 3) := by decide +kernel
theorem dX12_asksAll_66 : decode cX12_asksAll 66 = .ok (.iconst 5, 1) := by decide +kernel
theorem dX12_asksAll_67 : decode cX12_asksAll 67 = .ok (.aload_n 0, 1) := by decide +kernel
theorem dX12_asksAll_68 : decode cX12_asksAll 68 = .ok (.getfield 28, 3) := by decide +kernel
theorem dX12_asksAll_71 : decode cX12_asksAll 71 = .ok (.iload_n 1, 1) := by decide +kernel
theorem dX12_asksAll_72 : decode cX12_asksAll 72 = .ok (.iaload, 1) := by decide +kernel
theorem dX12_asksAll_73 : decode cX12_asksAll 73 = .ok (.iastore, 1) := by decide +kernel
theorem dX12_asksAll_74 : decode cX12_asksAll 74 = .ok (.aload_n 0, 1) := by decide +kernel
theorem dX12_asksAll_75 : decode cX12_asksAll 75 = .ok (.getfield 129, 3) := by decide +kernel
theorem dX12_asksAll_78 : decode cX12_asksAll 78 = .ok (.bipush 6, 2) := by decide +kernel
theorem dX12_asksAll_80 : decode cX12_asksAll 80 = .ok (.iload 4, 2) := by decide +kernel
theorem dX12_asksAll_82 : decode cX12_asksAll 82 = .ok (.iconst (-1), 1) := by decide +kernel
theorem dX12_asksAll_83 : decode cX12_asksAll 83 = .ok (.if_icmp .ne 7, 3) := by decide +kernel
theorem dX12_asksAll_86 : decode cX12_asksAll 86 = .ok (.iconst 3, 1) := by decide +kernel
theorem dX12_asksAll_87 : decode cX12_asksAll 87 = .ok (.goto 10, 3) := by decide +kernel
theorem dX12_asksAll_90 : decode cX12_asksAll 90 = .ok (.aload_n 0, 1) := by decide +kernel
theorem dX12_asksAll_91 : decode cX12_asksAll 91 = .ok (.getfield 80, 3) := by decide +kernel
theorem dX12_asksAll_94 : decode cX12_asksAll 94 = .ok (.iload 4, 2) := by decide +kernel
theorem dX12_asksAll_96 : decode cX12_asksAll 96 = .ok (.iaload, 1) := by decide +kernel
theorem dX12_asksAll_97 : decode cX12_asksAll 97 = .ok (.iastore, 1) := by decide +kernel
theorem dX12_asksAll_98 : decode cX12_asksAll 98 = .ok (.aload_n 0, 1) := by decide +kernel
theorem dX12_asksAll_99 : decode cX12_asksAll 99 = .ok (.getfield 129, 3) := by decide +kernel
theorem dX12_asksAll_102 : decode cX12_asksAll 102 = .ok (.bipush 7, 2) := by decide +kernel
theorem dX12_asksAll_104 : decode cX12_asksAll 104 = .ok (.aload_n 0, 1) := by decide +kernel
theorem dX12_asksAll_105 : decode cX12_asksAll 105 = .ok (.getfield 52, 3) := by decide +kernel
theorem dX12_asksAll_108 : decode cX12_asksAll 108 = .ok (.iload_n 2, 1) := by decide +kernel
theorem dX12_asksAll_109 : decode cX12_asksAll 109 = .ok (.iaload, 1) := by decide +kernel
theorem dX12_asksAll_110 : decode cX12_asksAll 110 = .ok (.iastore, 1) := by decide +kernel
theorem dX12_asksAll_111 : decode cX12_asksAll 111 = .ok (.aload_n 0, 1) := by decide +kernel
theorem dX12_asksAll_112 : decode cX12_asksAll 112 = .ok (.getfield 129, 3) := by decide +kernel
theorem dX12_asksAll_115 : decode cX12_asksAll 115 = .ok (.bipush 8, 2) := by decide +kernel
theorem dX12_asksAll_117 : decode cX12_asksAll 117 = .ok (.aload_n 0, 1) := by decide +kernel
theorem dX12_asksAll_118 : decode cX12_asksAll 118 = .ok (.getfield 58, 3) := by decide +kernel
theorem dX12_asksAll_121 : decode cX12_asksAll 121 = .ok (.iload_n 2, 1) := by decide +kernel
theorem dX12_asksAll_122 : decode cX12_asksAll 122 = .ok (.iaload, 1) := by decide +kernel
theorem dX12_asksAll_123 : decode cX12_asksAll 123 = .ok (.iastore, 1) := by decide +kernel
theorem dX12_asksAll_124 : decode cX12_asksAll 124 = .ok (.aload_n 0, 1) := by decide +kernel
theorem dX12_asksAll_125 : decode cX12_asksAll 125 = .ok (.getfield 129, 3) := by decide +kernel
theorem dX12_asksAll_128 : decode cX12_asksAll 128 = .ok (.bipush 9, 2) := by decide +kernel
theorem dX12_asksAll_130 : decode cX12_asksAll 130 = .ok (.aload_n 0, 1) := by decide +kernel
theorem dX12_asksAll_131 : decode cX12_asksAll 131 = .ok (.getfield 55, 3) := by decide +kernel
theorem dX12_asksAll_134 : decode cX12_asksAll 134 = .ok (.iload_n 2, 1) := by decide +kernel
theorem dX12_asksAll_135 : decode cX12_asksAll 135 = .ok (.iaload, 1) := by decide +kernel
theorem dX12_asksAll_136 : decode cX12_asksAll 136 = .ok (.iastore, 1) := by decide +kernel
theorem dX12_asksAll_137 : decode cX12_asksAll 137 = .ok (.aload_n 0, 1) := by decide +kernel
theorem dX12_asksAll_138 : decode cX12_asksAll 138 = .ok (.getfield 129, 3) := by decide +kernel
theorem dX12_asksAll_141 : decode cX12_asksAll 141 = .ok (.bipush 10, 2) := by decide +kernel
theorem dX12_asksAll_143 : decode cX12_asksAll 143 = .ok (.aload_n 0, 1) := by decide +kernel
theorem dX12_asksAll_144 : decode cX12_asksAll 144 = .ok (.getfield 253, 3) := by decide +kernel
theorem dX12_asksAll_147 : decode cX12_asksAll 147 = .ok (.iastore, 1) := by decide +kernel
theorem dX12_asksAll_148 : decode cX12_asksAll 148 = .ok (.aload_n 0, 1) := by decide +kernel
theorem dX12_asksAll_149 : decode cX12_asksAll 149 = .ok (.iconst (-1), 1) := by decide +kernel
theorem dX12_asksAll_150 : decode cX12_asksAll 150 = .ok (.putfield 405, 3) := by decide +kernel
theorem dX12_asksAll_153 : decode cX12_asksAll 153 = .ok (.aload_n 0, 1) := by decide +kernel
theorem dX12_asksAll_154 : decode cX12_asksAll 154 = .ok (.iconst (-1), 1) := by decide +kernel
theorem dX12_asksAll_155 : decode cX12_asksAll 155 = .ok (.putfield 408, 3) := by decide +kernel
theorem dX12_asksAll_158 : decode cX12_asksAll 158 = .ok (.aload_n 0, 1) := by decide +kernel
theorem dX12_asksAll_159 : decode cX12_asksAll 159 = .ok (.iconst 0, 1) := by decide +kernel
theorem dX12_asksAll_160 : decode cX12_asksAll 160 = .ok (.putfield 411, 3) := by decide +kernel
theorem dX12_asksAll_163 : decode cX12_asksAll 163 = .ok (.aload_n 0, 1) := by decide +kernel
theorem dX12_asksAll_164 : decode cX12_asksAll 164 = .ok (.iconst 0, 1) := by decide +kernel
theorem dX12_asksAll_165 : decode cX12_asksAll 165 = .ok (.putfield 414, 3) := by decide +kernel
theorem dX12_asksAll_168 : decode cX12_asksAll 168 = .ok (.iconst 0, 1) := by decide +kernel
theorem dX12_asksAll_169 : decode cX12_asksAll 169 = .ok (.istore 5, 2) := by decide +kernel
theorem dX12_asksAll_171 : decode cX12_asksAll 171 = .ok (.iload 5, 2) := by decide +kernel
theorem dX12_asksAll_173 : decode cX12_asksAll 173 = .ok (.iconst 3, 1) := by decide +kernel
theorem dX12_asksAll_174 : decode cX12_asksAll 174 = .ok (.if_icmp .ge 169, 3) := by decide +kernel
theorem dX12_asksAll_177 : decode cX12_asksAll 177 = .ok (.iconst 0, 1) := by decide +kernel
theorem dX12_asksAll_178 : decode cX12_asksAll 178 = .ok (.istore 6, 2) := by decide +kernel
theorem dX12_asksAll_180 : decode cX12_asksAll 180 = .ok (.iconst 0, 1) := by decide +kernel
theorem dX12_asksAll_181 : decode cX12_asksAll 181 = .ok (.istore 7, 2) := by decide +kernel
theorem dX12_asksAll_183 : decode cX12_asksAll 183 = .ok (.iload 7, 2) := by decide +kernel
theorem dX12_asksAll_185 : decode cX12_asksAll 185 = .ok (.aload_n 0, 1) := by decide +kernel
theorem dX12_asksAll_186 : decode cX12_asksAll 186 = .ok (.getfield 92, 3) := by decide +kernel
theorem dX12_asksAll_189 : decode cX12_asksAll 189 = .ok (.iload 5, 2) := by decide +kernel
theorem dX12_asksAll_191 : decode cX12_asksAll 191 = .ok (.iaload, 1) := by decide +kernel
theorem dX12_asksAll_192 : decode cX12_asksAll 192 = .ok (.if_icmp .ge 120, 3) := by decide +kernel
theorem dX12_asksAll_195 : decode cX12_asksAll 195 = .ok (.aload_n 0, 1) := by decide +kernel
theorem dX12_asksAll_196 : decode cX12_asksAll 196 = .ok (.iload 5, 2) := by decide +kernel
theorem dX12_asksAll_198 : decode cX12_asksAll 198 = .ok (.iload 7, 2) := by decide +kernel
theorem dX12_asksAll_200 : decode cX12_asksAll 200 = .ok (.invokevirtual 416, 3) := by decide +kernel
theorem dX12_asksAll_203 : decode cX12_asksAll 203 = .ok (.ifCond .ne 6, 3) := by decide +kernel
theorem dX12_asksAll_206 : decode cX12_asksAll 206 = .ok (.goto 100, 3) := by decide +kernel
theorem dX12_asksAll_209 : decode cX12_asksAll 209 = .ok (.aload_n 0, 1) := by decide +kernel
theorem dX12_asksAll_210 : decode cX12_asksAll 210 = .ok (.getfield 95, 3) := by decide +kernel
theorem dX12_asksAll_213 : decode cX12_asksAll 213 = .ok (.bipush 20, 2) := by decide +kernel
theorem dX12_asksAll_215 : decode cX12_asksAll 215 = .ok (.iload 5, 2) := by decide +kernel
theorem dX12_asksAll_217 : decode cX12_asksAll 217 = .ok (.imul, 1) := by decide +kernel
theorem dX12_asksAll_218 : decode cX12_asksAll 218 = .ok (.iload 7, 2) := by decide +kernel
theorem dX12_asksAll_220 : decode cX12_asksAll 220 = .ok (.iadd, 1) := by decide +kernel
theorem dX12_asksAll_221 : decode cX12_asksAll 221 = .ok (.iaload, 1) := by decide +kernel
theorem dX12_asksAll_222 : decode cX12_asksAll 222 = .ok (.istore 8, 2) := by decide +kernel
theorem dX12_asksAll_224 : decode cX12_asksAll 224 = .ok (.iload 8, 2) := by decide +kernel
theorem dX12_asksAll_226 : decode cX12_asksAll 226 = .ok (.ifCond .ne 23, 3) := by decide +kernel
theorem dX12_asksAll_229 : decode cX12_asksAll 229 = .ok (.aload_n 0, 1) := by decide +kernel
theorem dX12_asksAll_230 : decode cX12_asksAll 230 = .ok (.getfield 405, 3) := by decide +kernel
theorem dX12_asksAll_233 : decode cX12_asksAll 233 = .ok (.iconst (-1), 1) := by decide +kernel
theorem dX12_asksAll_234 : decode cX12_asksAll 234 = .ok (.if_icmp .ne 15, 3) := by decide +kernel
theorem dX12_asksAll_237 : decode cX12_asksAll 237 = .ok (.aload_n 0, 1) := by decide +kernel
theorem dX12_asksAll_238 : decode cX12_asksAll 238 = .ok (.iload 5, 2) := by decide +kernel
theorem dX12_asksAll_240 : decode cX12_asksAll 240 = .ok (.putfield 405, 3) := by decide +kernel
theorem dX12_asksAll_243 : decode cX12_asksAll 243 = .ok (.aload_n 0, 1) := by decide +kernel
theorem dX12_asksAll_244 : decode cX12_asksAll 244 = .ok (.iload 7, 2) := by decide +kernel
theorem dX12_asksAll_246 : decode cX12_asksAll 246 = .ok (.putfield 408, 3) := by decide +kernel
theorem dX12_asksAll_249 : decode cX12_asksAll 249 = .ok (.iload 8, 2) := by decide +kernel
theorem dX12_asksAll_251 : decode cX12_asksAll 251 = .ok (.ifCond .ne 7, 3) := by decide +kernel
theorem dX12_asksAll_254 : decode cX12_asksAll 254 = .ok (.iconst 0, 1) := by decide +kernel
theorem dX12_asksAll_255 : decode cX12_asksAll 255 = .ok (.goto 11, 3) := by decide +kernel
theorem dX12_asksAll_258 : decode cX12_asksAll 258 = .ok (.aload_n 0, 1) := by decide +kernel
theorem dX12_asksAll_259 : decode cX12_asksAll 259 = .ok (.iload 5, 2) := by decide +kernel
theorem dX12_asksAll_261 : decode cX12_asksAll 261 = .ok (.iload 7, 2) := by decide +kernel
theorem dX12_asksAll_263 : decode cX12_asksAll 263 = .ok (.invokevirtual 419, 3) := by decide +kernel
theorem dX12_asksAll_266 : decode cX12_asksAll 266 = .ok (.istore 9, 2) := by decide +kernel
theorem dX12_asksAll_268 : decode cX12_asksAll 268 = .ok (.iload 8, 2) := by decide +kernel
theorem dX12_asksAll_270 : decode cX12_asksAll 270 = .ok (.iconst 1, 1) := by decide +kernel
theorem dX12_asksAll_271 : decode cX12_asksAll 271 = .ok (.if_icmp .ne 14, 3) := by decide +kernel
theorem dX12_asksAll_274 : decode cX12_asksAll 274 = .ok (.iload 9, 2) := by decide +kernel
theorem dX12_asksAll_276 : decode cX12_asksAll 276 = .ok (.iload 6, 2) := by decide +kernel
theorem dX12_asksAll_278 : decode cX12_asksAll 278 = .ok (.if_icmp .le 7, 3) := by decide +kernel
theorem dX12_asksAll_281 : decode cX12_asksAll 281 = .ok (.iload 9, 2) := by decide +kernel
theorem dX12_asksAll_283 : decode cX12_asksAll 283 = .ok (.istore 6, 2) := by decide +kernel
theorem dX12_asksAll_285 : decode cX12_asksAll 285 = .ok (.iload 8, 2) := by decide +kernel
theorem dX12_asksAll_287 : decode cX12_asksAll 287 = .ok (.iconst 2, 1) := by decide +kernel
theorem dX12_asksAll_288 : decode cX12_asksAll 288 = .ok (.if_icmp .ne 18, 3) := by decide +kernel
theorem dX12_asksAll_291 : decode cX12_asksAll 291 = .ok (.iload 9, 2) := by decide +kernel
theorem dX12_asksAll_293 : decode cX12_asksAll 293 = .ok (.aload_n 0, 1) := by decide +kernel
theorem dX12_asksAll_294 : decode cX12_asksAll 294 = .ok (.getfield 414, 3) := by decide +kernel
theorem dX12_asksAll_297 : decode cX12_asksAll 297 = .ok (.if_icmp .le 9, 3) := by decide +kernel
theorem dX12_asksAll_300 : decode cX12_asksAll 300 = .ok (.aload_n 0, 1) := by decide +kernel
theorem dX12_asksAll_301 : decode cX12_asksAll 301 = .ok (.iload 9, 2) := by decide +kernel
theorem dX12_asksAll_303 : decode cX12_asksAll 303 = .ok (.putfield 414, 3) := by decide +kernel
theorem dX12_asksAll_306 : decode cX12_asksAll 306 = .ok (.iinc 7 1, 3) := by decide +kernel
theorem dX12_asksAll_309 : decode cX12_asksAll 309 = .ok (.goto (-126), 3) := by decide +kernel
theorem dX12_asksAll_312 : decode cX12_asksAll 312 = .ok (.aload_n 0, 1) := by decide +kernel
theorem dX12_asksAll_313 : decode cX12_asksAll 313 = .ok (.dup, 1) := by decide +kernel
theorem dX12_asksAll_314 : decode cX12_asksAll 314 = .ok (.getfield 411, 3) := by decide +kernel
theorem dX12_asksAll_317 : decode cX12_asksAll 317 = .ok (.iload 6, 2) := by decide +kernel
theorem dX12_asksAll_319 : decode cX12_asksAll 319 = .ok (.ldc_w 422, 3) := by decide +kernel
theorem dX12_asksAll_322 : decode cX12_asksAll 322 = .ok (.if_icmp .le 9, 3) := by decide +kernel
theorem dX12_asksAll_325 : decode cX12_asksAll 325 = .ok (.ldc_w 422, 3) := by decide +kernel
theorem dX12_asksAll_328 : decode cX12_asksAll 328 = .ok (.goto 5, 3) := by decide +kernel
theorem dX12_asksAll_331 : decode cX12_asksAll 331 = .ok (.iload 6, 2) := by decide +kernel
theorem dX12_asksAll_333 : decode cX12_asksAll 333 = .ok (.iadd, 1) := by decide +kernel
theorem dX12_asksAll_334 : decode cX12_asksAll 334 = .ok (.putfield 411, 3) := by decide +kernel
theorem dX12_asksAll_337 : decode cX12_asksAll 337 = .ok (.iinc 5 1, 3) := by decide +kernel
theorem dX12_asksAll_340 : decode cX12_asksAll 340 = .ok (.goto (-169), 3) := by decide +kernel
theorem dX12_asksAll_343 : decode cX12_asksAll 343 = .ok (.aload_n 0, 1) := by decide +kernel
theorem dX12_asksAll_344 : decode cX12_asksAll 344 = .ok (.getfield 414, 3) := by decide +kernel
theorem dX12_asksAll_347 : decode cX12_asksAll 347 = .ok (.bipush 40, 2) := by decide +kernel
theorem dX12_asksAll_349 : decode cX12_asksAll 349 = .ok (.if_icmp .le 9, 3) := by decide +kernel
theorem dX12_asksAll_352 : decode cX12_asksAll 352 = .ok (.aload_n 0, 1) := by decide +kernel
theorem dX12_asksAll_353 : decode cX12_asksAll 353 = .ok (.bipush 40, 2) := by decide +kernel
theorem dX12_asksAll_355 : decode cX12_asksAll 355 = .ok (.putfield 414, 3) := by decide +kernel
theorem dX12_asksAll_358 : decode cX12_asksAll 358 = .ok (.return_, 1) := by decide +kernel
theorem dX12_whyNot_0 : decode cX12_whyNot 0 = .ok (.aload_n 0, 1) := by decide +kernel
theorem dX12_whyNot_1 : decode cX12_whyNot 1 = .ok (.iload_n 1, 1) := by decide +kernel
theorem dX12_whyNot_2 : decode cX12_whyNot 2 = .ok (.iload_n 2, 1) := by decide +kernel
theorem dX12_whyNot_3 : decode cX12_whyNot 3 = .ok (.invokevirtual 423, 3) := by decide +kernel
theorem dX12_whyNot_6 : decode cX12_whyNot 6 = .ok (.aload_n 0, 1) := by decide +kernel
theorem dX12_whyNot_7 : decode cX12_whyNot 7 = .ok (.getfield 25, 3) := by decide +kernel
theorem dX12_whyNot_10 : decode cX12_whyNot 10 = .ok (.iload_n 1, 1) := by decide +kernel
theorem dX12_whyNot_11 : decode cX12_whyNot 11 = .ok (.iaload, 1) := by decide +kernel
theorem dX12_whyNot_12 : decode cX12_whyNot 12 = .ok (.istore_n 3, 1) := by decide +kernel
theorem dX12_whyNot_13 : decode cX12_whyNot 13 = .ok (.aload_n 0, 1) := by decide +kernel
theorem dX12_whyNot_14 : decode cX12_whyNot 14 = .ok (.iload_n 2, 1) := by decide +kernel
theorem dX12_whyNot_15 : decode cX12_whyNot 15 = .ok (.invokevirtual 270, 3) := by decide +kernel
theorem dX12_whyNot_18 : decode cX12_whyNot 18 = .ok (.istore 4, 2) := by decide +kernel
theorem dX12_whyNot_20 : decode cX12_whyNot 20 = .ok (.aload_n 0, 1) := by decide +kernel
theorem dX12_whyNot_21 : decode cX12_whyNot 21 = .ok (.getfield 28, 3) := by decide +kernel
theorem dX12_whyNot_24 : decode cX12_whyNot 24 = .ok (.iload_n 1, 1) := by decide +kernel
theorem dX12_whyNot_25 : decode cX12_whyNot 25 = .ok (.iaload, 1) := by decide +kernel
theorem dX12_whyNot_26 : decode cX12_whyNot 26 = .ok (.bipush 12, 2) := by decide +kernel
theorem dX12_whyNot_28 : decode cX12_whyNot 28 = .ok (.if_icmp .ne 5, 3) := by decide +kernel
theorem dX12_whyNot_31 : decode cX12_whyNot 31 = .ok (.iconst 1, 1) := by decide +kernel
theorem dX12_whyNot_32 : decode cX12_whyNot 32 = .ok (.ireturn, 1) := by decide +kernel
theorem dX12_whyNot_33 : decode cX12_whyNot 33 = .ok (.aload_n 0, 1) := by decide +kernel
theorem dX12_whyNot_34 : decode cX12_whyNot 34 = .ok (.getfield 19, 3) := by decide +kernel
theorem dX12_whyNot_37 : decode cX12_whyNot 37 = .ok (.iload_n 3, 1) := by decide +kernel
theorem dX12_whyNot_38 : decode cX12_whyNot 38 = .ok (.iaload, 1) := by decide +kernel
theorem dX12_whyNot_39 : decode cX12_whyNot 39 = .ok (.iconst 3, 1) := by decide +kernel
theorem dX12_whyNot_40 : decode cX12_whyNot 40 = .ok (.if_icmp .ge 30, 3) := by decide +kernel
theorem dX12_whyNot_43 : decode cX12_whyNot 43 = .ok (.iload 4, 2) := by decide +kernel
theorem dX12_whyNot_45 : decode cX12_whyNot 45 = .ok (.iconst (-1), 1) := by decide +kernel
theorem dX12_whyNot_46 : decode cX12_whyNot 46 = .ok (.if_icmp .eq 22, 3) := by decide +kernel
theorem dX12_whyNot_49 : decode cX12_whyNot 49 = .ok (.aload_n 0, 1) := by decide +kernel
theorem dX12_whyNot_50 : decode cX12_whyNot 50 = .ok (.getfield 83, 3) := by decide +kernel
theorem dX12_whyNot_53 : decode cX12_whyNot 53 = .ok (.iload 4, 2) := by decide +kernel
theorem dX12_whyNot_55 : decode cX12_whyNot 55 = .ok (.iaload, 1) := by decide +kernel
theorem dX12_whyNot_56 : decode cX12_whyNot 56 = .ok (.aload_n 0, 1) := by decide +kernel
theorem dX12_whyNot_57 : decode cX12_whyNot 57 = .ok (.getfield 19, 3) := by decide +kernel
theorem dX12_whyNot_60 : decode cX12_whyNot 60 = .ok (.iload_n 3, 1) := by decide +kernel
theorem dX12_whyNot_61 : decode cX12_whyNot 61 = .ok (.iaload, 1) := by decide +kernel
theorem dX12_whyNot_62 : decode cX12_whyNot 62 = .ok (.ishr, 1) := by decide +kernel
theorem dX12_whyNot_63 : decode cX12_whyNot 63 = .ok (.iconst 1, 1) := by decide +kernel
theorem dX12_whyNot_64 : decode cX12_whyNot 64 = .ok (.iand, 1) := by decide +kernel
theorem dX12_whyNot_65 : decode cX12_whyNot 65 = .ok (.ifCond .ne 5, 3) := by decide +kernel
theorem dX12_whyNot_68 : decode cX12_whyNot 68 = .ok (.iconst 2, 1) := by decide +kernel
theorem dX12_whyNot_69 : decode cX12_whyNot 69 = .ok (.ireturn, 1) := by decide +kernel
theorem dX12_whyNot_70 : decode cX12_whyNot 70 = .ok (.aload_n 0, 1) := by decide +kernel
theorem dX12_whyNot_71 : decode cX12_whyNot 71 = .ok (.getfield 13, 3) := by decide +kernel
theorem dX12_whyNot_74 : decode cX12_whyNot 74 = .ok (.iload_n 3, 1) := by decide +kernel
theorem dX12_whyNot_75 : decode cX12_whyNot 75 = .ok (.iaload, 1) := by decide +kernel
theorem dX12_whyNot_76 : decode cX12_whyNot 76 = .ok (.iconst 5, 1) := by decide +kernel
theorem dX12_whyNot_77 : decode cX12_whyNot 77 = .ok (.if_icmp .ne 14, 3) := by decide +kernel
theorem dX12_whyNot_80 : decode cX12_whyNot 80 = .ok (.aload_n 0, 1) := by decide +kernel
theorem dX12_whyNot_81 : decode cX12_whyNot 81 = .ok (.getfield 58, 3) := by decide +kernel
theorem dX12_whyNot_84 : decode cX12_whyNot 84 = .ok (.iload_n 2, 1) := by decide +kernel
theorem dX12_whyNot_85 : decode cX12_whyNot 85 = .ok (.iaload, 1) := by decide +kernel
theorem dX12_whyNot_86 : decode cX12_whyNot 86 = .ok (.ifCond .ne 5, 3) := by decide +kernel
theorem dX12_whyNot_89 : decode cX12_whyNot 89 = .ok (.iconst 3, 1) := by decide +kernel
theorem dX12_whyNot_90 : decode cX12_whyNot 90 = .ok (.ireturn, 1) := by decide +kernel
theorem dX12_whyNot_91 : decode cX12_whyNot 91 = .ok (.aload_n 0, 1) := by decide +kernel
theorem dX12_whyNot_92 : decode cX12_whyNot 92 = .ok (.getfield 405, 3) := by decide +kernel
theorem dX12_whyNot_95 : decode cX12_whyNot 95 = .ok (.iconst (-1), 1) := by decide +kernel
theorem dX12_whyNot_96 : decode cX12_whyNot 96 = .ok (.if_icmp .ne 7, 3) := by decide +kernel
theorem dX12_whyNot_99 : decode cX12_whyNot 99 = .ok (.iconst 0, 1) := by decide +kernel
theorem dX12_whyNot_100 : decode cX12_whyNot 100 = .ok (.goto 4, 3) := by decide +kernel
theorem dX12_whyNot_103 : decode cX12_whyNot 103 = .ok (.iconst 4, 1) := by decide +kernel
theorem dX12_whyNot_104 : decode cX12_whyNot 104 = .ok (.ireturn, 1) := by decide +kernel
theorem dX12_runs_0 : decode cX12_runs 0 = .ok (.aload_n 0, 1) := by decide +kernel
theorem dX12_runs_1 : decode cX12_runs 1 = .ok (.iload_n 1, 1) := by decide +kernel
theorem dX12_runs_2 : decode cX12_runs 2 = .ok (.invokevirtual 243, 3) := by decide +kernel
theorem dX12_runs_5 : decode cX12_runs 5 = .ok (.ifCond .eq 11, 3) := by decide +kernel
theorem dX12_runs_8 : decode cX12_runs 8 = .ok (.aload_n 0, 1) := by decide +kernel
theorem dX12_runs_9 : decode cX12_runs 9 = .ok (.iload_n 2, 1) := by decide +kernel
theorem dX12_runs_10 : decode cX12_runs 10 = .ok (.invokevirtual 264, 3) := by decide +kernel
theorem dX12_runs_13 : decode cX12_runs 13 = .ok (.ifCond .ne 5, 3) := by decide +kernel
theorem dX12_runs_16 : decode cX12_runs 16 = .ok (.iconst (-1), 1) := by decide +kernel
theorem dX12_runs_17 : decode cX12_runs 17 = .ok (.ireturn, 1) := by decide +kernel
theorem dX12_runs_18 : decode cX12_runs 18 = .ok (.aload_n 0, 1) := by decide +kernel
theorem dX12_runs_19 : decode cX12_runs 19 = .ok (.iload_n 1, 1) := by decide +kernel
theorem dX12_runs_20 : decode cX12_runs 20 = .ok (.iload_n 2, 1) := by decide +kernel
theorem dX12_runs_21 : decode cX12_runs 21 = .ok (.invokevirtual 426, 3) := by decide +kernel
theorem dX12_runs_24 : decode cX12_runs 24 = .ok (.istore 4, 2) := by decide +kernel
theorem dX12_runs_26 : decode cX12_runs 26 = .ok (.iload_n 3, 1) := by decide +kernel
theorem dX12_runs_27 : decode cX12_runs 27 = .ok (.tableswitch 56 0 4 #[33, 36, 41, 46, 51], 33) := by decide +kernel
theorem dX12_runs_60 : decode cX12_runs 60 = .ok (.iload 4, 2) := by decide +kernel
theorem dX12_runs_62 : decode cX12_runs 62 = .ok (.ireturn, 1) := by decide +kernel
theorem dX12_runs_63 : decode cX12_runs 63 = .ok (.aload_n 0, 1) := by decide +kernel
theorem dX12_runs_64 : decode cX12_runs 64 = .ok (.getfield 405, 3) := by decide +kernel
theorem dX12_runs_67 : decode cX12_runs 67 = .ok (.ireturn, 1) := by decide +kernel
theorem dX12_runs_68 : decode cX12_runs 68 = .ok (.aload_n 0, 1) := by decide +kernel
theorem dX12_runs_69 : decode cX12_runs 69 = .ok (.getfield 408, 3) := by decide +kernel
theorem dX12_runs_72 : decode cX12_runs 72 = .ok (.ireturn, 1) := by decide +kernel
theorem dX12_runs_73 : decode cX12_runs 73 = .ok (.aload_n 0, 1) := by decide +kernel
theorem dX12_runs_74 : decode cX12_runs 74 = .ok (.getfield 411, 3) := by decide +kernel
theorem dX12_runs_77 : decode cX12_runs 77 = .ok (.ireturn, 1) := by decide +kernel
theorem dX12_runs_78 : decode cX12_runs 78 = .ok (.aload_n 0, 1) := by decide +kernel
theorem dX12_runs_79 : decode cX12_runs 79 = .ok (.getfield 414, 3) := by decide +kernel
theorem dX12_runs_82 : decode cX12_runs 82 = .ok (.ireturn, 1) := by decide +kernel
theorem dX12_runs_83 : decode cX12_runs 83 = .ok (.iconst (-1), 1) := by decide +kernel
theorem dX12_runs_84 : decode cX12_runs 84 = .ok (.ireturn, 1) := by decide +kernel
theorem dX12_crowd_0 : decode cX12_crowd 0 = .ok (.iload_n 1, 1) := by decide +kernel
theorem dX12_crowd_1 : decode cX12_crowd 1 = .ok (.iconst 0, 1) := by decide +kernel
theorem dX12_crowd_2 : decode cX12_crowd 2 = .ok (.iconst 3, 1) := by decide +kernel
theorem dX12_crowd_3 : decode cX12_crowd 3 = .ok (.invokestatic 223, 3) := by decide +kernel
theorem dX12_crowd_6 : decode cX12_crowd 6 = .ok (.ifCond .eq 53, 3) := by decide +kernel
theorem dX12_crowd_9 : decode cX12_crowd 9 = .ok (.iload_n 2, 1) := by decide +kernel
theorem dX12_crowd_10 : decode cX12_crowd 10 = .ok (.iconst 0, 1) := by decide +kernel
theorem dX12_crowd_11 : decode cX12_crowd 11 = .ok (.iconst 4, 1) := by decide +kernel
theorem dX12_crowd_12 : decode cX12_crowd 12 = .ok (.invokestatic 223, 3) := by decide +kernel
theorem dX12_crowd_15 : decode cX12_crowd 15 = .ok (.ifCond .eq 44, 3) := by decide +kernel
theorem dX12_crowd_18 : decode cX12_crowd 18 = .ok (.iload_n 3, 1) := by decide +kernel
theorem dX12_crowd_19 : decode cX12_crowd 19 = .ok (.iconst 0, 1) := by decide +kernel
theorem dX12_crowd_20 : decode cX12_crowd 20 = .ok (.iconst 3, 1) := by decide +kernel
theorem dX12_crowd_21 : decode cX12_crowd 21 = .ok (.invokestatic 223, 3) := by decide +kernel
theorem dX12_crowd_24 : decode cX12_crowd 24 = .ok (.ifCond .eq 35, 3) := by decide +kernel
theorem dX12_crowd_27 : decode cX12_crowd 27 = .ok (.iload 4, 2) := by decide +kernel
theorem dX12_crowd_29 : decode cX12_crowd 29 = .ok (.iconst 0, 1) := by decide +kernel
theorem dX12_crowd_30 : decode cX12_crowd 30 = .ok (.sipush 9999, 3) := by decide +kernel
theorem dX12_crowd_33 : decode cX12_crowd 33 = .ok (.invokestatic 223, 3) := by decide +kernel
theorem dX12_crowd_36 : decode cX12_crowd 36 = .ok (.ifCond .eq 23, 3) := by decide +kernel
theorem dX12_crowd_39 : decode cX12_crowd 39 = .ok (.iload 5, 2) := by decide +kernel
theorem dX12_crowd_41 : decode cX12_crowd 41 = .ok (.iconst 0, 1) := by decide +kernel
theorem dX12_crowd_42 : decode cX12_crowd 42 = .ok (.bipush 99, 2) := by decide +kernel
theorem dX12_crowd_44 : decode cX12_crowd 44 = .ok (.invokestatic 223, 3) := by decide +kernel
theorem dX12_crowd_47 : decode cX12_crowd 47 = .ok (.ifCond .eq 12, 3) := by decide +kernel
theorem dX12_crowd_50 : decode cX12_crowd 50 = .ok (.aload_n 0, 1) := by decide +kernel
theorem dX12_crowd_51 : decode cX12_crowd 51 = .ok (.getfield 236, 3) := by decide +kernel
theorem dX12_crowd_54 : decode cX12_crowd 54 = .ok (.bipush 16, 2) := by decide +kernel
theorem dX12_crowd_56 : decode cX12_crowd 56 = .ok (.if_icmp .ne 5, 3) := by decide +kernel
theorem dX12_crowd_59 : decode cX12_crowd 59 = .ok (.iconst (-1), 1) := by decide +kernel
theorem dX12_crowd_60 : decode cX12_crowd 60 = .ok (.ireturn, 1) := by decide +kernel
theorem dX12_crowd_61 : decode cX12_crowd 61 = .ok (.aload_n 0, 1) := by decide +kernel
theorem dX12_crowd_62 : decode cX12_crowd 62 = .ok (.getfield 132, 3) := by decide +kernel
theorem dX12_crowd_65 : decode cX12_crowd 65 = .ok (.aload_n 0, 1) := by decide +kernel
theorem dX12_crowd_66 : decode cX12_crowd 66 = .ok (.getfield 236, 3) := by decide +kernel
theorem dX12_crowd_69 : decode cX12_crowd 69 = .ok (.iload_n 1, 1) := by decide +kernel
theorem dX12_crowd_70 : decode cX12_crowd 70 = .ok (.iastore, 1) := by decide +kernel
theorem dX12_crowd_71 : decode cX12_crowd 71 = .ok (.aload_n 0, 1) := by decide +kernel
theorem dX12_crowd_72 : decode cX12_crowd 72 = .ok (.getfield 135, 3) := by decide +kernel
theorem dX12_crowd_75 : decode cX12_crowd 75 = .ok (.aload_n 0, 1) := by decide +kernel
theorem dX12_crowd_76 : decode cX12_crowd 76 = .ok (.getfield 236, 3) := by decide +kernel
theorem dX12_crowd_79 : decode cX12_crowd 79 = .ok (.iload_n 2, 1) := by decide +kernel
theorem dX12_crowd_80 : decode cX12_crowd 80 = .ok (.iastore, 1) := by decide +kernel
theorem dX12_crowd_81 : decode cX12_crowd 81 = .ok (.aload_n 0, 1) := by decide +kernel
theorem dX12_crowd_82 : decode cX12_crowd 82 = .ok (.getfield 138, 3) := by decide +kernel
theorem dX12_crowd_85 : decode cX12_crowd 85 = .ok (.aload_n 0, 1) := by decide +kernel
theorem dX12_crowd_86 : decode cX12_crowd 86 = .ok (.getfield 236, 3) := by decide +kernel
theorem dX12_crowd_89 : decode cX12_crowd 89 = .ok (.iload_n 3, 1) := by decide +kernel
theorem dX12_crowd_90 : decode cX12_crowd 90 = .ok (.iastore, 1) := by decide +kernel
theorem dX12_crowd_91 : decode cX12_crowd 91 = .ok (.aload_n 0, 1) := by decide +kernel
theorem dX12_crowd_92 : decode cX12_crowd 92 = .ok (.getfield 141, 3) := by decide +kernel
theorem dX12_crowd_95 : decode cX12_crowd 95 = .ok (.aload_n 0, 1) := by decide +kernel
theorem dX12_crowd_96 : decode cX12_crowd 96 = .ok (.getfield 236, 3) := by decide +kernel
theorem dX12_crowd_99 : decode cX12_crowd 99 = .ok (.iload 4, 2) := by decide +kernel
theorem dX12_crowd_101 : decode cX12_crowd 101 = .ok (.iastore, 1) := by decide +kernel
theorem dX12_crowd_102 : decode cX12_crowd 102 = .ok (.aload_n 0, 1) := by decide +kernel
theorem dX12_crowd_103 : decode cX12_crowd 103 = .ok (.getfield 144, 3) := by decide +kernel
theorem dX12_crowd_106 : decode cX12_crowd 106 = .ok (.aload_n 0, 1) := by decide +kernel
theorem dX12_crowd_107 : decode cX12_crowd 107 = .ok (.getfield 236, 3) := by decide +kernel
theorem dX12_crowd_110 : decode cX12_crowd 110 = .ok (.iload 5, 2) := by decide +kernel
theorem dX12_crowd_112 : decode cX12_crowd 112 = .ok (.iastore, 1) := by decide +kernel
theorem dX12_crowd_113 : decode cX12_crowd 113 = .ok (.aload_n 0, 1) := by decide +kernel
theorem dX12_crowd_114 : decode cX12_crowd 114 = .ok (.dup, 1) := by decide +kernel
theorem dX12_crowd_115 : decode cX12_crowd 115 = .ok (.getfield 236, 3) := by decide +kernel
theorem dX12_crowd_118 : decode cX12_crowd 118 = .ok (.iconst 1, 1) := by decide +kernel
theorem dX12_crowd_119 : decode cX12_crowd 119 = .ok (.iadd, 1) := by decide +kernel
theorem dX12_crowd_120 : decode cX12_crowd 120 = .ok (.putfield 236, 3) := by decide +kernel
theorem dX12_crowd_123 : decode cX12_crowd 123 = .ok (.aload_n 0, 1) := by decide +kernel
theorem dX12_crowd_124 : decode cX12_crowd 124 = .ok (.getfield 236, 3) := by decide +kernel
theorem dX12_crowd_127 : decode cX12_crowd 127 = .ok (.iconst 1, 1) := by decide +kernel
theorem dX12_crowd_128 : decode cX12_crowd 128 = .ok (.isub, 1) := by decide +kernel
theorem dX12_crowd_129 : decode cX12_crowd 129 = .ok (.ireturn, 1) := by decide +kernel
theorem dX12_worthOf_0 : decode cX12_worthOf 0 = .ok (.aload_n 0, 1) := by decide +kernel
theorem dX12_worthOf_1 : decode cX12_worthOf 1 = .ok (.iload_n 2, 1) := by decide +kernel
theorem dX12_worthOf_2 : decode cX12_worthOf 2 = .ok (.invokevirtual 274, 3) := by decide +kernel
theorem dX12_worthOf_5 : decode cX12_worthOf 5 = .ok (.istore_n 3, 1) := by decide +kernel
theorem dX12_worthOf_6 : decode cX12_worthOf 6 = .ok (.iload_n 3, 1) := by decide +kernel
theorem dX12_worthOf_7 : decode cX12_worthOf 7 = .ok (.iconst (-1), 1) := by decide +kernel
theorem dX12_worthOf_8 : decode cX12_worthOf 8 = .ok (.if_icmp .eq 42, 3) := by decide +kernel
theorem dX12_worthOf_11 : decode cX12_worthOf 11 = .ok (.aload_n 0, 1) := by decide +kernel
theorem dX12_worthOf_12 : decode cX12_worthOf 12 = .ok (.getfield 49, 3) := by decide +kernel
theorem dX12_worthOf_15 : decode cX12_worthOf 15 = .ok (.iload_n 2, 1) := by decide +kernel
theorem dX12_worthOf_16 : decode cX12_worthOf 16 = .ok (.iaload, 1) := by decide +kernel
theorem dX12_worthOf_17 : decode cX12_worthOf 17 = .ok (.aload_n 0, 1) := by decide +kernel
theorem dX12_worthOf_18 : decode cX12_worthOf 18 = .ok (.getfield 132, 3) := by decide +kernel
theorem dX12_worthOf_21 : decode cX12_worthOf 21 = .ok (.iload_n 1, 1) := by decide +kernel
theorem dX12_worthOf_22 : decode cX12_worthOf 22 = .ok (.iaload, 1) := by decide +kernel
theorem dX12_worthOf_23 : decode cX12_worthOf 23 = .ok (.if_icmp .ne 27, 3) := by decide +kernel
theorem dX12_worthOf_26 : decode cX12_worthOf 26 = .ok (.aload_n 0, 1) := by decide +kernel
theorem dX12_worthOf_27 : decode cX12_worthOf 27 = .ok (.getfield 55, 3) := by decide +kernel
theorem dX12_worthOf_30 : decode cX12_worthOf 30 = .ok (.iload_n 2, 1) := by decide +kernel
theorem dX12_worthOf_31 : decode cX12_worthOf 31 = .ok (.iaload, 1) := by decide +kernel
theorem dX12_worthOf_32 : decode cX12_worthOf 32 = .ok (.aload_n 0, 1) := by decide +kernel
theorem dX12_worthOf_33 : decode cX12_worthOf 33 = .ok (.getfield 144, 3) := by decide +kernel
theorem dX12_worthOf_36 : decode cX12_worthOf 36 = .ok (.iload_n 1, 1) := by decide +kernel
theorem dX12_worthOf_37 : decode cX12_worthOf 37 = .ok (.iaload, 1) := by decide +kernel
theorem dX12_worthOf_38 : decode cX12_worthOf 38 = .ok (.if_icmp .gt 12, 3) := by decide +kernel
theorem dX12_worthOf_41 : decode cX12_worthOf 41 = .ok (.aload_n 0, 1) := by decide +kernel
theorem dX12_worthOf_42 : decode cX12_worthOf 42 = .ok (.iload_n 3, 1) := by decide +kernel
theorem dX12_worthOf_43 : decode cX12_worthOf 43 = .ok (.iload_n 2, 1) := by decide +kernel
theorem dX12_worthOf_44 : decode cX12_worthOf 44 = .ok (.invokevirtual 426, 3) := by decide +kernel
theorem dX12_worthOf_47 : decode cX12_worthOf 47 = .ok (.ifCond .eq 6, 3) := by decide +kernel
theorem dX12_worthOf_50 : decode cX12_worthOf 50 = .ok (.bipush (-99), 2) := by decide +kernel
theorem dX12_worthOf_52 : decode cX12_worthOf 52 = .ok (.ireturn, 1) := by decide +kernel
theorem dX12_worthOf_53 : decode cX12_worthOf 53 = .ok (.aload_n 0, 1) := by decide +kernel
theorem dX12_worthOf_54 : decode cX12_worthOf 54 = .ok (.getfield 25, 3) := by decide +kernel
theorem dX12_worthOf_57 : decode cX12_worthOf 57 = .ok (.iload_n 3, 1) := by decide +kernel
theorem dX12_worthOf_58 : decode cX12_worthOf 58 = .ok (.iaload, 1) := by decide +kernel
theorem dX12_worthOf_59 : decode cX12_worthOf 59 = .ok (.istore 4, 2) := by decide +kernel
theorem dX12_worthOf_61 : decode cX12_worthOf 61 = .ok (.aload_n 0, 1) := by decide +kernel
theorem dX12_worthOf_62 : decode cX12_worthOf 62 = .ok (.getfield 13, 3) := by decide +kernel
theorem dX12_worthOf_65 : decode cX12_worthOf 65 = .ok (.iload 4, 2) := by decide +kernel
theorem dX12_worthOf_67 : decode cX12_worthOf 67 = .ok (.iaload, 1) := by decide +kernel
theorem dX12_worthOf_68 : decode cX12_worthOf 68 = .ok (.aload_n 0, 1) := by decide +kernel
theorem dX12_worthOf_69 : decode cX12_worthOf 69 = .ok (.getfield 135, 3) := by decide +kernel
theorem dX12_worthOf_72 : decode cX12_worthOf 72 = .ok (.iload_n 1, 1) := by decide +kernel
theorem dX12_worthOf_73 : decode cX12_worthOf 73 = .ok (.iaload, 1) := by decide +kernel
theorem dX12_worthOf_74 : decode cX12_worthOf 74 = .ok (.if_icmp .ne 7, 3) := by decide +kernel
theorem dX12_worthOf_77 : decode cX12_worthOf 77 = .ok (.iconst 4, 1) := by decide +kernel
theorem dX12_worthOf_78 : decode cX12_worthOf 78 = .ok (.goto 19, 3) := by decide +kernel
theorem dX12_worthOf_81 : decode cX12_worthOf 81 = .ok (.aload_n 0, 1) := by decide +kernel
theorem dX12_worthOf_82 : decode cX12_worthOf 82 = .ok (.getfield 13, 3) := by decide +kernel
theorem dX12_worthOf_85 : decode cX12_worthOf 85 = .ok (.iload 4, 2) := by decide +kernel
theorem dX12_worthOf_87 : decode cX12_worthOf 87 = .ok (.iaload, 1) := by decide +kernel
theorem dX12_worthOf_88 : decode cX12_worthOf 88 = .ok (.iconst 5, 1) := by decide +kernel
theorem dX12_worthOf_89 : decode cX12_worthOf 89 = .ok (.if_icmp .ne 7, 3) := by decide +kernel
theorem dX12_worthOf_92 : decode cX12_worthOf 92 = .ok (.iconst 2, 1) := by decide +kernel
theorem dX12_worthOf_93 : decode cX12_worthOf 93 = .ok (.goto 4, 3) := by decide +kernel
theorem dX12_worthOf_96 : decode cX12_worthOf 96 = .ok (.iconst 0, 1) := by decide +kernel
theorem dX12_worthOf_97 : decode cX12_worthOf 97 = .ok (.istore 5, 2) := by decide +kernel
theorem dX12_worthOf_99 : decode cX12_worthOf 99 = .ok (.iload 5, 2) := by decide +kernel
theorem dX12_worthOf_101 : decode cX12_worthOf 101 = .ok (.aload_n 0, 1) := by decide +kernel
theorem dX12_worthOf_102 : decode cX12_worthOf 102 = .ok (.getfield 16, 3) := by decide +kernel
theorem dX12_worthOf_105 : decode cX12_worthOf 105 = .ok (.iload 4, 2) := by decide +kernel
theorem dX12_worthOf_107 : decode cX12_worthOf 107 = .ok (.iaload, 1) := by decide +kernel
theorem dX12_worthOf_108 : decode cX12_worthOf 108 = .ok (.aload_n 0, 1) := by decide +kernel
theorem dX12_worthOf_109 : decode cX12_worthOf 109 = .ok (.getfield 138, 3) := by decide +kernel
theorem dX12_worthOf_112 : decode cX12_worthOf 112 = .ok (.iload_n 1, 1) := by decide +kernel
theorem dX12_worthOf_113 : decode cX12_worthOf 113 = .ok (.iaload, 1) := by decide +kernel
theorem dX12_worthOf_114 : decode cX12_worthOf 114 = .ok (.if_icmp .ne 7, 3) := by decide +kernel
theorem dX12_worthOf_117 : decode cX12_worthOf 117 = .ok (.iconst 3, 1) := by decide +kernel
theorem dX12_worthOf_118 : decode cX12_worthOf 118 = .ok (.goto 4, 3) := by decide +kernel
theorem dX12_worthOf_121 : decode cX12_worthOf 121 = .ok (.iconst 0, 1) := by decide +kernel
theorem dX12_worthOf_122 : decode cX12_worthOf 122 = .ok (.iadd, 1) := by decide +kernel
theorem dX12_worthOf_123 : decode cX12_worthOf 123 = .ok (.aload_n 0, 1) := by decide +kernel
theorem dX12_worthOf_124 : decode cX12_worthOf 124 = .ok (.getfield 147, 3) := by decide +kernel
theorem dX12_worthOf_127 : decode cX12_worthOf 127 = .ok (.bipush 12, 2) := by decide +kernel
theorem dX12_worthOf_129 : decode cX12_worthOf 129 = .ok (.iload_n 1, 1) := by decide +kernel
theorem dX12_worthOf_130 : decode cX12_worthOf 130 = .ok (.imul, 1) := by decide +kernel
theorem dX12_worthOf_131 : decode cX12_worthOf 131 = .ok (.iload 4, 2) := by decide +kernel
theorem dX12_worthOf_133 : decode cX12_worthOf 133 = .ok (.iadd, 1) := by decide +kernel
theorem dX12_worthOf_134 : decode cX12_worthOf 134 = .ok (.iaload, 1) := by decide +kernel
theorem dX12_worthOf_135 : decode cX12_worthOf 135 = .ok (.iadd, 1) := by decide +kernel
theorem dX12_worthOf_136 : decode cX12_worthOf 136 = .ok (.aload_n 0, 1) := by decide +kernel
theorem dX12_worthOf_137 : decode cX12_worthOf 137 = .ok (.iload_n 3, 1) := by decide +kernel
theorem dX12_worthOf_138 : decode cX12_worthOf 138 = .ok (.aload_n 0, 1) := by decide +kernel
theorem dX12_worthOf_139 : decode cX12_worthOf 139 = .ok (.getfield 253, 3) := by decide +kernel
theorem dX12_worthOf_142 : decode cX12_worthOf 142 = .ok (.invokevirtual 260, 3) := by decide +kernel
theorem dX12_worthOf_145 : decode cX12_worthOf 145 = .ok (.iconst (-1), 1) := by decide +kernel
theorem dX12_worthOf_146 : decode cX12_worthOf 146 = .ok (.if_icmp .ne 7, 3) := by decide +kernel
theorem dX12_worthOf_149 : decode cX12_worthOf 149 = .ok (.iconst 0, 1) := by decide +kernel
theorem dX12_worthOf_150 : decode cX12_worthOf 150 = .ok (.goto 4, 3) := by decide +kernel
theorem dX12_worthOf_153 : decode cX12_worthOf 153 = .ok (.iconst 4, 1) := by decide +kernel
theorem dX12_worthOf_154 : decode cX12_worthOf 154 = .ok (.isub, 1) := by decide +kernel
theorem dX12_worthOf_155 : decode cX12_worthOf 155 = .ok (.ireturn, 1) := by decide +kernel
theorem dX12_worth_0 : decode cX12_worth 0 = .ok (.aload_n 0, 1) := by decide +kernel
theorem dX12_worth_1 : decode cX12_worth 1 = .ok (.iload_n 1, 1) := by decide +kernel
theorem dX12_worth_2 : decode cX12_worth 2 = .ok (.invokevirtual 429, 3) := by decide +kernel
theorem dX12_worth_5 : decode cX12_worth 5 = .ok (.ifCond .eq 20, 3) := by decide +kernel
theorem dX12_worth_8 : decode cX12_worth 8 = .ok (.aload_n 0, 1) := by decide +kernel
theorem dX12_worth_9 : decode cX12_worth 9 = .ok (.iload_n 2, 1) := by decide +kernel
theorem dX12_worth_10 : decode cX12_worth 10 = .ok (.invokevirtual 264, 3) := by decide +kernel
theorem dX12_worth_13 : decode cX12_worth 13 = .ok (.ifCond .eq 12, 3) := by decide +kernel
theorem dX12_worth_16 : decode cX12_worth 16 = .ok (.aload_n 0, 1) := by decide +kernel
theorem dX12_worth_17 : decode cX12_worth 17 = .ok (.iload_n 1, 1) := by decide +kernel
theorem dX12_worth_18 : decode cX12_worth 18 = .ok (.iload_n 2, 1) := by decide +kernel
theorem dX12_worth_19 : decode cX12_worth 19 = .ok (.invokevirtual 432, 3) := by decide +kernel
theorem dX12_worth_22 : decode cX12_worth 22 = .ok (.goto 5, 3) := by decide +kernel
theorem dX12_worth_25 : decode cX12_worth 25 = .ok (.bipush (-99), 2) := by decide +kernel
theorem dX12_worth_27 : decode cX12_worth 27 = .ok (.ireturn, 1) := by decide +kernel
theorem dX12_heard_0 : decode cX12_heard 0 = .ok (.aload_n 0, 1) := by decide +kernel
theorem dX12_heard_1 : decode cX12_heard 1 = .ok (.iload_n 1, 1) := by decide +kernel
theorem dX12_heard_2 : decode cX12_heard 2 = .ok (.invokevirtual 429, 3) := by decide +kernel
theorem dX12_heard_5 : decode cX12_heard 5 = .ok (.ifCond .eq 25, 3) := by decide +kernel
theorem dX12_heard_8 : decode cX12_heard 8 = .ok (.aload_n 0, 1) := by decide +kernel
theorem dX12_heard_9 : decode cX12_heard 9 = .ok (.iload_n 2, 1) := by decide +kernel
theorem dX12_heard_10 : decode cX12_heard 10 = .ok (.invokevirtual 239, 3) := by decide +kernel
theorem dX12_heard_13 : decode cX12_heard 13 = .ok (.ifCond .eq 17, 3) := by decide +kernel
theorem dX12_heard_16 : decode cX12_heard 16 = .ok (.aload_n 0, 1) := by decide +kernel
theorem dX12_heard_17 : decode cX12_heard 17 = .ok (.getfield 147, 3) := by decide +kernel
theorem dX12_heard_20 : decode cX12_heard 20 = .ok (.bipush 12, 2) := by decide +kernel
theorem dX12_heard_22 : decode cX12_heard 22 = .ok (.iload_n 1, 1) := by decide +kernel
theorem dX12_heard_23 : decode cX12_heard 23 = .ok (.imul, 1) := by decide +kernel
theorem dX12_heard_24 : decode cX12_heard 24 = .ok (.iload_n 2, 1) := by decide +kernel
theorem dX12_heard_25 : decode cX12_heard 25 = .ok (.iadd, 1) := by decide +kernel
theorem dX12_heard_26 : decode cX12_heard 26 = .ok (.iaload, 1) := by decide +kernel
theorem dX12_heard_27 : decode cX12_heard 27 = .ok (.goto 5, 3) := by decide +kernel
theorem dX12_heard_30 : decode cX12_heard 30 = .ok (.bipush (-99), 2) := by decide +kernel
theorem dX12_heard_32 : decode cX12_heard 32 = .ok (.ireturn, 1) := by decide +kernel
theorem dX12_choice_0 : decode cX12_choice 0 = .ok (.iconst (-1), 1) := by decide +kernel
theorem dX12_choice_1 : decode cX12_choice 1 = .ok (.istore_n 2, 1) := by decide +kernel
theorem dX12_choice_2 : decode cX12_choice 2 = .ok (.iconst 0, 1) := by decide +kernel
theorem dX12_choice_3 : decode cX12_choice 3 = .ok (.istore_n 3, 1) := by decide +kernel
theorem dX12_choice_4 : decode cX12_choice 4 = .ok (.iload_n 3, 1) := by decide +kernel
theorem dX12_choice_5 : decode cX12_choice 5 = .ok (.aload_n 0, 1) := by decide +kernel
theorem dX12_choice_6 : decode cX12_choice 6 = .ok (.getfield 230, 3) := by decide +kernel
theorem dX12_choice_9 : decode cX12_choice 9 = .ok (.if_icmp .ge 92, 3) := by decide +kernel
theorem dX12_choice_12 : decode cX12_choice 12 = .ok (.aload_n 0, 1) := by decide +kernel
theorem dX12_choice_13 : decode cX12_choice 13 = .ok (.getfield 153, 3) := by decide +kernel
theorem dX12_choice_16 : decode cX12_choice 16 = .ok (.bipush 16, 2) := by decide +kernel
theorem dX12_choice_18 : decode cX12_choice 18 = .ok (.iload_n 1, 1) := by decide +kernel
theorem dX12_choice_19 : decode cX12_choice 19 = .ok (.imul, 1) := by decide +kernel
theorem dX12_choice_20 : decode cX12_choice 20 = .ok (.iload_n 3, 1) := by decide +kernel
theorem dX12_choice_21 : decode cX12_choice 21 = .ok (.iadd, 1) := by decide +kernel
theorem dX12_choice_22 : decode cX12_choice 22 = .ok (.iaload, 1) := by decide +kernel
theorem dX12_choice_23 : decode cX12_choice 23 = .ok (.istore 4, 2) := by decide +kernel
theorem dX12_choice_25 : decode cX12_choice 25 = .ok (.iload 4, 2) := by decide +kernel
theorem dX12_choice_27 : decode cX12_choice 27 = .ok (.ifCond .le 68, 3) := by decide +kernel
theorem dX12_choice_30 : decode cX12_choice 30 = .ok (.aload_n 0, 1) := by decide +kernel
theorem dX12_choice_31 : decode cX12_choice 31 = .ok (.getfield 150, 3) := by decide +kernel
theorem dX12_choice_34 : decode cX12_choice 34 = .ok (.iload_n 3, 1) := by decide +kernel
theorem dX12_choice_35 : decode cX12_choice 35 = .ok (.iaload, 1) := by decide +kernel
theorem dX12_choice_36 : decode cX12_choice 36 = .ok (.ifCond .ne 6, 3) := by decide +kernel
theorem dX12_choice_39 : decode cX12_choice 39 = .ok (.goto 56, 3) := by decide +kernel
theorem dX12_choice_42 : decode cX12_choice 42 = .ok (.iload_n 2, 1) := by decide +kernel
theorem dX12_choice_43 : decode cX12_choice 43 = .ok (.iconst (-1), 1) := by decide +kernel
theorem dX12_choice_44 : decode cX12_choice 44 = .ok (.if_icmp .ne 7, 3) := by decide +kernel
theorem dX12_choice_47 : decode cX12_choice 47 = .ok (.iconst 0, 1) := by decide +kernel
theorem dX12_choice_48 : decode cX12_choice 48 = .ok (.goto 14, 3) := by decide +kernel
theorem dX12_choice_51 : decode cX12_choice 51 = .ok (.aload_n 0, 1) := by decide +kernel
theorem dX12_choice_52 : decode cX12_choice 52 = .ok (.getfield 153, 3) := by decide +kernel
theorem dX12_choice_55 : decode cX12_choice 55 = .ok (.bipush 16, 2) := by decide +kernel
theorem dX12_choice_57 : decode cX12_choice 57 = .ok (.iload_n 1, 1) := by decide +kernel
theorem dX12_choice_58 : decode cX12_choice 58 = .ok (.imul, 1) := by decide +kernel
theorem dX12_choice_59 : decode cX12_choice 59 = .ok (.iload_n 2, 1) := by decide +kernel
theorem dX12_choice_60 : decode cX12_choice 60 = .ok (.iadd, 1) := by decide +kernel
theorem dX12_choice_61 : decode cX12_choice 61 = .ok (.iaload, 1) := by decide +kernel
theorem dX12_choice_62 : decode cX12_choice 62 = .ok (.istore 5, 2) := by decide +kernel
theorem dX12_choice_64 : decode cX12_choice 64 = .ok (.iload 4, 2) := by decide +kernel
theorem dX12_choice_66 : decode cX12_choice 66 = .ok (.iload 5, 2) := by decide +kernel
theorem dX12_choice_68 : decode cX12_choice 68 = .ok (.if_icmp .gt 25, 3) := by decide +kernel
theorem dX12_choice_71 : decode cX12_choice 71 = .ok (.iload 4, 2) := by decide +kernel
theorem dX12_choice_73 : decode cX12_choice 73 = .ok (.iload 5, 2) := by decide +kernel
theorem dX12_choice_75 : decode cX12_choice 75 = .ok (.if_icmp .ne 20, 3) := by decide +kernel
theorem dX12_choice_78 : decode cX12_choice 78 = .ok (.aload_n 0, 1) := by decide +kernel
theorem dX12_choice_79 : decode cX12_choice 79 = .ok (.getfield 55, 3) := by decide +kernel
theorem dX12_choice_82 : decode cX12_choice 82 = .ok (.iload_n 3, 1) := by decide +kernel
theorem dX12_choice_83 : decode cX12_choice 83 = .ok (.iaload, 1) := by decide +kernel
theorem dX12_choice_84 : decode cX12_choice 84 = .ok (.aload_n 0, 1) := by decide +kernel
theorem dX12_choice_85 : decode cX12_choice 85 = .ok (.getfield 55, 3) := by decide +kernel
theorem dX12_choice_88 : decode cX12_choice 88 = .ok (.iload_n 2, 1) := by decide +kernel
theorem dX12_choice_89 : decode cX12_choice 89 = .ok (.iaload, 1) := by decide +kernel
theorem dX12_choice_90 : decode cX12_choice 90 = .ok (.if_icmp .ge 5, 3) := by decide +kernel
theorem dX12_choice_93 : decode cX12_choice 93 = .ok (.iload_n 3, 1) := by decide +kernel
theorem dX12_choice_94 : decode cX12_choice 94 = .ok (.istore_n 2, 1) := by decide +kernel
theorem dX12_choice_95 : decode cX12_choice 95 = .ok (.iinc 3 1, 3) := by decide +kernel
theorem dX12_choice_98 : decode cX12_choice 98 = .ok (.goto (-94), 3) := by decide +kernel
theorem dX12_choice_101 : decode cX12_choice 101 = .ok (.iload_n 2, 1) := by decide +kernel
theorem dX12_choice_102 : decode cX12_choice 102 = .ok (.ireturn, 1) := by decide +kernel
theorem dX12_goes_0 : decode cX12_goes 0 = .ok (.aload_n 0, 1) := by decide +kernel
theorem dX12_goes_1 : decode cX12_goes 1 = .ok (.iconst 0, 1) := by decide +kernel
theorem dX12_goes_2 : decode cX12_goes 2 = .ok (.putfield 435, 3) := by decide +kernel
theorem dX12_goes_5 : decode cX12_goes 5 = .ok (.iconst 0, 1) := by decide +kernel
theorem dX12_goes_6 : decode cX12_goes 6 = .ok (.istore_n 1, 1) := by decide +kernel
theorem dX12_goes_7 : decode cX12_goes 7 = .ok (.iload_n 1, 1) := by decide +kernel
theorem dX12_goes_8 : decode cX12_goes 8 = .ok (.aload_n 0, 1) := by decide +kernel
theorem dX12_goes_9 : decode cX12_goes 9 = .ok (.getfield 230, 3) := by decide +kernel
theorem dX12_goes_12 : decode cX12_goes 12 = .ok (.if_icmp .ge 31, 3) := by decide +kernel
theorem dX12_goes_15 : decode cX12_goes 15 = .ok (.aload_n 0, 1) := by decide +kernel
theorem dX12_goes_16 : decode cX12_goes 16 = .ok (.getfield 150, 3) := by decide +kernel
theorem dX12_goes_19 : decode cX12_goes 19 = .ok (.iload_n 1, 1) := by decide +kernel
theorem dX12_goes_20 : decode cX12_goes 20 = .ok (.bipush 7, 2) := by decide +kernel
theorem dX12_goes_22 : decode cX12_goes 22 = .ok (.aload_n 0, 1) := by decide +kernel
theorem dX12_goes_23 : decode cX12_goes 23 = .ok (.getfield 52, 3) := by decide +kernel
theorem dX12_goes_26 : decode cX12_goes 26 = .ok (.iload_n 1, 1) := by decide +kernel
theorem dX12_goes_27 : decode cX12_goes 27 = .ok (.iaload, 1) := by decide +kernel
theorem dX12_goes_28 : decode cX12_goes 28 = .ok (.imul, 1) := by decide +kernel
theorem dX12_goes_29 : decode cX12_goes 29 = .ok (.iastore, 1) := by decide +kernel
theorem dX12_goes_30 : decode cX12_goes 30 = .ok (.aload_n 0, 1) := by decide +kernel
theorem dX12_goes_31 : decode cX12_goes 31 = .ok (.getfield 61, 3) := by decide +kernel
theorem dX12_goes_34 : decode cX12_goes 34 = .ok (.iload_n 1, 1) := by decide +kernel
theorem dX12_goes_35 : decode cX12_goes 35 = .ok (.iconst 0, 1) := by decide +kernel
theorem dX12_goes_36 : decode cX12_goes 36 = .ok (.iastore, 1) := by decide +kernel
theorem dX12_goes_37 : decode cX12_goes 37 = .ok (.iinc 1 1, 3) := by decide +kernel
theorem dX12_goes_40 : decode cX12_goes 40 = .ok (.goto (-33), 3) := by decide +kernel
theorem dX12_goes_43 : decode cX12_goes 43 = .ok (.iconst 0, 1) := by decide +kernel
theorem dX12_goes_44 : decode cX12_goes 44 = .ok (.istore_n 1, 1) := by decide +kernel
theorem dX12_goes_45 : decode cX12_goes 45 = .ok (.iload_n 1, 1) := by decide +kernel
theorem dX12_goes_46 : decode cX12_goes 46 = .ok (.aload_n 0, 1) := by decide +kernel
theorem dX12_goes_47 : decode cX12_goes 47 = .ok (.getfield 236, 3) := by decide +kernel
theorem dX12_goes_50 : decode cX12_goes 50 = .ok (.if_icmp .ge 123, 3) := by decide +kernel
theorem dX12_goes_53 : decode cX12_goes 53 = .ok (.aload_n 0, 1) := by decide +kernel
theorem dX12_goes_54 : decode cX12_goes 54 = .ok (.getfield 141, 3) := by decide +kernel
theorem dX12_goes_57 : decode cX12_goes 57 = .ok (.iload_n 1, 1) := by decide +kernel
theorem dX12_goes_58 : decode cX12_goes 58 = .ok (.iaload, 1) := by decide +kernel
theorem dX12_goes_59 : decode cX12_goes 59 = .ok (.istore_n 2, 1) := by decide +kernel
theorem dX12_goes_60 : decode cX12_goes 60 = .ok (.aload_n 0, 1) := by decide +kernel
theorem dX12_goes_61 : decode cX12_goes 61 = .ok (.iload_n 1, 1) := by decide +kernel
theorem dX12_goes_62 : decode cX12_goes 62 = .ok (.invokevirtual 438, 3) := by decide +kernel
theorem dX12_goes_65 : decode cX12_goes 65 = .ok (.istore_n 3, 1) := by decide +kernel
theorem dX12_goes_66 : decode cX12_goes 66 = .ok (.iload_n 2, 1) := by decide +kernel
theorem dX12_goes_67 : decode cX12_goes 67 = .ok (.ifCond .le 100, 3) := by decide +kernel
theorem dX12_goes_70 : decode cX12_goes 70 = .ok (.iload_n 3, 1) := by decide +kernel
theorem dX12_goes_71 : decode cX12_goes 71 = .ok (.iconst (-1), 1) := by decide +kernel
theorem dX12_goes_72 : decode cX12_goes 72 = .ok (.if_icmp .eq 95, 3) := by decide +kernel
theorem dX12_goes_75 : decode cX12_goes 75 = .ok (.iload_n 2, 1) := by decide +kernel
theorem dX12_goes_76 : decode cX12_goes 76 = .ok (.aload_n 0, 1) := by decide +kernel
theorem dX12_goes_77 : decode cX12_goes 77 = .ok (.getfield 150, 3) := by decide +kernel
theorem dX12_goes_80 : decode cX12_goes 80 = .ok (.iload_n 3, 1) := by decide +kernel
theorem dX12_goes_81 : decode cX12_goes 81 = .ok (.iaload, 1) := by decide +kernel
theorem dX12_goes_82 : decode cX12_goes 82 = .ok (.if_icmp .ge 7, 3) := by decide +kernel
theorem dX12_goes_85 : decode cX12_goes 85 = .ok (.iload_n 2, 1) := by decide +kernel
theorem dX12_goes_86 : decode cX12_goes 86 = .ok (.goto 9, 3) := by decide +kernel
theorem dX12_goes_89 : decode cX12_goes 89 = .ok (.aload_n 0, 1) := by decide +kernel
theorem dX12_goes_90 : decode cX12_goes 90 = .ok (.getfield 150, 3) := by decide +kernel
theorem dX12_goes_93 : decode cX12_goes 93 = .ok (.iload_n 3, 1) := by decide +kernel
theorem dX12_goes_94 : decode cX12_goes 94 = .ok (.iaload, 1) := by decide +kernel
theorem dX12_goes_95 : decode cX12_goes 95 = .ok (.istore 4, 2) := by decide +kernel
theorem dX12_goes_97 : decode cX12_goes 97 = .ok (.aload_n 0, 1) := by decide +kernel
theorem dX12_goes_98 : decode cX12_goes 98 = .ok (.getfield 150, 3) := by decide +kernel
theorem dX12_goes_101 : decode cX12_goes 101 = .ok (.iload_n 3, 1) := by decide +kernel
theorem dX12_goes_102 : decode cX12_goes 102 = .ok (.dup2, 1) := by decide +kernel
theorem dX12_goes_103 : decode cX12_goes 103 = .ok (.iaload, 1) := by decide +kernel
theorem dX12_goes_104 : decode cX12_goes 104 = .ok (.iload 4, 2) := by decide +kernel
theorem dX12_goes_106 : decode cX12_goes 106 = .ok (.isub, 1) := by decide +kernel
theorem dX12_goes_107 : decode cX12_goes 107 = .ok (.iastore, 1) := by decide +kernel
theorem dX12_goes_108 : decode cX12_goes 108 = .ok (.iload_n 2, 1) := by decide +kernel
theorem dX12_goes_109 : decode cX12_goes 109 = .ok (.iload 4, 2) := by decide +kernel
theorem dX12_goes_111 : decode cX12_goes 111 = .ok (.isub, 1) := by decide +kernel
theorem dX12_goes_112 : decode cX12_goes 112 = .ok (.istore_n 2, 1) := by decide +kernel
theorem dX12_goes_113 : decode cX12_goes 113 = .ok (.aload_n 0, 1) := by decide +kernel
theorem dX12_goes_114 : decode cX12_goes 114 = .ok (.getfield 61, 3) := by decide +kernel
theorem dX12_goes_117 : decode cX12_goes 117 = .ok (.iload_n 3, 1) := by decide +kernel
theorem dX12_goes_118 : decode cX12_goes 118 = .ok (.dup2, 1) := by decide +kernel
theorem dX12_goes_119 : decode cX12_goes 119 = .ok (.iaload, 1) := by decide +kernel
theorem dX12_goes_120 : decode cX12_goes 120 = .ok (.iload 4, 2) := by decide +kernel
theorem dX12_goes_122 : decode cX12_goes 122 = .ok (.iadd, 1) := by decide +kernel
theorem dX12_goes_123 : decode cX12_goes 123 = .ok (.iastore, 1) := by decide +kernel
theorem dX12_goes_124 : decode cX12_goes 124 = .ok (.aload_n 0, 1) := by decide +kernel
theorem dX12_goes_125 : decode cX12_goes 125 = .ok (.getfield 156, 3) := by decide +kernel
theorem dX12_goes_128 : decode cX12_goes 128 = .ok (.aload_n 0, 1) := by decide +kernel
theorem dX12_goes_129 : decode cX12_goes 129 = .ok (.getfield 435, 3) := by decide +kernel
theorem dX12_goes_132 : decode cX12_goes 132 = .ok (.iload_n 1, 1) := by decide +kernel
theorem dX12_goes_133 : decode cX12_goes 133 = .ok (.iastore, 1) := by decide +kernel
theorem dX12_goes_134 : decode cX12_goes 134 = .ok (.aload_n 0, 1) := by decide +kernel
theorem dX12_goes_135 : decode cX12_goes 135 = .ok (.getfield 159, 3) := by decide +kernel
theorem dX12_goes_138 : decode cX12_goes 138 = .ok (.aload_n 0, 1) := by decide +kernel
theorem dX12_goes_139 : decode cX12_goes 139 = .ok (.getfield 435, 3) := by decide +kernel
theorem dX12_goes_142 : decode cX12_goes 142 = .ok (.aload_n 0, 1) := by decide +kernel
theorem dX12_goes_143 : decode cX12_goes 143 = .ok (.iload_n 3, 1) := by decide +kernel
theorem dX12_goes_144 : decode cX12_goes 144 = .ok (.invokevirtual 274, 3) := by decide +kernel
theorem dX12_goes_147 : decode cX12_goes 147 = .ok (.iastore, 1) := by decide +kernel
theorem dX12_goes_148 : decode cX12_goes 148 = .ok (.aload_n 0, 1) := by decide +kernel
theorem dX12_goes_149 : decode cX12_goes 149 = .ok (.dup, 1) := by decide +kernel
theorem dX12_goes_150 : decode cX12_goes 150 = .ok (.getfield 435, 3) := by decide +kernel
theorem dX12_goes_153 : decode cX12_goes 153 = .ok (.iconst 1, 1) := by decide +kernel
theorem dX12_goes_154 : decode cX12_goes 154 = .ok (.iadd, 1) := by decide +kernel
theorem dX12_goes_155 : decode cX12_goes 155 = .ok (.putfield 435, 3) := by decide +kernel
theorem dX12_goes_158 : decode cX12_goes 158 = .ok (.aload_n 0, 1) := by decide +kernel
theorem dX12_goes_159 : decode cX12_goes 159 = .ok (.iload_n 1, 1) := by decide +kernel
theorem dX12_goes_160 : decode cX12_goes 160 = .ok (.invokevirtual 438, 3) := by decide +kernel
theorem dX12_goes_163 : decode cX12_goes 163 = .ok (.istore_n 3, 1) := by decide +kernel
theorem dX12_goes_164 : decode cX12_goes 164 = .ok (.goto (-98), 3) := by decide +kernel
theorem dX12_goes_167 : decode cX12_goes 167 = .ok (.iinc 1 1, 3) := by decide +kernel
theorem dX12_goes_170 : decode cX12_goes 170 = .ok (.goto (-125), 3) := by decide +kernel
theorem dX12_goes_173 : decode cX12_goes 173 = .ok (.return_, 1) := by decide +kernel
theorem dX12_week_0 : decode cX12_week 0 = .ok (.iconst 0, 1) := by decide +kernel
theorem dX12_week_1 : decode cX12_week 1 = .ok (.istore_n 1, 1) := by decide +kernel
theorem dX12_week_2 : decode cX12_week 2 = .ok (.iload_n 1, 1) := by decide +kernel
theorem dX12_week_3 : decode cX12_week 3 = .ok (.aload_n 0, 1) := by decide +kernel
theorem dX12_week_4 : decode cX12_week 4 = .ok (.getfield 236, 3) := by decide +kernel
theorem dX12_week_7 : decode cX12_week 7 = .ok (.if_icmp .ge 42, 3) := by decide +kernel
theorem dX12_week_10 : decode cX12_week 10 = .ok (.iconst 0, 1) := by decide +kernel
theorem dX12_week_11 : decode cX12_week 11 = .ok (.istore_n 2, 1) := by decide +kernel
theorem dX12_week_12 : decode cX12_week 12 = .ok (.iload_n 2, 1) := by decide +kernel
theorem dX12_week_13 : decode cX12_week 13 = .ok (.aload_n 0, 1) := by decide +kernel
theorem dX12_week_14 : decode cX12_week 14 = .ok (.getfield 230, 3) := by decide +kernel
theorem dX12_week_17 : decode cX12_week 17 = .ok (.if_icmp .ge 26, 3) := by decide +kernel
theorem dX12_week_20 : decode cX12_week 20 = .ok (.aload_n 0, 1) := by decide +kernel
theorem dX12_week_21 : decode cX12_week 21 = .ok (.getfield 153, 3) := by decide +kernel
theorem dX12_week_24 : decode cX12_week 24 = .ok (.bipush 16, 2) := by decide +kernel
theorem dX12_week_26 : decode cX12_week 26 = .ok (.iload_n 1, 1) := by decide +kernel
theorem dX12_week_27 : decode cX12_week 27 = .ok (.imul, 1) := by decide +kernel
theorem dX12_week_28 : decode cX12_week 28 = .ok (.iload_n 2, 1) := by decide +kernel
theorem dX12_week_29 : decode cX12_week 29 = .ok (.iadd, 1) := by decide +kernel
theorem dX12_week_30 : decode cX12_week 30 = .ok (.aload_n 0, 1) := by decide +kernel
theorem dX12_week_31 : decode cX12_week 31 = .ok (.iload_n 1, 1) := by decide +kernel
theorem dX12_week_32 : decode cX12_week 32 = .ok (.iload_n 2, 1) := by decide +kernel
theorem dX12_week_33 : decode cX12_week 33 = .ok (.invokevirtual 432, 3) := by decide +kernel
theorem dX12_week_36 : decode cX12_week 36 = .ok (.iastore, 1) := by decide +kernel
theorem dX12_week_37 : decode cX12_week 37 = .ok (.iinc 2 1, 3) := by decide +kernel
theorem dX12_week_40 : decode cX12_week 40 = .ok (.goto (-28), 3) := by decide +kernel
theorem dX12_week_43 : decode cX12_week 43 = .ok (.iinc 1 1, 3) := by decide +kernel
theorem dX12_week_46 : decode cX12_week 46 = .ok (.goto (-44), 3) := by decide +kernel
theorem dX12_week_49 : decode cX12_week 49 = .ok (.aload_n 0, 1) := by decide +kernel
theorem dX12_week_50 : decode cX12_week 50 = .ok (.invokevirtual 441, 3) := by decide +kernel
theorem dX12_week_53 : decode cX12_week 53 = .ok (.iconst 0, 1) := by decide +kernel
theorem dX12_week_54 : decode cX12_week 54 = .ok (.istore_n 1, 1) := by decide +kernel
theorem dX12_week_55 : decode cX12_week 55 = .ok (.iload_n 1, 1) := by decide +kernel
theorem dX12_week_56 : decode cX12_week 56 = .ok (.aload_n 0, 1) := by decide +kernel
theorem dX12_week_57 : decode cX12_week 57 = .ok (.getfield 230, 3) := by decide +kernel
theorem dX12_week_60 : decode cX12_week 60 = .ok (.if_icmp .ge 182, 3) := by decide +kernel
theorem dX12_week_63 : decode cX12_week 63 = .ok (.aload_n 0, 1) := by decide +kernel
theorem dX12_week_64 : decode cX12_week 64 = .ok (.iload_n 1, 1) := by decide +kernel
theorem dX12_week_65 : decode cX12_week 65 = .ok (.invokevirtual 274, 3) := by decide +kernel
theorem dX12_week_68 : decode cX12_week 68 = .ok (.istore_n 2, 1) := by decide +kernel
theorem dX12_week_69 : decode cX12_week 69 = .ok (.aload_n 0, 1) := by decide +kernel
theorem dX12_week_70 : decode cX12_week 70 = .ok (.iload_n 1, 1) := by decide +kernel
theorem dX12_week_71 : decode cX12_week 71 = .ok (.invokevirtual 270, 3) := by decide +kernel
theorem dX12_week_74 : decode cX12_week 74 = .ok (.istore_n 3, 1) := by decide +kernel
theorem dX12_week_75 : decode cX12_week 75 = .ok (.iload_n 2, 1) := by decide +kernel
theorem dX12_week_76 : decode cX12_week 76 = .ok (.iconst (-1), 1) := by decide +kernel
theorem dX12_week_77 : decode cX12_week 77 = .ok (.if_icmp .eq 16, 3) := by decide +kernel
theorem dX12_week_80 : decode cX12_week 80 = .ok (.aload_n 0, 1) := by decide +kernel
theorem dX12_week_81 : decode cX12_week 81 = .ok (.iload_n 2, 1) := by decide +kernel
theorem dX12_week_82 : decode cX12_week 82 = .ok (.iload_n 1, 1) := by decide +kernel
theorem dX12_week_83 : decode cX12_week 83 = .ok (.invokevirtual 426, 3) := by decide +kernel
theorem dX12_week_86 : decode cX12_week 86 = .ok (.ifCond .ne 7, 3) := by decide +kernel
theorem dX12_week_89 : decode cX12_week 89 = .ok (.iconst 1, 1) := by decide +kernel
theorem dX12_week_90 : decode cX12_week 90 = .ok (.goto 4, 3) := by decide +kernel
theorem dX12_week_93 : decode cX12_week 93 = .ok (.iconst 0, 1) := by decide +kernel
theorem dX12_week_94 : decode cX12_week 94 = .ok (.istore 4, 2) := by decide +kernel
theorem dX12_week_96 : decode cX12_week 96 = .ok (.aload_n 0, 1) := by decide +kernel
theorem dX12_week_97 : decode cX12_week 97 = .ok (.getfield 64, 3) := by decide +kernel
theorem dX12_week_100 : decode cX12_week 100 = .ok (.iload_n 1, 1) := by decide +kernel
theorem dX12_week_101 : decode cX12_week 101 = .ok (.aload_n 0, 1) := by decide +kernel
theorem dX12_week_102 : decode cX12_week 102 = .ok (.getfield 61, 3) := by decide +kernel
theorem dX12_week_105 : decode cX12_week 105 = .ok (.iload_n 1, 1) := by decide +kernel
theorem dX12_week_106 : decode cX12_week 106 = .ok (.iaload, 1) := by decide +kernel
theorem dX12_week_107 : decode cX12_week 107 = .ok (.aload_n 0, 1) := by decide +kernel
theorem dX12_week_108 : decode cX12_week 108 = .ok (.getfield 55, 3) := by decide +kernel
theorem dX12_week_111 : decode cX12_week 111 = .ok (.iload_n 1, 1) := by decide +kernel
theorem dX12_week_112 : decode cX12_week 112 = .ok (.iaload, 1) := by decide +kernel
theorem dX12_week_113 : decode cX12_week 113 = .ok (.imul, 1) := by decide +kernel
theorem dX12_week_114 : decode cX12_week 114 = .ok (.iastore, 1) := by decide +kernel
theorem dX12_week_115 : decode cX12_week 115 = .ok (.aload_n 0, 1) := by decide +kernel
theorem dX12_week_116 : decode cX12_week 116 = .ok (.getfield 77, 3) := by decide +kernel
theorem dX12_week_119 : decode cX12_week 119 = .ok (.iload_n 1, 1) := by decide +kernel
theorem dX12_week_120 : decode cX12_week 120 = .ok (.dup2, 1) := by decide +kernel
theorem dX12_week_121 : decode cX12_week 121 = .ok (.laload, 1) := by decide +kernel
theorem dX12_week_122 : decode cX12_week 122 = .ok (.aload_n 0, 1) := by decide +kernel
theorem dX12_week_123 : decode cX12_week 123 = .ok (.getfield 61, 3) := by decide +kernel
theorem dX12_week_126 : decode cX12_week 126 = .ok (.iload_n 1, 1) := by decide +kernel
theorem dX12_week_127 : decode cX12_week 127 = .ok (.iaload, 1) := by decide +kernel
theorem dX12_week_128 : decode cX12_week 128 = .ok (.i2l, 1) := by decide +kernel
theorem dX12_week_129 : decode cX12_week 129 = .ok (.ladd, 1) := by decide +kernel
theorem dX12_week_130 : decode cX12_week 130 = .ok (.lastore, 1) := by decide +kernel
theorem dX12_week_131 : decode cX12_week 131 = .ok (.iload 4, 2) := by decide +kernel
theorem dX12_week_133 : decode cX12_week 133 = .ok (.ifCond .eq 24, 3) := by decide +kernel
theorem dX12_week_136 : decode cX12_week 136 = .ok (.aload_n 0, 1) := by decide +kernel
theorem dX12_week_137 : decode cX12_week 137 = .ok (.getfield 73, 3) := by decide +kernel
theorem dX12_week_140 : decode cX12_week 140 = .ok (.iload_n 1, 1) := by decide +kernel
theorem dX12_week_141 : decode cX12_week 141 = .ok (.dup2, 1) := by decide +kernel
theorem dX12_week_142 : decode cX12_week 142 = .ok (.laload, 1) := by decide +kernel
theorem dX12_week_143 : decode cX12_week 143 = .ok (.aload_n 0, 1) := by decide +kernel
theorem dX12_week_144 : decode cX12_week 144 = .ok (.getfield 64, 3) := by decide +kernel
theorem dX12_week_147 : decode cX12_week 147 = .ok (.iload_n 1, 1) := by decide +kernel
theorem dX12_week_148 : decode cX12_week 148 = .ok (.iaload, 1) := by decide +kernel
theorem dX12_week_149 : decode cX12_week 149 = .ok (.aload_n 0, 1) := by decide +kernel
theorem dX12_week_150 : decode cX12_week 150 = .ok (.getfield 411, 3) := by decide +kernel
theorem dX12_week_153 : decode cX12_week 153 = .ok (.isub, 1) := by decide +kernel
theorem dX12_week_154 : decode cX12_week 154 = .ok (.i2l, 1) := by decide +kernel
theorem dX12_week_155 : decode cX12_week 155 = .ok (.ladd, 1) := by decide +kernel
theorem dX12_week_156 : decode cX12_week 156 = .ok (.lastore, 1) := by decide +kernel
theorem dX12_week_157 : decode cX12_week 157 = .ok (.aload_n 0, 1) := by decide +kernel
theorem dX12_week_158 : decode cX12_week 158 = .ok (.getfield 73, 3) := by decide +kernel
theorem dX12_week_161 : decode cX12_week 161 = .ok (.iload_n 1, 1) := by decide +kernel
theorem dX12_week_162 : decode cX12_week 162 = .ok (.dup2, 1) := by decide +kernel
theorem dX12_week_163 : decode cX12_week 163 = .ok (.laload, 1) := by decide +kernel
theorem dX12_week_164 : decode cX12_week 164 = .ok (.iload_n 3, 1) := by decide +kernel
theorem dX12_week_165 : decode cX12_week 165 = .ok (.iconst (-1), 1) := by decide +kernel
theorem dX12_week_166 : decode cX12_week 166 = .ok (.if_icmp .ne 7, 3) := by decide +kernel
theorem dX12_week_169 : decode cX12_week 169 = .ok (.iconst 0, 1) := by decide +kernel
theorem dX12_week_170 : decode cX12_week 170 = .ok (.goto 9, 3) := by decide +kernel
theorem dX12_week_173 : decode cX12_week 173 = .ok (.aload_n 0, 1) := by decide +kernel
theorem dX12_week_174 : decode cX12_week 174 = .ok (.getfield 86, 3) := by decide +kernel
theorem dX12_week_177 : decode cX12_week 177 = .ok (.iload_n 3, 1) := by decide +kernel
theorem dX12_week_178 : decode cX12_week 178 = .ok (.iaload, 1) := by decide +kernel
theorem dX12_week_179 : decode cX12_week 179 = .ok (.iconst 3, 1) := by decide +kernel
theorem dX12_week_180 : decode cX12_week 180 = .ok (.aload_n 0, 1) := by decide +kernel
theorem dX12_week_181 : decode cX12_week 181 = .ok (.getfield 58, 3) := by decide +kernel
theorem dX12_week_184 : decode cX12_week 184 = .ok (.iload_n 1, 1) := by decide +kernel
theorem dX12_week_185 : decode cX12_week 185 = .ok (.iaload, 1) := by decide +kernel
theorem dX12_week_186 : decode cX12_week 186 = .ok (.imul, 1) := by decide +kernel
theorem dX12_week_187 : decode cX12_week 187 = .ok (.iadd, 1) := by decide +kernel
theorem dX12_week_188 : decode cX12_week 188 = .ok (.iload_n 2, 1) := by decide +kernel
theorem dX12_week_189 : decode cX12_week 189 = .ok (.iconst (-1), 1) := by decide +kernel
theorem dX12_week_190 : decode cX12_week 190 = .ok (.if_icmp .eq 33, 3) := by decide +kernel
theorem dX12_week_193 : decode cX12_week 193 = .ok (.aload_n 0, 1) := by decide +kernel
theorem dX12_week_194 : decode cX12_week 194 = .ok (.getfield 414, 3) := by decide +kernel
theorem dX12_week_197 : decode cX12_week 197 = .ok (.aload_n 0, 1) := by decide +kernel
theorem dX12_week_198 : decode cX12_week 198 = .ok (.getfield 58, 3) := by decide +kernel
theorem dX12_week_201 : decode cX12_week 201 = .ok (.iload_n 1, 1) := by decide +kernel
theorem dX12_week_202 : decode cX12_week 202 = .ok (.iaload, 1) := by decide +kernel
theorem dX12_week_203 : decode cX12_week 203 = .ok (.if_icmp .le 20, 3) := by decide +kernel
theorem dX12_week_206 : decode cX12_week 206 = .ok (.bipush 9, 2) := by decide +kernel
theorem dX12_week_208 : decode cX12_week 208 = .ok (.aload_n 0, 1) := by decide +kernel
theorem dX12_week_209 : decode cX12_week 209 = .ok (.getfield 414, 3) := by decide +kernel
theorem dX12_week_212 : decode cX12_week 212 = .ok (.aload_n 0, 1) := by decide +kernel
theorem dX12_week_213 : decode cX12_week 213 = .ok (.getfield 58, 3) := by decide +kernel
theorem dX12_week_216 : decode cX12_week 216 = .ok (.iload_n 1, 1) := by decide +kernel
theorem dX12_week_217 : decode cX12_week 217 = .ok (.iaload, 1) := by decide +kernel
theorem dX12_week_218 : decode cX12_week 218 = .ok (.isub, 1) := by decide +kernel
theorem dX12_week_219 : decode cX12_week 219 = .ok (.imul, 1) := by decide +kernel
theorem dX12_week_220 : decode cX12_week 220 = .ok (.goto 4, 3) := by decide +kernel
theorem dX12_week_223 : decode cX12_week 223 = .ok (.iconst 0, 1) := by decide +kernel
theorem dX12_week_224 : decode cX12_week 224 = .ok (.iadd, 1) := by decide +kernel
theorem dX12_week_225 : decode cX12_week 225 = .ok (.i2l, 1) := by decide +kernel
theorem dX12_week_226 : decode cX12_week 226 = .ok (.lsub, 1) := by decide +kernel
theorem dX12_week_227 : decode cX12_week 227 = .ok (.lastore, 1) := by decide +kernel
theorem dX12_week_228 : decode cX12_week 228 = .ok (.aload_n 0, 1) := by decide +kernel
theorem dX12_week_229 : decode cX12_week 229 = .ok (.getfield 162, 3) := by decide +kernel
theorem dX12_week_232 : decode cX12_week 232 = .ok (.iload_n 1, 1) := by decide +kernel
theorem dX12_week_233 : decode cX12_week 233 = .ok (.iload 4, 2) := by decide +kernel
theorem dX12_week_235 : decode cX12_week 235 = .ok (.bastore, 1) := by decide +kernel
theorem dX12_week_236 : decode cX12_week 236 = .ok (.iinc 1 1, 3) := by decide +kernel
theorem dX12_week_239 : decode cX12_week 239 = .ok (.goto (-184), 3) := by decide +kernel
theorem dX12_week_242 : decode cX12_week 242 = .ok (.aload_n 0, 1) := by decide +kernel
theorem dX12_week_243 : decode cX12_week 243 = .ok (.invokevirtual 444, 3) := by decide +kernel
theorem dX12_week_246 : decode cX12_week 246 = .ok (.iconst 0, 1) := by decide +kernel
theorem dX12_week_247 : decode cX12_week 247 = .ok (.istore_n 1, 1) := by decide +kernel
theorem dX12_week_248 : decode cX12_week 248 = .ok (.iload_n 1, 1) := by decide +kernel
theorem dX12_week_249 : decode cX12_week 249 = .ok (.aload_n 0, 1) := by decide +kernel
theorem dX12_week_250 : decode cX12_week 250 = .ok (.getfield 230, 3) := by decide +kernel
theorem dX12_week_253 : decode cX12_week 253 = .ok (.if_icmp .ge 32, 3) := by decide +kernel
theorem dX12_week_256 : decode cX12_week 256 = .ok (.aload_n 0, 1) := by decide +kernel
theorem dX12_week_257 : decode cX12_week 257 = .ok (.getfield 162, 3) := by decide +kernel
theorem dX12_week_260 : decode cX12_week 260 = .ok (.iload_n 1, 1) := by decide +kernel
theorem dX12_week_261 : decode cX12_week 261 = .ok (.baload, 1) := by decide +kernel
theorem dX12_week_262 : decode cX12_week 262 = .ok (.ifCond .eq 17, 3) := by decide +kernel
theorem dX12_week_265 : decode cX12_week 265 = .ok (.aload_n 0, 1) := by decide +kernel
theorem dX12_week_266 : decode cX12_week 266 = .ok (.getfield 28, 3) := by decide +kernel
theorem dX12_week_269 : decode cX12_week 269 = .ok (.aload_n 0, 1) := by decide +kernel
theorem dX12_week_270 : decode cX12_week 270 = .ok (.iload_n 1, 1) := by decide +kernel
theorem dX12_week_271 : decode cX12_week 271 = .ok (.invokevirtual 274, 3) := by decide +kernel
theorem dX12_week_274 : decode cX12_week 274 = .ok (.dup2, 1) := by decide +kernel
theorem dX12_week_275 : decode cX12_week 275 = .ok (.iaload, 1) := by decide +kernel
theorem dX12_week_276 : decode cX12_week 276 = .ok (.iconst 1, 1) := by decide +kernel
theorem dX12_week_277 : decode cX12_week 277 = .ok (.iadd, 1) := by decide +kernel
theorem dX12_week_278 : decode cX12_week 278 = .ok (.iastore, 1) := by decide +kernel
theorem dX12_week_279 : decode cX12_week 279 = .ok (.iinc 1 1, 3) := by decide +kernel
theorem dX12_week_282 : decode cX12_week 282 = .ok (.goto (-34), 3) := by decide +kernel
theorem dX12_week_285 : decode cX12_week 285 = .ok (.aload_n 0, 1) := by decide +kernel
theorem dX12_week_286 : decode cX12_week 286 = .ok (.dup, 1) := by decide +kernel
theorem dX12_week_287 : decode cX12_week 287 = .ok (.getfield 253, 3) := by decide +kernel
theorem dX12_week_290 : decode cX12_week 290 = .ok (.iconst 1, 1) := by decide +kernel
theorem dX12_week_291 : decode cX12_week 291 = .ok (.iadd, 1) := by decide +kernel
theorem dX12_week_292 : decode cX12_week 292 = .ok (.putfield 253, 3) := by decide +kernel
theorem dX12_week_295 : decode cX12_week 295 = .ok (.return_, 1) := by decide +kernel
theorem dX12_words_0 : decode cX12_words 0 = .ok (.iconst 0, 1) := by decide +kernel
theorem dX12_words_1 : decode cX12_words 1 = .ok (.istore_n 1, 1) := by decide +kernel
theorem dX12_words_2 : decode cX12_words 2 = .ok (.iload_n 1, 1) := by decide +kernel
theorem dX12_words_3 : decode cX12_words 3 = .ok (.aload_n 0, 1) := by decide +kernel
theorem dX12_words_4 : decode cX12_words 4 = .ok (.getfield 435, 3) := by decide +kernel
theorem dX12_words_7 : decode cX12_words 7 = .ok (.if_icmp .ge 143, 3) := by decide +kernel
theorem dX12_words_10 : decode cX12_words 10 = .ok (.aload_n 0, 1) := by decide +kernel
theorem dX12_words_11 : decode cX12_words 11 = .ok (.getfield 156, 3) := by decide +kernel
theorem dX12_words_14 : decode cX12_words 14 = .ok (.iload_n 1, 1) := by decide +kernel
theorem dX12_words_15 : decode cX12_words 15 = .ok (.iaload, 1) := by decide +kernel
theorem dX12_words_16 : decode cX12_words 16 = .ok (.istore_n 2, 1) := by decide +kernel
theorem dX12_words_17 : decode cX12_words 17 = .ok (.aload_n 0, 1) := by decide +kernel
theorem dX12_words_18 : decode cX12_words 18 = .ok (.getfield 25, 3) := by decide +kernel
theorem dX12_words_21 : decode cX12_words 21 = .ok (.aload_n 0, 1) := by decide +kernel
theorem dX12_words_22 : decode cX12_words 22 = .ok (.getfield 159, 3) := by decide +kernel
theorem dX12_words_25 : decode cX12_words 25 = .ok (.iload_n 1, 1) := by decide +kernel
theorem dX12_words_26 : decode cX12_words 26 = .ok (.iaload, 1) := by decide +kernel
theorem dX12_words_27 : decode cX12_words 27 = .ok (.iaload, 1) := by decide +kernel
theorem dX12_words_28 : decode cX12_words 28 = .ok (.istore_n 3, 1) := by decide +kernel
theorem dX12_words_29 : decode cX12_words 29 = .ok (.aload_n 0, 1) := by decide +kernel
theorem dX12_words_30 : decode cX12_words 30 = .ok (.getfield 16, 3) := by decide +kernel
theorem dX12_words_33 : decode cX12_words 33 = .ok (.iload_n 3, 1) := by decide +kernel
theorem dX12_words_34 : decode cX12_words 34 = .ok (.iaload, 1) := by decide +kernel
theorem dX12_words_35 : decode cX12_words 35 = .ok (.aload_n 0, 1) := by decide +kernel
theorem dX12_words_36 : decode cX12_words 36 = .ok (.getfield 138, 3) := by decide +kernel
theorem dX12_words_39 : decode cX12_words 39 = .ok (.iload_n 2, 1) := by decide +kernel
theorem dX12_words_40 : decode cX12_words 40 = .ok (.iaload, 1) := by decide +kernel
theorem dX12_words_41 : decode cX12_words 41 = .ok (.if_icmp .ne 25, 3) := by decide +kernel
theorem dX12_words_44 : decode cX12_words 44 = .ok (.aload_n 0, 1) := by decide +kernel
theorem dX12_words_45 : decode cX12_words 45 = .ok (.aload_n 0, 1) := by decide +kernel
theorem dX12_words_46 : decode cX12_words 46 = .ok (.getfield 159, 3) := by decide +kernel
theorem dX12_words_49 : decode cX12_words 49 = .ok (.iload_n 1, 1) := by decide +kernel
theorem dX12_words_50 : decode cX12_words 50 = .ok (.iaload, 1) := by decide +kernel
theorem dX12_words_51 : decode cX12_words 51 = .ok (.aload_n 0, 1) := by decide +kernel
theorem dX12_words_52 : decode cX12_words 52 = .ok (.getfield 253, 3) := by decide +kernel
theorem dX12_words_55 : decode cX12_words 55 = .ok (.invokevirtual 260, 3) := by decide +kernel
theorem dX12_words_58 : decode cX12_words 58 = .ok (.iconst (-1), 1) := by decide +kernel
theorem dX12_words_59 : decode cX12_words 59 = .ok (.if_icmp .ne 7, 3) := by decide +kernel
theorem dX12_words_62 : decode cX12_words 62 = .ok (.iconst 1, 1) := by decide +kernel
theorem dX12_words_63 : decode cX12_words 63 = .ok (.goto 4, 3) := by decide +kernel
theorem dX12_words_66 : decode cX12_words 66 = .ok (.iconst (-1), 1) := by decide +kernel
theorem dX12_words_67 : decode cX12_words 67 = .ok (.istore 4, 2) := by decide +kernel
theorem dX12_words_69 : decode cX12_words 69 = .ok (.iconst 0, 1) := by decide +kernel
theorem dX12_words_70 : decode cX12_words 70 = .ok (.istore 5, 2) := by decide +kernel
theorem dX12_words_72 : decode cX12_words 72 = .ok (.iload 5, 2) := by decide +kernel
theorem dX12_words_74 : decode cX12_words 74 = .ok (.aload_n 0, 1) := by decide +kernel
theorem dX12_words_75 : decode cX12_words 75 = .ok (.getfield 236, 3) := by decide +kernel
theorem dX12_words_78 : decode cX12_words 78 = .ok (.if_icmp .ge 66, 3) := by decide +kernel
theorem dX12_words_81 : decode cX12_words 81 = .ok (.aload_n 0, 1) := by decide +kernel
theorem dX12_words_82 : decode cX12_words 82 = .ok (.getfield 135, 3) := by decide +kernel
theorem dX12_words_85 : decode cX12_words 85 = .ok (.iload 5, 2) := by decide +kernel
theorem dX12_words_87 : decode cX12_words 87 = .ok (.iaload, 1) := by decide +kernel
theorem dX12_words_88 : decode cX12_words 88 = .ok (.aload_n 0, 1) := by decide +kernel
theorem dX12_words_89 : decode cX12_words 89 = .ok (.getfield 135, 3) := by decide +kernel
theorem dX12_words_92 : decode cX12_words 92 = .ok (.iload_n 2, 1) := by decide +kernel
theorem dX12_words_93 : decode cX12_words 93 = .ok (.iaload, 1) := by decide +kernel
theorem dX12_words_94 : decode cX12_words 94 = .ok (.if_icmp .ne 44, 3) := by decide +kernel
theorem dX12_words_97 : decode cX12_words 97 = .ok (.aload_n 0, 1) := by decide +kernel
theorem dX12_words_98 : decode cX12_words 98 = .ok (.getfield 147, 3) := by decide +kernel
theorem dX12_words_101 : decode cX12_words 101 = .ok (.bipush 12, 2) := by decide +kernel
theorem dX12_words_103 : decode cX12_words 103 = .ok (.iload 5, 2) := by decide +kernel
theorem dX12_words_105 : decode cX12_words 105 = .ok (.imul, 1) := by decide +kernel
theorem dX12_words_106 : decode cX12_words 106 = .ok (.iload_n 3, 1) := by decide +kernel
theorem dX12_words_107 : decode cX12_words 107 = .ok (.iadd, 1) := by decide +kernel
theorem dX12_words_108 : decode cX12_words 108 = .ok (.iaload, 1) := by decide +kernel
theorem dX12_words_109 : decode cX12_words 109 = .ok (.iload 4, 2) := by decide +kernel
theorem dX12_words_111 : decode cX12_words 111 = .ok (.iadd, 1) := by decide +kernel
theorem dX12_words_112 : decode cX12_words 112 = .ok (.bipush (-3), 2) := by decide +kernel
theorem dX12_words_114 : decode cX12_words 114 = .ok (.iconst 3, 1) := by decide +kernel
theorem dX12_words_115 : decode cX12_words 115 = .ok (.invokestatic 223, 3) := by decide +kernel
theorem dX12_words_118 : decode cX12_words 118 = .ok (.ifCond .eq 20, 3) := by decide +kernel
theorem dX12_words_121 : decode cX12_words 121 = .ok (.aload_n 0, 1) := by decide +kernel
theorem dX12_words_122 : decode cX12_words 122 = .ok (.getfield 147, 3) := by decide +kernel
theorem dX12_words_125 : decode cX12_words 125 = .ok (.bipush 12, 2) := by decide +kernel
theorem dX12_words_127 : decode cX12_words 127 = .ok (.iload 5, 2) := by decide +kernel
theorem dX12_words_129 : decode cX12_words 129 = .ok (.imul, 1) := by decide +kernel
theorem dX12_words_130 : decode cX12_words 130 = .ok (.iload_n 3, 1) := by decide +kernel
theorem dX12_words_131 : decode cX12_words 131 = .ok (.iadd, 1) := by decide +kernel
theorem dX12_words_132 : decode cX12_words 132 = .ok (.dup2, 1) := by decide +kernel
theorem dX12_words_133 : decode cX12_words 133 = .ok (.iaload, 1) := by decide +kernel
theorem dX12_words_134 : decode cX12_words 134 = .ok (.iload 4, 2) := by decide +kernel
theorem dX12_words_136 : decode cX12_words 136 = .ok (.iadd, 1) := by decide +kernel
theorem dX12_words_137 : decode cX12_words 137 = .ok (.iastore, 1) := by decide +kernel
theorem dX12_words_138 : decode cX12_words 138 = .ok (.iinc 5 1, 3) := by decide +kernel
theorem dX12_words_141 : decode cX12_words 141 = .ok (.goto (-69), 3) := by decide +kernel
theorem dX12_words_144 : decode cX12_words 144 = .ok (.iinc 1 1, 3) := by decide +kernel
theorem dX12_words_147 : decode cX12_words 147 = .ok (.goto (-145), 3) := by decide +kernel
theorem dX12_words_150 : decode cX12_words 150 = .ok (.return_, 1) := by decide +kernel
theorem dX12_weeks_0 : decode cX12_weeks 0 = .ok (.iload_n 1, 1) := by decide +kernel
theorem dX12_weeks_1 : decode cX12_weeks 1 = .ok (.iconst 1, 1) := by decide +kernel
theorem dX12_weeks_2 : decode cX12_weeks 2 = .ok (.bipush 20, 2) := by decide +kernel
theorem dX12_weeks_4 : decode cX12_weeks 4 = .ok (.invokestatic 223, 3) := by decide +kernel
theorem dX12_weeks_7 : decode cX12_weeks 7 = .ok (.ifCond .eq 15, 3) := by decide +kernel
theorem dX12_weeks_10 : decode cX12_weeks 10 = .ok (.aload_n 0, 1) := by decide +kernel
theorem dX12_weeks_11 : decode cX12_weeks 11 = .ok (.getfield 253, 3) := by decide +kernel
theorem dX12_weeks_14 : decode cX12_weeks 14 = .ok (.sipush 199, 3) := by decide +kernel
theorem dX12_weeks_17 : decode cX12_weeks 17 = .ok (.iload_n 1, 1) := by decide +kernel
theorem dX12_weeks_18 : decode cX12_weeks 18 = .ok (.isub, 1) := by decide +kernel
theorem dX12_weeks_19 : decode cX12_weeks 19 = .ok (.if_icmp .le 5, 3) := by decide +kernel
theorem dX12_weeks_22 : decode cX12_weeks 22 = .ok (.iconst (-1), 1) := by decide +kernel
theorem dX12_weeks_23 : decode cX12_weeks 23 = .ok (.ireturn, 1) := by decide +kernel
theorem dX12_weeks_24 : decode cX12_weeks 24 = .ok (.iconst 0, 1) := by decide +kernel
theorem dX12_weeks_25 : decode cX12_weeks 25 = .ok (.istore_n 2, 1) := by decide +kernel
theorem dX12_weeks_26 : decode cX12_weeks 26 = .ok (.iload_n 2, 1) := by decide +kernel
theorem dX12_weeks_27 : decode cX12_weeks 27 = .ok (.iload_n 1, 1) := by decide +kernel
theorem dX12_weeks_28 : decode cX12_weeks 28 = .ok (.if_icmp .ge 13, 3) := by decide +kernel
theorem dX12_weeks_31 : decode cX12_weeks 31 = .ok (.aload_n 0, 1) := by decide +kernel
theorem dX12_weeks_32 : decode cX12_weeks 32 = .ok (.invokevirtual 447, 3) := by decide +kernel
theorem dX12_weeks_35 : decode cX12_weeks 35 = .ok (.iinc 2 1, 3) := by decide +kernel
theorem dX12_weeks_38 : decode cX12_weeks 38 = .ok (.goto (-12), 3) := by decide +kernel
theorem dX12_weeks_41 : decode cX12_weeks 41 = .ok (.aload_n 0, 1) := by decide +kernel
theorem dX12_weeks_42 : decode cX12_weeks 42 = .ok (.getfield 253, 3) := by decide +kernel
theorem dX12_weeks_45 : decode cX12_weeks 45 = .ok (.ireturn, 1) := by decide +kernel
theorem dX12_of_0 : decode cX12_of 0 = .ok (.aload_n 0, 1) := by decide +kernel
theorem dX12_of_1 : decode cX12_of 1 = .ok (.iload_n 1, 1) := by decide +kernel
theorem dX12_of_2 : decode cX12_of 2 = .ok (.invokevirtual 264, 3) := by decide +kernel
theorem dX12_of_5 : decode cX12_of 5 = .ok (.ifCond .ne 7, 3) := by decide +kernel
theorem dX12_of_8 : decode cX12_of 8 = .ok (.ldc2_w 449, 3) := by decide +kernel
theorem dX12_of_11 : decode cX12_of 11 = .ok (.lreturn, 1) := by decide +kernel
theorem dX12_of_12 : decode cX12_of 12 = .ok (.iload_n 2, 1) := by decide +kernel
theorem dX12_of_13 : decode cX12_of 13 = .ok (.tableswitch 83 0 5 #[39, 46, 54, 62, 69, 76], 39) := by decide +kernel
theorem dX12_of_52 : decode cX12_of 52 = .ok (.aload_n 0, 1) := by decide +kernel
theorem dX12_of_53 : decode cX12_of 53 = .ok (.getfield 73, 3) := by decide +kernel
theorem dX12_of_56 : decode cX12_of 56 = .ok (.iload_n 1, 1) := by decide +kernel
theorem dX12_of_57 : decode cX12_of 57 = .ok (.laload, 1) := by decide +kernel
theorem dX12_of_58 : decode cX12_of 58 = .ok (.lreturn, 1) := by decide +kernel
theorem dX12_of_59 : decode cX12_of 59 = .ok (.aload_n 0, 1) := by decide +kernel
theorem dX12_of_60 : decode cX12_of 60 = .ok (.getfield 61, 3) := by decide +kernel
theorem dX12_of_63 : decode cX12_of 63 = .ok (.iload_n 1, 1) := by decide +kernel
theorem dX12_of_64 : decode cX12_of 64 = .ok (.iaload, 1) := by decide +kernel
theorem dX12_of_65 : decode cX12_of 65 = .ok (.i2l, 1) := by decide +kernel
theorem dX12_of_66 : decode cX12_of 66 = .ok (.lreturn, 1) := by decide +kernel
theorem dX12_of_67 : decode cX12_of 67 = .ok (.aload_n 0, 1) := by decide +kernel
theorem dX12_of_68 : decode cX12_of 68 = .ok (.getfield 64, 3) := by decide +kernel
theorem dX12_of_71 : decode cX12_of 71 = .ok (.iload_n 1, 1) := by decide +kernel
theorem dX12_of_72 : decode cX12_of 72 = .ok (.iaload, 1) := by decide +kernel
theorem dX12_of_73 : decode cX12_of 73 = .ok (.i2l, 1) := by decide +kernel
theorem dX12_of_74 : decode cX12_of 74 = .ok (.lreturn, 1) := by decide +kernel
theorem dX12_of_75 : decode cX12_of 75 = .ok (.aload_n 0, 1) := by decide +kernel
theorem dX12_of_76 : decode cX12_of 76 = .ok (.iload_n 1, 1) := by decide +kernel
theorem dX12_of_77 : decode cX12_of 77 = .ok (.invokevirtual 270, 3) := by decide +kernel
theorem dX12_of_80 : decode cX12_of 80 = .ok (.i2l, 1) := by decide +kernel
theorem dX12_of_81 : decode cX12_of 81 = .ok (.lreturn, 1) := by decide +kernel
theorem dX12_of_82 : decode cX12_of 82 = .ok (.aload_n 0, 1) := by decide +kernel
theorem dX12_of_83 : decode cX12_of 83 = .ok (.iload_n 1, 1) := by decide +kernel
theorem dX12_of_84 : decode cX12_of 84 = .ok (.invokevirtual 274, 3) := by decide +kernel
theorem dX12_of_87 : decode cX12_of 87 = .ok (.i2l, 1) := by decide +kernel
theorem dX12_of_88 : decode cX12_of 88 = .ok (.lreturn, 1) := by decide +kernel
theorem dX12_of_89 : decode cX12_of 89 = .ok (.aload_n 0, 1) := by decide +kernel
theorem dX12_of_90 : decode cX12_of 90 = .ok (.getfield 77, 3) := by decide +kernel
theorem dX12_of_93 : decode cX12_of 93 = .ok (.iload_n 1, 1) := by decide +kernel
theorem dX12_of_94 : decode cX12_of 94 = .ok (.laload, 1) := by decide +kernel
theorem dX12_of_95 : decode cX12_of 95 = .ok (.lreturn, 1) := by decide +kernel
theorem dX12_of_96 : decode cX12_of 96 = .ok (.ldc2_w 449, 3) := by decide +kernel
theorem dX12_of_99 : decode cX12_of 99 = .ok (.lreturn, 1) := by decide +kernel
theorem dX12_at_0 : decode cX12_at 0 = .ok (.aload_n 0, 1) := by decide +kernel
theorem dX12_at_1 : decode cX12_at 1 = .ok (.iload_n 1, 1) := by decide +kernel
theorem dX12_at_2 : decode cX12_at 2 = .ok (.invokevirtual 243, 3) := by decide +kernel
theorem dX12_at_5 : decode cX12_at 5 = .ok (.ifCond .ne 5, 3) := by decide +kernel
theorem dX12_at_8 : decode cX12_at 8 = .ok (.iconst (-1), 1) := by decide +kernel
theorem dX12_at_9 : decode cX12_at 9 = .ok (.ireturn, 1) := by decide +kernel
theorem dX12_at_10 : decode cX12_at 10 = .ok (.iload_n 2, 1) := by decide +kernel
theorem dX12_at_11 : decode cX12_at 11 = .ok (.ifCond .ne 12, 3) := by decide +kernel
theorem dX12_at_14 : decode cX12_at 14 = .ok (.aload_n 0, 1) := by decide +kernel
theorem dX12_at_15 : decode cX12_at 15 = .ok (.getfield 25, 3) := by decide +kernel
theorem dX12_at_18 : decode cX12_at 18 = .ok (.iload_n 1, 1) := by decide +kernel
theorem dX12_at_19 : decode cX12_at 19 = .ok (.iaload, 1) := by decide +kernel
theorem dX12_at_20 : decode cX12_at 20 = .ok (.goto 32, 3) := by decide +kernel
theorem dX12_at_23 : decode cX12_at 23 = .ok (.iload_n 2, 1) := by decide +kernel
theorem dX12_at_24 : decode cX12_at 24 = .ok (.iconst 1, 1) := by decide +kernel
theorem dX12_at_25 : decode cX12_at 25 = .ok (.if_icmp .ne 12, 3) := by decide +kernel
theorem dX12_at_28 : decode cX12_at 28 = .ok (.aload_n 0, 1) := by decide +kernel
theorem dX12_at_29 : decode cX12_at 29 = .ok (.getfield 28, 3) := by decide +kernel
theorem dX12_at_32 : decode cX12_at 32 = .ok (.iload_n 1, 1) := by decide +kernel
theorem dX12_at_33 : decode cX12_at 33 = .ok (.iaload, 1) := by decide +kernel
theorem dX12_at_34 : decode cX12_at 34 = .ok (.goto 18, 3) := by decide +kernel
theorem dX12_at_37 : decode cX12_at 37 = .ok (.iload_n 2, 1) := by decide +kernel
theorem dX12_at_38 : decode cX12_at 38 = .ok (.iconst 2, 1) := by decide +kernel
theorem dX12_at_39 : decode cX12_at 39 = .ok (.if_icmp .ne 12, 3) := by decide +kernel
theorem dX12_at_42 : decode cX12_at 42 = .ok (.aload_n 0, 1) := by decide +kernel
theorem dX12_at_43 : decode cX12_at 43 = .ok (.getfield 31, 3) := by decide +kernel
theorem dX12_at_46 : decode cX12_at 46 = .ok (.iload_n 1, 1) := by decide +kernel
theorem dX12_at_47 : decode cX12_at 47 = .ok (.iaload, 1) := by decide +kernel
theorem dX12_at_48 : decode cX12_at 48 = .ok (.goto 4, 3) := by decide +kernel
theorem dX12_at_51 : decode cX12_at 51 = .ok (.iconst (-1), 1) := by decide +kernel
theorem dX12_at_52 : decode cX12_at 52 = .ok (.ireturn, 1) := by decide +kernel
theorem dX12_bits_0 : decode cX12_bits 0 = .ok (.iconst 0, 1) := by decide +kernel
theorem dX12_bits_1 : decode cX12_bits 1 = .ok (.istore_n 1, 1) := by decide +kernel
theorem dX12_bits_2 : decode cX12_bits 2 = .ok (.iconst 0, 1) := by decide +kernel
theorem dX12_bits_3 : decode cX12_bits 3 = .ok (.istore_n 2, 1) := by decide +kernel
theorem dX12_bits_4 : decode cX12_bits 4 = .ok (.iload_n 2, 1) := by decide +kernel
theorem dX12_bits_5 : decode cX12_bits 5 = .ok (.bipush 20, 2) := by decide +kernel
theorem dX12_bits_7 : decode cX12_bits 7 = .ok (.if_icmp .ge 17, 3) := by decide +kernel
theorem dX12_bits_10 : decode cX12_bits 10 = .ok (.iload_n 1, 1) := by decide +kernel
theorem dX12_bits_11 : decode cX12_bits 11 = .ok (.iload_n 0, 1) := by decide +kernel
theorem dX12_bits_12 : decode cX12_bits 12 = .ok (.iload_n 2, 1) := by decide +kernel
theorem dX12_bits_13 : decode cX12_bits 13 = .ok (.ishr, 1) := by decide +kernel
theorem dX12_bits_14 : decode cX12_bits 14 = .ok (.iconst 1, 1) := by decide +kernel
theorem dX12_bits_15 : decode cX12_bits 15 = .ok (.iand, 1) := by decide +kernel
theorem dX12_bits_16 : decode cX12_bits 16 = .ok (.iadd, 1) := by decide +kernel
theorem dX12_bits_17 : decode cX12_bits 17 = .ok (.istore_n 1, 1) := by decide +kernel
theorem dX12_bits_18 : decode cX12_bits 18 = .ok (.iinc 2 1, 3) := by decide +kernel
theorem dX12_bits_21 : decode cX12_bits 21 = .ok (.goto (-17), 3) := by decide +kernel
theorem dX12_bits_24 : decode cX12_bits 24 = .ok (.iload_n 1, 1) := by decide +kernel
theorem dX12_bits_25 : decode cX12_bits 25 = .ok (.ireturn, 1) := by decide +kernel
theorem dX12_version_0 : decode cX12_version 0 = .ok (.iload_n 1, 1) := by decide +kernel
theorem dX12_version_1 : decode cX12_version 1 = .ok (.iconst 1, 1) := by decide +kernel
theorem dX12_version_2 : decode cX12_version 2 = .ok (.bipush 20, 2) := by decide +kernel
theorem dX12_version_4 : decode cX12_version 4 = .ok (.invokestatic 223, 3) := by decide +kernel
theorem dX12_version_7 : decode cX12_version 7 = .ok (.ifCond .eq 12, 3) := by decide +kernel
theorem dX12_version_10 : decode cX12_version 10 = .ok (.aload_n 0, 1) := by decide +kernel
theorem dX12_version_11 : decode cX12_version 11 = .ok (.getfield 451, 3) := by decide +kernel
theorem dX12_version_14 : decode cX12_version 14 = .ok (.bipush 9, 2) := by decide +kernel
theorem dX12_version_16 : decode cX12_version 16 = .ok (.if_icmp .ne 5, 3) := by decide +kernel
theorem dX12_version_19 : decode cX12_version 19 = .ok (.iconst (-1), 1) := by decide +kernel
theorem dX12_version_20 : decode cX12_version 20 = .ok (.ireturn, 1) := by decide +kernel
theorem dX12_version_21 : decode cX12_version 21 = .ok (.aload_n 0, 1) := by decide +kernel
theorem dX12_version_22 : decode cX12_version 22 = .ok (.getfield 166, 3) := by decide +kernel
theorem dX12_version_25 : decode cX12_version 25 = .ok (.aload_n 0, 1) := by decide +kernel
theorem dX12_version_26 : decode cX12_version 26 = .ok (.getfield 451, 3) := by decide +kernel
theorem dX12_version_29 : decode cX12_version 29 = .ok (.iload_n 1, 1) := by decide +kernel
theorem dX12_version_30 : decode cX12_version 30 = .ok (.iastore, 1) := by decide +kernel
theorem dX12_version_31 : decode cX12_version 31 = .ok (.aload_n 0, 1) := by decide +kernel
theorem dX12_version_32 : decode cX12_version 32 = .ok (.dup, 1) := by decide +kernel
theorem dX12_version_33 : decode cX12_version 33 = .ok (.getfield 451, 3) := by decide +kernel
theorem dX12_version_36 : decode cX12_version 36 = .ok (.iconst 1, 1) := by decide +kernel
theorem dX12_version_37 : decode cX12_version 37 = .ok (.iadd, 1) := by decide +kernel
theorem dX12_version_38 : decode cX12_version 38 = .ok (.putfield 451, 3) := by decide +kernel
theorem dX12_version_41 : decode cX12_version 41 = .ok (.aload_n 0, 1) := by decide +kernel
theorem dX12_version_42 : decode cX12_version 42 = .ok (.getfield 451, 3) := by decide +kernel
theorem dX12_version_45 : decode cX12_version 45 = .ok (.iconst 1, 1) := by decide +kernel
theorem dX12_version_46 : decode cX12_version 46 = .ok (.isub, 1) := by decide +kernel
theorem dX12_version_47 : decode cX12_version 47 = .ok (.ireturn, 1) := by decide +kernel
theorem dX12_isVersion_0 : decode cX12_isVersion 0 = .ok (.iload_n 1, 1) := by decide +kernel
theorem dX12_isVersion_1 : decode cX12_isVersion 1 = .ok (.iconst 0, 1) := by decide +kernel
theorem dX12_isVersion_2 : decode cX12_isVersion 2 = .ok (.aload_n 0, 1) := by decide +kernel
theorem dX12_isVersion_3 : decode cX12_isVersion 3 = .ok (.getfield 451, 3) := by decide +kernel
theorem dX12_isVersion_6 : decode cX12_isVersion 6 = .ok (.iconst 1, 1) := by decide +kernel
theorem dX12_isVersion_7 : decode cX12_isVersion 7 = .ok (.isub, 1) := by decide +kernel
theorem dX12_isVersion_8 : decode cX12_isVersion 8 = .ok (.invokestatic 223, 3) := by decide +kernel
theorem dX12_isVersion_11 : decode cX12_isVersion 11 = .ok (.ireturn, 1) := by decide +kernel
theorem dX12_change_0 : decode cX12_change 0 = .ok (.aload_n 0, 1) := by decide +kernel
theorem dX12_change_1 : decode cX12_change 1 = .ok (.iload_n 1, 1) := by decide +kernel
theorem dX12_change_2 : decode cX12_change 2 = .ok (.invokevirtual 454, 3) := by decide +kernel
theorem dX12_change_5 : decode cX12_change 5 = .ok (.ifCond .eq 26, 3) := by decide +kernel
theorem dX12_change_8 : decode cX12_change 8 = .ok (.aload_n 0, 1) := by decide +kernel
theorem dX12_change_9 : decode cX12_change 9 = .ok (.iload_n 2, 1) := by decide +kernel
theorem dX12_change_10 : decode cX12_change 10 = .ok (.invokevirtual 454, 3) := by decide +kernel
theorem dX12_change_13 : decode cX12_change 13 = .ok (.ifCond .eq 18, 3) := by decide +kernel
theorem dX12_change_16 : decode cX12_change 16 = .ok (.iload_n 1, 1) := by decide +kernel
theorem dX12_change_17 : decode cX12_change 17 = .ok (.iload_n 2, 1) := by decide +kernel
theorem dX12_change_18 : decode cX12_change 18 = .ok (.if_icmp .eq 13, 3) := by decide +kernel
theorem dX12_change_21 : decode cX12_change 21 = .ok (.iload_n 3, 1) := by decide +kernel
theorem dX12_change_22 : decode cX12_change 22 = .ok (.iconst 0, 1) := by decide +kernel
theorem dX12_change_23 : decode cX12_change 23 = .ok (.bipush 9, 2) := by decide +kernel
theorem dX12_change_25 : decode cX12_change 25 = .ok (.invokestatic 223, 3) := by decide +kernel
theorem dX12_change_28 : decode cX12_change 28 = .ok (.ifCond .ne 5, 3) := by decide +kernel
theorem dX12_change_31 : decode cX12_change 31 = .ok (.iconst 0, 1) := by decide +kernel
theorem dX12_change_32 : decode cX12_change 32 = .ok (.ireturn, 1) := by decide +kernel
theorem dX12_change_33 : decode cX12_change 33 = .ok (.aload_n 0, 1) := by decide +kernel
theorem dX12_change_34 : decode cX12_change 34 = .ok (.getfield 169, 3) := by decide +kernel
theorem dX12_change_37 : decode cX12_change 37 = .ok (.bipush 9, 2) := by decide +kernel
theorem dX12_change_39 : decode cX12_change 39 = .ok (.iload_n 1, 1) := by decide +kernel
theorem dX12_change_40 : decode cX12_change 40 = .ok (.imul, 1) := by decide +kernel
theorem dX12_change_41 : decode cX12_change 41 = .ok (.iload_n 2, 1) := by decide +kernel
theorem dX12_change_42 : decode cX12_change 42 = .ok (.iadd, 1) := by decide +kernel
theorem dX12_change_43 : decode cX12_change 43 = .ok (.iload_n 3, 1) := by decide +kernel
theorem dX12_change_44 : decode cX12_change 44 = .ok (.iastore, 1) := by decide +kernel
theorem dX12_change_45 : decode cX12_change 45 = .ok (.iconst 1, 1) := by decide +kernel
theorem dX12_change_46 : decode cX12_change 46 = .ok (.ireturn, 1) := by decide +kernel
theorem dX12_gathers_0 : decode cX12_gathers 0 = .ok (.aload_n 0, 1) := by decide +kernel
theorem dX12_gathers_1 : decode cX12_gathers 1 = .ok (.iconst 0, 1) := by decide +kernel
theorem dX12_gathers_2 : decode cX12_gathers 2 = .ok (.putfield 457, 3) := by decide +kernel
theorem dX12_gathers_5 : decode cX12_gathers 5 = .ok (.iconst 0, 1) := by decide +kernel
theorem dX12_gathers_6 : decode cX12_gathers 6 = .ok (.istore_n 3, 1) := by decide +kernel
theorem dX12_gathers_7 : decode cX12_gathers 7 = .ok (.iload_n 3, 1) := by decide +kernel
theorem dX12_gathers_8 : decode cX12_gathers 8 = .ok (.iload_n 2, 1) := by decide +kernel
theorem dX12_gathers_9 : decode cX12_gathers 9 = .ok (.if_icmp .ge 40, 3) := by decide +kernel
theorem dX12_gathers_12 : decode cX12_gathers 12 = .ok (.iload_n 1, 1) := by decide +kernel
theorem dX12_gathers_13 : decode cX12_gathers 13 = .ok (.iload_n 3, 1) := by decide +kernel
theorem dX12_gathers_14 : decode cX12_gathers 14 = .ok (.ishr, 1) := by decide +kernel
theorem dX12_gathers_15 : decode cX12_gathers 15 = .ok (.iconst 1, 1) := by decide +kernel
theorem dX12_gathers_16 : decode cX12_gathers 16 = .ok (.iand, 1) := by decide +kernel
theorem dX12_gathers_17 : decode cX12_gathers 17 = .ok (.ifCond .ne 6, 3) := by decide +kernel
theorem dX12_gathers_20 : decode cX12_gathers 20 = .ok (.goto 23, 3) := by decide +kernel
theorem dX12_gathers_23 : decode cX12_gathers 23 = .ok (.aload_n 0, 1) := by decide +kernel
theorem dX12_gathers_24 : decode cX12_gathers 24 = .ok (.getfield 172, 3) := by decide +kernel
theorem dX12_gathers_27 : decode cX12_gathers 27 = .ok (.aload_n 0, 1) := by decide +kernel
theorem dX12_gathers_28 : decode cX12_gathers 28 = .ok (.getfield 457, 3) := by decide +kernel
theorem dX12_gathers_31 : decode cX12_gathers 31 = .ok (.iload_n 3, 1) := by decide +kernel
theorem dX12_gathers_32 : decode cX12_gathers 32 = .ok (.iastore, 1) := by decide +kernel
theorem dX12_gathers_33 : decode cX12_gathers 33 = .ok (.aload_n 0, 1) := by decide +kernel
theorem dX12_gathers_34 : decode cX12_gathers 34 = .ok (.dup, 1) := by decide +kernel
theorem dX12_gathers_35 : decode cX12_gathers 35 = .ok (.getfield 457, 3) := by decide +kernel
theorem dX12_gathers_38 : decode cX12_gathers 38 = .ok (.iconst 1, 1) := by decide +kernel
theorem dX12_gathers_39 : decode cX12_gathers 39 = .ok (.iadd, 1) := by decide +kernel
theorem dX12_gathers_40 : decode cX12_gathers 40 = .ok (.putfield 457, 3) := by decide +kernel
theorem dX12_gathers_43 : decode cX12_gathers 43 = .ok (.iinc 3 1, 3) := by decide +kernel
theorem dX12_gathers_46 : decode cX12_gathers 46 = .ok (.goto (-39), 3) := by decide +kernel
theorem dX12_gathers_49 : decode cX12_gathers 49 = .ok (.return_, 1) := by decide +kernel
theorem dX12_stage_0 : decode cX12_stage 0 = .ok (.iload_n 1, 1) := by decide +kernel
theorem dX12_stage_1 : decode cX12_stage 1 = .ok (.iconst 1, 1) := by decide +kernel
theorem dX12_stage_2 : decode cX12_stage 2 = .ok (.if_icmp .lt 25, 3) := by decide +kernel
theorem dX12_stage_5 : decode cX12_stage 5 = .ok (.iload_n 1, 1) := by decide +kernel
theorem dX12_stage_6 : decode cX12_stage 6 = .ok (.iconst 1, 1) := by decide +kernel
theorem dX12_stage_7 : decode cX12_stage 7 = .ok (.aload_n 0, 1) := by decide +kernel
theorem dX12_stage_8 : decode cX12_stage 8 = .ok (.getfield 451, 3) := by decide +kernel
theorem dX12_stage_11 : decode cX12_stage 11 = .ok (.ishl, 1) := by decide +kernel
theorem dX12_stage_12 : decode cX12_stage 12 = .ok (.if_icmp .ge 15, 3) := by decide +kernel
theorem dX12_stage_15 : decode cX12_stage 15 = .ok (.iload_n 2, 1) := by decide +kernel
theorem dX12_stage_16 : decode cX12_stage 16 = .ok (.iconst 0, 1) := by decide +kernel
theorem dX12_stage_17 : decode cX12_stage 17 = .ok (.iload_n 1, 1) := by decide +kernel
theorem dX12_stage_18 : decode cX12_stage 18 = .ok (.invokestatic 460, 3) := by decide +kernel
theorem dX12_stage_21 : decode cX12_stage 21 = .ok (.invokestatic 223, 3) := by decide +kernel
theorem dX12_stage_24 : decode cX12_stage 24 = .ok (.ifCond .ne 5, 3) := by decide +kernel
theorem dX12_stage_27 : decode cX12_stage 27 = .ok (.iconst (-1), 1) := by decide +kernel
theorem dX12_stage_28 : decode cX12_stage 28 = .ok (.ireturn, 1) := by decide +kernel
theorem dX12_stage_29 : decode cX12_stage 29 = .ok (.aload_n 0, 1) := by decide +kernel
theorem dX12_stage_30 : decode cX12_stage 30 = .ok (.iload_n 1, 1) := by decide +kernel
theorem dX12_stage_31 : decode cX12_stage 31 = .ok (.aload_n 0, 1) := by decide +kernel
theorem dX12_stage_32 : decode cX12_stage 32 = .ok (.getfield 451, 3) := by decide +kernel
theorem dX12_stage_35 : decode cX12_stage 35 = .ok (.invokevirtual 463, 3) := by decide +kernel
theorem dX12_stage_38 : decode cX12_stage 38 = .ok (.iconst 1, 1) := by decide +kernel
theorem dX12_stage_39 : decode cX12_stage 39 = .ok (.aload_n 0, 1) := by decide +kernel
theorem dX12_stage_40 : decode cX12_stage 40 = .ok (.getfield 457, 3) := by decide +kernel
theorem dX12_stage_43 : decode cX12_stage 43 = .ok (.ishl, 1) := by decide +kernel
theorem dX12_stage_44 : decode cX12_stage 44 = .ok (.istore_n 3, 1) := by decide +kernel
theorem dX12_stage_45 : decode cX12_stage 45 = .ok (.iload_n 3, 1) := by decide +kernel
theorem dX12_stage_46 : decode cX12_stage 46 = .ok (.iconst 1, 1) := by decide +kernel
theorem dX12_stage_47 : decode cX12_stage 47 = .ok (.isub, 1) := by decide +kernel
theorem dX12_stage_48 : decode cX12_stage 48 = .ok (.istore 4, 2) := by decide +kernel
theorem dX12_stage_50 : decode cX12_stage 50 = .ok (.iload 4, 2) := by decide +kernel
theorem dX12_stage_52 : decode cX12_stage 52 = .ok (.ifCond .lt 175, 3) := by decide +kernel
theorem dX12_stage_55 : decode cX12_stage 55 = .ok (.iconst 0, 1) := by decide +kernel
theorem dX12_stage_56 : decode cX12_stage 56 = .ok (.istore 5, 2) := by decide +kernel
theorem dX12_stage_58 : decode cX12_stage 58 = .ok (.iload 5, 2) := by decide +kernel
theorem dX12_stage_60 : decode cX12_stage 60 = .ok (.bipush 9, 2) := by decide +kernel
theorem dX12_stage_62 : decode cX12_stage 62 = .ok (.if_icmp .gt 159, 3) := by decide +kernel
theorem dX12_stage_65 : decode cX12_stage 65 = .ok (.iload 5, 2) := by decide +kernel
theorem dX12_stage_67 : decode cX12_stage 67 = .ok (.bipush 9, 2) := by decide +kernel
theorem dX12_stage_69 : decode cX12_stage 69 = .ok (.if_icmp .ge 25, 3) := by decide +kernel
theorem dX12_stage_72 : decode cX12_stage 72 = .ok (.iload 5, 2) := by decide +kernel
theorem dX12_stage_74 : decode cX12_stage 74 = .ok (.aload_n 0, 1) := by decide +kernel
theorem dX12_stage_75 : decode cX12_stage 75 = .ok (.getfield 457, 3) := by decide +kernel
theorem dX12_stage_78 : decode cX12_stage 78 = .ok (.if_icmp .ge 137, 3) := by decide +kernel
theorem dX12_stage_81 : decode cX12_stage 81 = .ok (.iload 4, 2) := by decide +kernel
theorem dX12_stage_83 : decode cX12_stage 83 = .ok (.iload 5, 2) := by decide +kernel
theorem dX12_stage_85 : decode cX12_stage 85 = .ok (.ishr, 1) := by decide +kernel
theorem dX12_stage_86 : decode cX12_stage 86 = .ok (.iconst 1, 1) := by decide +kernel
theorem dX12_stage_87 : decode cX12_stage 87 = .ok (.iand, 1) := by decide +kernel
theorem dX12_stage_88 : decode cX12_stage 88 = .ok (.ifCond .ne 6, 3) := by decide +kernel
theorem dX12_stage_91 : decode cX12_stage 91 = .ok (.goto 124, 3) := by decide +kernel
theorem dX12_stage_94 : decode cX12_stage 94 = .ok (.iload 4, 2) := by decide +kernel
theorem dX12_stage_96 : decode cX12_stage 96 = .ok (.iload_n 3, 1) := by decide +kernel
theorem dX12_stage_97 : decode cX12_stage 97 = .ok (.iconst 1, 1) := by decide +kernel
theorem dX12_stage_98 : decode cX12_stage 98 = .ok (.isub, 1) := by decide +kernel
theorem dX12_stage_99 : decode cX12_stage 99 = .ok (.if_icmp .ne 7, 3) := by decide +kernel
theorem dX12_stage_102 : decode cX12_stage 102 = .ok (.iconst 0, 1) := by decide +kernel
theorem dX12_stage_103 : decode cX12_stage 103 = .ok (.goto 6, 3) := by decide +kernel
theorem dX12_stage_106 : decode cX12_stage 106 = .ok (.ldc_w 422, 3) := by decide +kernel
theorem dX12_stage_109 : decode cX12_stage 109 = .ok (.istore 6, 2) := by decide +kernel
theorem dX12_stage_111 : decode cX12_stage 111 = .ok (.iconst 0, 1) := by decide +kernel
theorem dX12_stage_112 : decode cX12_stage 112 = .ok (.istore 7, 2) := by decide +kernel
theorem dX12_stage_114 : decode cX12_stage 114 = .ok (.iload 7, 2) := by decide +kernel
theorem dX12_stage_116 : decode cX12_stage 116 = .ok (.aload_n 0, 1) := by decide +kernel
theorem dX12_stage_117 : decode cX12_stage 117 = .ok (.getfield 457, 3) := by decide +kernel
theorem dX12_stage_120 : decode cX12_stage 120 = .ok (.if_icmp .ge 80, 3) := by decide +kernel
theorem dX12_stage_123 : decode cX12_stage 123 = .ok (.iload 4, 2) := by decide +kernel
theorem dX12_stage_125 : decode cX12_stage 125 = .ok (.iload 7, 2) := by decide +kernel
theorem dX12_stage_127 : decode cX12_stage 127 = .ok (.ishr, 1) := by decide +kernel
theorem dX12_stage_128 : decode cX12_stage 128 = .ok (.iconst 1, 1) := by decide +kernel
theorem dX12_stage_129 : decode cX12_stage 129 = .ok (.iand, 1) := by decide +kernel
theorem dX12_stage_130 : decode cX12_stage 130 = .ok (.ifCond .ne 64, 3) := by decide +kernel
theorem dX12_stage_133 : decode cX12_stage 133 = .ok (.aload_n 0, 1) := by decide +kernel
theorem dX12_stage_134 : decode cX12_stage 134 = .ok (.getfield 175, 3) := by decide +kernel
theorem dX12_stage_137 : decode cX12_stage 137 = .ok (.bipush 10, 2) := by decide +kernel
theorem dX12_stage_139 : decode cX12_stage 139 = .ok (.iload 4, 2) := by decide +kernel
theorem dX12_stage_141 : decode cX12_stage 141 = .ok (.iconst 1, 1) := by decide +kernel
theorem dX12_stage_142 : decode cX12_stage 142 = .ok (.iload 7, 2) := by decide +kernel
theorem dX12_stage_144 : decode cX12_stage 144 = .ok (.ishl, 1) := by decide +kernel
theorem dX12_stage_145 : decode cX12_stage 145 = .ok (.ior, 1) := by decide +kernel
theorem dX12_stage_146 : decode cX12_stage 146 = .ok (.imul, 1) := by decide +kernel
theorem dX12_stage_147 : decode cX12_stage 147 = .ok (.iload 7, 2) := by decide +kernel
theorem dX12_stage_149 : decode cX12_stage 149 = .ok (.iadd, 1) := by decide +kernel
theorem dX12_stage_150 : decode cX12_stage 150 = .ok (.iaload, 1) := by decide +kernel
theorem dX12_stage_151 : decode cX12_stage 151 = .ok (.aload_n 0, 1) := by decide +kernel
theorem dX12_stage_152 : decode cX12_stage 152 = .ok (.iload 5, 2) := by decide +kernel
theorem dX12_stage_154 : decode cX12_stage 154 = .ok (.iload 7, 2) := by decide +kernel
theorem dX12_stage_156 : decode cX12_stage 156 = .ok (.invokevirtual 466, 3) := by decide +kernel
theorem dX12_stage_159 : decode cX12_stage 159 = .ok (.iadd, 1) := by decide +kernel
theorem dX12_stage_160 : decode cX12_stage 160 = .ok (.iload 6, 2) := by decide +kernel
theorem dX12_stage_162 : decode cX12_stage 162 = .ok (.if_icmp .ge 32, 3) := by decide +kernel
theorem dX12_stage_165 : decode cX12_stage 165 = .ok (.aload_n 0, 1) := by decide +kernel
theorem dX12_stage_166 : decode cX12_stage 166 = .ok (.getfield 175, 3) := by decide +kernel
theorem dX12_stage_169 : decode cX12_stage 169 = .ok (.bipush 10, 2) := by decide +kernel
theorem dX12_stage_171 : decode cX12_stage 171 = .ok (.iload 4, 2) := by decide +kernel
theorem dX12_stage_173 : decode cX12_stage 173 = .ok (.iconst 1, 1) := by decide +kernel
theorem dX12_stage_174 : decode cX12_stage 174 = .ok (.iload 7, 2) := by decide +kernel
theorem dX12_stage_176 : decode cX12_stage 176 = .ok (.ishl, 1) := by decide +kernel
theorem dX12_stage_177 : decode cX12_stage 177 = .ok (.ior, 1) := by decide +kernel
theorem dX12_stage_178 : decode cX12_stage 178 = .ok (.imul, 1) := by decide +kernel
theorem dX12_stage_179 : decode cX12_stage 179 = .ok (.iload 7, 2) := by decide +kernel
theorem dX12_stage_181 : decode cX12_stage 181 = .ok (.iadd, 1) := by decide +kernel
theorem dX12_stage_182 : decode cX12_stage 182 = .ok (.iaload, 1) := by decide +kernel
theorem dX12_stage_183 : decode cX12_stage 183 = .ok (.aload_n 0, 1) := by decide +kernel
theorem dX12_stage_184 : decode cX12_stage 184 = .ok (.iload 5, 2) := by decide +kernel
theorem dX12_stage_186 : decode cX12_stage 186 = .ok (.iload 7, 2) := by decide +kernel
theorem dX12_stage_188 : decode cX12_stage 188 = .ok (.invokevirtual 466, 3) := by decide +kernel
theorem dX12_stage_191 : decode cX12_stage 191 = .ok (.iadd, 1) := by decide +kernel
theorem dX12_stage_192 : decode cX12_stage 192 = .ok (.istore 6, 2) := by decide +kernel
theorem dX12_stage_194 : decode cX12_stage 194 = .ok (.iinc 7 1, 3) := by decide +kernel
theorem dX12_stage_197 : decode cX12_stage 197 = .ok (.goto (-83), 3) := by decide +kernel
theorem dX12_stage_200 : decode cX12_stage 200 = .ok (.aload_n 0, 1) := by decide +kernel
theorem dX12_stage_201 : decode cX12_stage 201 = .ok (.getfield 175, 3) := by decide +kernel
theorem dX12_stage_204 : decode cX12_stage 204 = .ok (.bipush 10, 2) := by decide +kernel
theorem dX12_stage_206 : decode cX12_stage 206 = .ok (.iload 4, 2) := by decide +kernel
theorem dX12_stage_208 : decode cX12_stage 208 = .ok (.imul, 1) := by decide +kernel
theorem dX12_stage_209 : decode cX12_stage 209 = .ok (.iload 5, 2) := by decide +kernel
theorem dX12_stage_211 : decode cX12_stage 211 = .ok (.iadd, 1) := by decide +kernel
theorem dX12_stage_212 : decode cX12_stage 212 = .ok (.iload 6, 2) := by decide +kernel
theorem dX12_stage_214 : decode cX12_stage 214 = .ok (.iastore, 1) := by decide +kernel
theorem dX12_stage_215 : decode cX12_stage 215 = .ok (.iinc 5 1, 3) := by decide +kernel
theorem dX12_stage_218 : decode cX12_stage 218 = .ok (.goto (-160), 3) := by decide +kernel
theorem dX12_stage_221 : decode cX12_stage 221 = .ok (.iinc 4 (-1), 3) := by decide +kernel
theorem dX12_stage_224 : decode cX12_stage 224 = .ok (.goto (-174), 3) := by decide +kernel
theorem dX12_stage_227 : decode cX12_stage 227 = .ok (.iconst 0, 1) := by decide +kernel
theorem dX12_stage_228 : decode cX12_stage 228 = .ok (.istore 4, 2) := by decide +kernel
theorem dX12_stage_230 : decode cX12_stage 230 = .ok (.bipush 9, 2) := by decide +kernel
theorem dX12_stage_232 : decode cX12_stage 232 = .ok (.istore 5, 2) := by decide +kernel
theorem dX12_stage_234 : decode cX12_stage 234 = .ok (.iconst 0, 1) := by decide +kernel
theorem dX12_stage_235 : decode cX12_stage 235 = .ok (.istore 6, 2) := by decide +kernel
theorem dX12_stage_237 : decode cX12_stage 237 = .ok (.iload 6, 2) := by decide +kernel
theorem dX12_stage_239 : decode cX12_stage 239 = .ok (.aload_n 0, 1) := by decide +kernel
theorem dX12_stage_240 : decode cX12_stage 240 = .ok (.getfield 457, 3) := by decide +kernel
theorem dX12_stage_243 : decode cX12_stage 243 = .ok (.if_icmp .ge 99, 3) := by decide +kernel
theorem dX12_stage_246 : decode cX12_stage 246 = .ok (.iconst 0, 1) := by decide +kernel
theorem dX12_stage_247 : decode cX12_stage 247 = .ok (.istore 7, 2) := by decide +kernel
theorem dX12_stage_249 : decode cX12_stage 249 = .ok (.iload 4, 2) := by decide +kernel
theorem dX12_stage_251 : decode cX12_stage 251 = .ok (.iload 7, 2) := by decide +kernel
theorem dX12_stage_253 : decode cX12_stage 253 = .ok (.ishr, 1) := by decide +kernel
theorem dX12_stage_254 : decode cX12_stage 254 = .ok (.iconst 1, 1) := by decide +kernel
theorem dX12_stage_255 : decode cX12_stage 255 = .ok (.iand, 1) := by decide +kernel
theorem dX12_stage_256 : decode cX12_stage 256 = .ok (.iconst 1, 1) := by decide +kernel
theorem dX12_stage_257 : decode cX12_stage 257 = .ok (.if_icmp .eq 46, 3) := by decide +kernel
theorem dX12_stage_260 : decode cX12_stage 260 = .ok (.aload_n 0, 1) := by decide +kernel
theorem dX12_stage_261 : decode cX12_stage 261 = .ok (.getfield 175, 3) := by decide +kernel
theorem dX12_stage_264 : decode cX12_stage 264 = .ok (.bipush 10, 2) := by decide +kernel
theorem dX12_stage_266 : decode cX12_stage 266 = .ok (.iload 4, 2) := by decide +kernel
theorem dX12_stage_268 : decode cX12_stage 268 = .ok (.iconst 1, 1) := by decide +kernel
theorem dX12_stage_269 : decode cX12_stage 269 = .ok (.iload 7, 2) := by decide +kernel
theorem dX12_stage_271 : decode cX12_stage 271 = .ok (.ishl, 1) := by decide +kernel
theorem dX12_stage_272 : decode cX12_stage 272 = .ok (.ior, 1) := by decide +kernel
theorem dX12_stage_273 : decode cX12_stage 273 = .ok (.imul, 1) := by decide +kernel
theorem dX12_stage_274 : decode cX12_stage 274 = .ok (.iload 7, 2) := by decide +kernel
theorem dX12_stage_276 : decode cX12_stage 276 = .ok (.iadd, 1) := by decide +kernel
theorem dX12_stage_277 : decode cX12_stage 277 = .ok (.iaload, 1) := by decide +kernel
theorem dX12_stage_278 : decode cX12_stage 278 = .ok (.aload_n 0, 1) := by decide +kernel
theorem dX12_stage_279 : decode cX12_stage 279 = .ok (.iload 5, 2) := by decide +kernel
theorem dX12_stage_281 : decode cX12_stage 281 = .ok (.iload 7, 2) := by decide +kernel
theorem dX12_stage_283 : decode cX12_stage 283 = .ok (.invokevirtual 466, 3) := by decide +kernel
theorem dX12_stage_286 : decode cX12_stage 286 = .ok (.iadd, 1) := by decide +kernel
theorem dX12_stage_287 : decode cX12_stage 287 = .ok (.aload_n 0, 1) := by decide +kernel
theorem dX12_stage_288 : decode cX12_stage 288 = .ok (.getfield 175, 3) := by decide +kernel
theorem dX12_stage_291 : decode cX12_stage 291 = .ok (.bipush 10, 2) := by decide +kernel
theorem dX12_stage_293 : decode cX12_stage 293 = .ok (.iload 4, 2) := by decide +kernel
theorem dX12_stage_295 : decode cX12_stage 295 = .ok (.imul, 1) := by decide +kernel
theorem dX12_stage_296 : decode cX12_stage 296 = .ok (.iload 5, 2) := by decide +kernel
theorem dX12_stage_298 : decode cX12_stage 298 = .ok (.iadd, 1) := by decide +kernel
theorem dX12_stage_299 : decode cX12_stage 299 = .ok (.iaload, 1) := by decide +kernel
theorem dX12_stage_300 : decode cX12_stage 300 = .ok (.if_icmp .eq 9, 3) := by decide +kernel
theorem dX12_stage_303 : decode cX12_stage 303 = .ok (.iinc 7 1, 3) := by decide +kernel
theorem dX12_stage_306 : decode cX12_stage 306 = .ok (.goto (-57), 3) := by decide +kernel
theorem dX12_stage_309 : decode cX12_stage 309 = .ok (.aload_n 0, 1) := by decide +kernel
theorem dX12_stage_310 : decode cX12_stage 310 = .ok (.getfield 178, 3) := by decide +kernel
theorem dX12_stage_313 : decode cX12_stage 313 = .ok (.iload 6, 2) := by decide +kernel
theorem dX12_stage_315 : decode cX12_stage 315 = .ok (.aload_n 0, 1) := by decide +kernel
theorem dX12_stage_316 : decode cX12_stage 316 = .ok (.getfield 172, 3) := by decide +kernel
theorem dX12_stage_319 : decode cX12_stage 319 = .ok (.iload 7, 2) := by decide +kernel
theorem dX12_stage_321 : decode cX12_stage 321 = .ok (.iaload, 1) := by decide +kernel
theorem dX12_stage_322 : decode cX12_stage 322 = .ok (.iastore, 1) := by decide +kernel
theorem dX12_stage_323 : decode cX12_stage 323 = .ok (.iload 4, 2) := by decide +kernel
theorem dX12_stage_325 : decode cX12_stage 325 = .ok (.iconst 1, 1) := by decide +kernel
theorem dX12_stage_326 : decode cX12_stage 326 = .ok (.iload 7, 2) := by decide +kernel
theorem dX12_stage_328 : decode cX12_stage 328 = .ok (.ishl, 1) := by decide +kernel
theorem dX12_stage_329 : decode cX12_stage 329 = .ok (.ior, 1) := by decide +kernel
theorem dX12_stage_330 : decode cX12_stage 330 = .ok (.istore 4, 2) := by decide +kernel
theorem dX12_stage_332 : decode cX12_stage 332 = .ok (.iload 7, 2) := by decide +kernel
theorem dX12_stage_334 : decode cX12_stage 334 = .ok (.istore 5, 2) := by decide +kernel
theorem dX12_stage_336 : decode cX12_stage 336 = .ok (.iinc 6 1, 3) := by decide +kernel
theorem dX12_stage_339 : decode cX12_stage 339 = .ok (.goto (-102), 3) := by decide +kernel
theorem dX12_stage_342 : decode cX12_stage 342 = .ok (.iload_n 2, 1) := by decide +kernel
theorem dX12_stage_343 : decode cX12_stage 343 = .ok (.ifCond .ne 13, 3) := by decide +kernel
theorem dX12_stage_346 : decode cX12_stage 346 = .ok (.aload_n 0, 1) := by decide +kernel
theorem dX12_stage_347 : decode cX12_stage 347 = .ok (.getfield 175, 3) := by decide +kernel
theorem dX12_stage_350 : decode cX12_stage 350 = .ok (.bipush 9, 2) := by decide +kernel
theorem dX12_stage_352 : decode cX12_stage 352 = .ok (.iaload, 1) := by decide +kernel
theorem dX12_stage_353 : decode cX12_stage 353 = .ok (.goto 11, 3) := by decide +kernel
theorem dX12_stage_356 : decode cX12_stage 356 = .ok (.aload_n 0, 1) := by decide +kernel
theorem dX12_stage_357 : decode cX12_stage 357 = .ok (.getfield 178, 3) := by decide +kernel
theorem dX12_stage_360 : decode cX12_stage 360 = .ok (.iload_n 2, 1) := by decide +kernel
theorem dX12_stage_361 : decode cX12_stage 361 = .ok (.iconst 1, 1) := by decide +kernel
theorem dX12_stage_362 : decode cX12_stage 362 = .ok (.isub, 1) := by decide +kernel
theorem dX12_stage_363 : decode cX12_stage 363 = .ok (.iaload, 1) := by decide +kernel
theorem dX12_stage_364 : decode cX12_stage 364 = .ok (.ireturn, 1) := by decide +kernel
theorem dX12_costs_0 : decode cX12_costs 0 = .ok (.aload_n 0, 1) := by decide +kernel
theorem dX12_costs_1 : decode cX12_costs 1 = .ok (.getfield 166, 3) := by decide +kernel
theorem dX12_costs_4 : decode cX12_costs 4 = .ok (.aload_n 0, 1) := by decide +kernel
theorem dX12_costs_5 : decode cX12_costs 5 = .ok (.getfield 172, 3) := by decide +kernel
theorem dX12_costs_8 : decode cX12_costs 8 = .ok (.iload_n 2, 1) := by decide +kernel
theorem dX12_costs_9 : decode cX12_costs 9 = .ok (.iaload, 1) := by decide +kernel
theorem dX12_costs_10 : decode cX12_costs 10 = .ok (.iaload, 1) := by decide +kernel
theorem dX12_costs_11 : decode cX12_costs 11 = .ok (.iload_n 1, 1) := by decide +kernel
theorem dX12_costs_12 : decode cX12_costs 12 = .ok (.bipush 9, 2) := by decide +kernel
theorem dX12_costs_14 : decode cX12_costs 14 = .ok (.if_icmp .ne 7, 3) := by decide +kernel
theorem dX12_costs_17 : decode cX12_costs 17 = .ok (.iconst 0, 1) := by decide +kernel
theorem dX12_costs_18 : decode cX12_costs 18 = .ok (.goto 24, 3) := by decide +kernel
theorem dX12_costs_21 : decode cX12_costs 21 = .ok (.aload_n 0, 1) := by decide +kernel
theorem dX12_costs_22 : decode cX12_costs 22 = .ok (.getfield 169, 3) := by decide +kernel
theorem dX12_costs_25 : decode cX12_costs 25 = .ok (.bipush 9, 2) := by decide +kernel
theorem dX12_costs_27 : decode cX12_costs 27 = .ok (.aload_n 0, 1) := by decide +kernel
theorem dX12_costs_28 : decode cX12_costs 28 = .ok (.getfield 172, 3) := by decide +kernel
theorem dX12_costs_31 : decode cX12_costs 31 = .ok (.iload_n 1, 1) := by decide +kernel
theorem dX12_costs_32 : decode cX12_costs 32 = .ok (.iaload, 1) := by decide +kernel
theorem dX12_costs_33 : decode cX12_costs 33 = .ok (.imul, 1) := by decide +kernel
theorem dX12_costs_34 : decode cX12_costs 34 = .ok (.aload_n 0, 1) := by decide +kernel
theorem dX12_costs_35 : decode cX12_costs 35 = .ok (.getfield 172, 3) := by decide +kernel
theorem dX12_costs_38 : decode cX12_costs 38 = .ok (.iload_n 2, 1) := by decide +kernel
theorem dX12_costs_39 : decode cX12_costs 39 = .ok (.iaload, 1) := by decide +kernel
theorem dX12_costs_40 : decode cX12_costs 40 = .ok (.iadd, 1) := by decide +kernel
theorem dX12_costs_41 : decode cX12_costs 41 = .ok (.iaload, 1) := by decide +kernel
theorem dX12_costs_42 : decode cX12_costs 42 = .ok (.iadd, 1) := by decide +kernel
theorem dX12_costs_43 : decode cX12_costs 43 = .ok (.ireturn, 1) := by decide +kernel
theorem dX12_person_0 : decode cX12_person 0 = .ok (.iload_n 1, 1) := by decide +kernel
theorem dX12_person_1 : decode cX12_person 1 = .ok (.iconst 1, 1) := by decide +kernel
theorem dX12_person_2 : decode cX12_person 2 = .ok (.bipush 31, 2) := by decide +kernel
theorem dX12_person_4 : decode cX12_person 4 = .ok (.invokestatic 223, 3) := by decide +kernel
theorem dX12_person_7 : decode cX12_person 7 = .ok (.ifCond .eq 22, 3) := by decide +kernel
theorem dX12_person_10 : decode cX12_person 10 = .ok (.iload_n 2, 1) := by decide +kernel
theorem dX12_person_11 : decode cX12_person 11 = .ok (.iconst 0, 1) := by decide +kernel
theorem dX12_person_12 : decode cX12_person 12 = .ok (.bipush 9, 2) := by decide +kernel
theorem dX12_person_14 : decode cX12_person 14 = .ok (.invokestatic 223, 3) := by decide +kernel
theorem dX12_person_17 : decode cX12_person 17 = .ok (.ifCond .eq 12, 3) := by decide +kernel
theorem dX12_person_20 : decode cX12_person 20 = .ok (.aload_n 0, 1) := by decide +kernel
theorem dX12_person_21 : decode cX12_person 21 = .ok (.getfield 469, 3) := by decide +kernel
theorem dX12_person_24 : decode cX12_person 24 = .ok (.bipush 14, 2) := by decide +kernel
theorem dX12_person_26 : decode cX12_person 26 = .ok (.if_icmp .ne 5, 3) := by decide +kernel
theorem dX12_person_29 : decode cX12_person 29 = .ok (.iconst (-1), 1) := by decide +kernel
theorem dX12_person_30 : decode cX12_person 30 = .ok (.ireturn, 1) := by decide +kernel
theorem dX12_person_31 : decode cX12_person 31 = .ok (.aload_n 0, 1) := by decide +kernel
theorem dX12_person_32 : decode cX12_person 32 = .ok (.getfield 181, 3) := by decide +kernel
theorem dX12_person_35 : decode cX12_person 35 = .ok (.aload_n 0, 1) := by decide +kernel
theorem dX12_person_36 : decode cX12_person 36 = .ok (.getfield 469, 3) := by decide +kernel
theorem dX12_person_39 : decode cX12_person 39 = .ok (.iload_n 1, 1) := by decide +kernel
theorem dX12_person_40 : decode cX12_person 40 = .ok (.iastore, 1) := by decide +kernel
theorem dX12_person_41 : decode cX12_person 41 = .ok (.aload_n 0, 1) := by decide +kernel
theorem dX12_person_42 : decode cX12_person 42 = .ok (.getfield 184, 3) := by decide +kernel
theorem dX12_person_45 : decode cX12_person 45 = .ok (.aload_n 0, 1) := by decide +kernel
theorem dX12_person_46 : decode cX12_person 46 = .ok (.getfield 469, 3) := by decide +kernel
theorem dX12_person_49 : decode cX12_person 49 = .ok (.iload_n 2, 1) := by decide +kernel
theorem dX12_person_50 : decode cX12_person 50 = .ok (.iastore, 1) := by decide +kernel
theorem dX12_person_51 : decode cX12_person 51 = .ok (.aload_n 0, 1) := by decide +kernel
theorem dX12_person_52 : decode cX12_person 52 = .ok (.dup, 1) := by decide +kernel
theorem dX12_person_53 : decode cX12_person 53 = .ok (.getfield 469, 3) := by decide +kernel
theorem dX12_person_56 : decode cX12_person 56 = .ok (.iconst 1, 1) := by decide +kernel
theorem dX12_person_57 : decode cX12_person 57 = .ok (.iadd, 1) := by decide +kernel
theorem dX12_person_58 : decode cX12_person 58 = .ok (.putfield 469, 3) := by decide +kernel
theorem dX12_person_61 : decode cX12_person 61 = .ok (.aload_n 0, 1) := by decide +kernel
theorem dX12_person_62 : decode cX12_person 62 = .ok (.getfield 469, 3) := by decide +kernel
theorem dX12_person_65 : decode cX12_person 65 = .ok (.iconst 1, 1) := by decide +kernel
theorem dX12_person_66 : decode cX12_person 66 = .ok (.isub, 1) := by decide +kernel
theorem dX12_person_67 : decode cX12_person 67 = .ok (.ireturn, 1) := by decide +kernel
theorem dX12_faces_0 : decode cX12_faces 0 = .ok (.iload_n 1, 1) := by decide +kernel
theorem dX12_faces_1 : decode cX12_faces 1 = .ok (.iconst 1, 1) := by decide +kernel
theorem dX12_faces_2 : decode cX12_faces 2 = .ok (.bipush 31, 2) := by decide +kernel
theorem dX12_faces_4 : decode cX12_faces 4 = .ok (.invokestatic 223, 3) := by decide +kernel
theorem dX12_faces_7 : decode cX12_faces 7 = .ok (.ifCond .eq 22, 3) := by decide +kernel
theorem dX12_faces_10 : decode cX12_faces 10 = .ok (.iload_n 2, 1) := by decide +kernel
theorem dX12_faces_11 : decode cX12_faces 11 = .ok (.iconst 0, 1) := by decide +kernel
theorem dX12_faces_12 : decode cX12_faces 12 = .ok (.bipush 9, 2) := by decide +kernel
theorem dX12_faces_14 : decode cX12_faces 14 = .ok (.invokestatic 223, 3) := by decide +kernel
theorem dX12_faces_17 : decode cX12_faces 17 = .ok (.ifCond .eq 12, 3) := by decide +kernel
theorem dX12_faces_20 : decode cX12_faces 20 = .ok (.iload_n 3, 1) := by decide +kernel
theorem dX12_faces_21 : decode cX12_faces 21 = .ok (.iconst 0, 1) := by decide +kernel
theorem dX12_faces_22 : decode cX12_faces 22 = .ok (.iconst 2, 1) := by decide +kernel
theorem dX12_faces_23 : decode cX12_faces 23 = .ok (.invokestatic 223, 3) := by decide +kernel
theorem dX12_faces_26 : decode cX12_faces 26 = .ok (.ifCond .ne 5, 3) := by decide +kernel
theorem dX12_faces_29 : decode cX12_faces 29 = .ok (.iconst (-1), 1) := by decide +kernel
theorem dX12_faces_30 : decode cX12_faces 30 = .ok (.ireturn, 1) := by decide +kernel
theorem dX12_faces_31 : decode cX12_faces 31 = .ok (.iconst (-1), 1) := by decide +kernel
theorem dX12_faces_32 : decode cX12_faces 32 = .ok (.istore 4, 2) := by decide +kernel
theorem dX12_faces_34 : decode cX12_faces 34 = .ok (.iconst 0, 1) := by decide +kernel
theorem dX12_faces_35 : decode cX12_faces 35 = .ok (.istore 5, 2) := by decide +kernel
theorem dX12_faces_37 : decode cX12_faces 37 = .ok (.iconst 1, 1) := by decide +kernel
theorem dX12_faces_38 : decode cX12_faces 38 = .ok (.istore 6, 2) := by decide +kernel
theorem dX12_faces_40 : decode cX12_faces 40 = .ok (.iload 6, 2) := by decide +kernel
theorem dX12_faces_42 : decode cX12_faces 42 = .ok (.iconst 1, 1) := by decide +kernel
theorem dX12_faces_43 : decode cX12_faces 43 = .ok (.aload_n 0, 1) := by decide +kernel
theorem dX12_faces_44 : decode cX12_faces 44 = .ok (.getfield 469, 3) := by decide +kernel
theorem dX12_faces_47 : decode cX12_faces 47 = .ok (.ishl, 1) := by decide +kernel
theorem dX12_faces_48 : decode cX12_faces 48 = .ok (.if_icmp .ge 148, 3) := by decide +kernel
theorem dX12_faces_51 : decode cX12_faces 51 = .ok (.iload 4, 2) := by decide +kernel
theorem dX12_faces_53 : decode cX12_faces 53 = .ok (.iconst (-1), 1) := by decide +kernel
theorem dX12_faces_54 : decode cX12_faces 54 = .ok (.if_icmp .eq 19, 3) := by decide +kernel
theorem dX12_faces_57 : decode cX12_faces 57 = .ok (.iload 6, 2) := by decide +kernel
theorem dX12_faces_59 : decode cX12_faces 59 = .ok (.invokestatic 460, 3) := by decide +kernel
theorem dX12_faces_62 : decode cX12_faces 62 = .ok (.iload 4, 2) := by decide +kernel
theorem dX12_faces_64 : decode cX12_faces 64 = .ok (.invokestatic 460, 3) := by decide +kernel
theorem dX12_faces_67 : decode cX12_faces 67 = .ok (.if_icmp .le 6, 3) := by decide +kernel
theorem dX12_faces_70 : decode cX12_faces 70 = .ok (.goto 120, 3) := by decide +kernel
theorem dX12_faces_73 : decode cX12_faces 73 = .ok (.iconst 0, 1) := by decide +kernel
theorem dX12_faces_74 : decode cX12_faces 74 = .ok (.istore 7, 2) := by decide +kernel
theorem dX12_faces_76 : decode cX12_faces 76 = .ok (.iconst 1, 1) := by decide +kernel
theorem dX12_faces_77 : decode cX12_faces 77 = .ok (.istore 8, 2) := by decide +kernel
theorem dX12_faces_79 : decode cX12_faces 79 = .ok (.iconst 0, 1) := by decide +kernel
theorem dX12_faces_80 : decode cX12_faces 80 = .ok (.istore 9, 2) := by decide +kernel
theorem dX12_faces_82 : decode cX12_faces 82 = .ok (.iload 9, 2) := by decide +kernel
theorem dX12_faces_84 : decode cX12_faces 84 = .ok (.aload_n 0, 1) := by decide +kernel
theorem dX12_faces_85 : decode cX12_faces 85 = .ok (.getfield 469, 3) := by decide +kernel
theorem dX12_faces_88 : decode cX12_faces 88 = .ok (.if_icmp .ge 57, 3) := by decide +kernel
theorem dX12_faces_91 : decode cX12_faces 91 = .ok (.iload 6, 2) := by decide +kernel
theorem dX12_faces_93 : decode cX12_faces 93 = .ok (.iload 9, 2) := by decide +kernel
theorem dX12_faces_95 : decode cX12_faces 95 = .ok (.ishr, 1) := by decide +kernel
theorem dX12_faces_96 : decode cX12_faces 96 = .ok (.iconst 1, 1) := by decide +kernel
theorem dX12_faces_97 : decode cX12_faces 97 = .ok (.iand, 1) := by decide +kernel
theorem dX12_faces_98 : decode cX12_faces 98 = .ok (.ifCond .ne 6, 3) := by decide +kernel
theorem dX12_faces_101 : decode cX12_faces 101 = .ok (.goto 38, 3) := by decide +kernel
theorem dX12_faces_104 : decode cX12_faces 104 = .ok (.iload 7, 2) := by decide +kernel
theorem dX12_faces_106 : decode cX12_faces 106 = .ok (.aload_n 0, 1) := by decide +kernel
theorem dX12_faces_107 : decode cX12_faces 107 = .ok (.getfield 181, 3) := by decide +kernel
theorem dX12_faces_110 : decode cX12_faces 110 = .ok (.iload 9, 2) := by decide +kernel
theorem dX12_faces_112 : decode cX12_faces 112 = .ok (.iaload, 1) := by decide +kernel
theorem dX12_faces_113 : decode cX12_faces 113 = .ok (.ior, 1) := by decide +kernel
theorem dX12_faces_114 : decode cX12_faces 114 = .ok (.istore 7, 2) := by decide +kernel
theorem dX12_faces_116 : decode cX12_faces 116 = .ok (.iload 8, 2) := by decide +kernel
theorem dX12_faces_118 : decode cX12_faces 118 = .ok (.ifCond .eq 18, 3) := by decide +kernel
theorem dX12_faces_121 : decode cX12_faces 121 = .ok (.aload_n 0, 1) := by decide +kernel
theorem dX12_faces_122 : decode cX12_faces 122 = .ok (.getfield 184, 3) := by decide +kernel
theorem dX12_faces_125 : decode cX12_faces 125 = .ok (.iload 9, 2) := by decide +kernel
theorem dX12_faces_127 : decode cX12_faces 127 = .ok (.iaload, 1) := by decide +kernel
theorem dX12_faces_128 : decode cX12_faces 128 = .ok (.iload_n 2, 1) := by decide +kernel
theorem dX12_faces_129 : decode cX12_faces 129 = .ok (.if_icmp .lt 7, 3) := by decide +kernel
theorem dX12_faces_132 : decode cX12_faces 132 = .ok (.iconst 1, 1) := by decide +kernel
theorem dX12_faces_133 : decode cX12_faces 133 = .ok (.goto 4, 3) := by decide +kernel
theorem dX12_faces_136 : decode cX12_faces 136 = .ok (.iconst 0, 1) := by decide +kernel
theorem dX12_faces_137 : decode cX12_faces 137 = .ok (.istore 8, 2) := by decide +kernel
theorem dX12_faces_139 : decode cX12_faces 139 = .ok (.iinc 9 1, 3) := by decide +kernel
theorem dX12_faces_142 : decode cX12_faces 142 = .ok (.goto (-60), 3) := by decide +kernel
theorem dX12_faces_145 : decode cX12_faces 145 = .ok (.iload 8, 2) := by decide +kernel
theorem dX12_faces_147 : decode cX12_faces 147 = .ok (.ifCond .eq 43, 3) := by decide +kernel
theorem dX12_faces_150 : decode cX12_faces 150 = .ok (.iload 7, 2) := by decide +kernel
theorem dX12_faces_152 : decode cX12_faces 152 = .ok (.iload_n 1, 1) := by decide +kernel
theorem dX12_faces_153 : decode cX12_faces 153 = .ok (.iand, 1) := by decide +kernel
theorem dX12_faces_154 : decode cX12_faces 154 = .ok (.iload_n 1, 1) := by decide +kernel
theorem dX12_faces_155 : decode cX12_faces 155 = .ok (.if_icmp .eq 6, 3) := by decide +kernel
theorem dX12_faces_158 : decode cX12_faces 158 = .ok (.goto 32, 3) := by decide +kernel
theorem dX12_faces_161 : decode cX12_faces 161 = .ok (.iload 4, 2) := by decide +kernel
theorem dX12_faces_163 : decode cX12_faces 163 = .ok (.iconst (-1), 1) := by decide +kernel
theorem dX12_faces_164 : decode cX12_faces 164 = .ok (.if_icmp .eq 16, 3) := by decide +kernel
theorem dX12_faces_167 : decode cX12_faces 167 = .ok (.iload 6, 2) := by decide +kernel
theorem dX12_faces_169 : decode cX12_faces 169 = .ok (.invokestatic 460, 3) := by decide +kernel
theorem dX12_faces_172 : decode cX12_faces 172 = .ok (.iload 4, 2) := by decide +kernel
theorem dX12_faces_174 : decode cX12_faces 174 = .ok (.invokestatic 460, 3) := by decide +kernel
theorem dX12_faces_177 : decode cX12_faces 177 = .ok (.if_icmp .ge 10, 3) := by decide +kernel
theorem dX12_faces_180 : decode cX12_faces 180 = .ok (.iload 6, 2) := by decide +kernel
theorem dX12_faces_182 : decode cX12_faces 182 = .ok (.istore 4, 2) := by decide +kernel
theorem dX12_faces_184 : decode cX12_faces 184 = .ok (.iconst 0, 1) := by decide +kernel
theorem dX12_faces_185 : decode cX12_faces 185 = .ok (.istore 5, 2) := by decide +kernel
theorem dX12_faces_187 : decode cX12_faces 187 = .ok (.iinc 5 1, 3) := by decide +kernel
theorem dX12_faces_190 : decode cX12_faces 190 = .ok (.iinc 6 1, 3) := by decide +kernel
theorem dX12_faces_193 : decode cX12_faces 193 = .ok (.goto (-153), 3) := by decide +kernel
theorem dX12_faces_196 : decode cX12_faces 196 = .ok (.iload 4, 2) := by decide +kernel
theorem dX12_faces_198 : decode cX12_faces 198 = .ok (.iconst (-1), 1) := by decide +kernel
theorem dX12_faces_199 : decode cX12_faces 199 = .ok (.if_icmp .ne 7, 3) := by decide +kernel
theorem dX12_faces_202 : decode cX12_faces 202 = .ok (.iconst (-1), 1) := by decide +kernel
theorem dX12_faces_203 : decode cX12_faces 203 = .ok (.goto 27, 3) := by decide +kernel
theorem dX12_faces_206 : decode cX12_faces 206 = .ok (.iload_n 3, 1) := by decide +kernel
theorem dX12_faces_207 : decode cX12_faces 207 = .ok (.ifCond .ne 11, 3) := by decide +kernel
theorem dX12_faces_210 : decode cX12_faces 210 = .ok (.iload 4, 2) := by decide +kernel
theorem dX12_faces_212 : decode cX12_faces 212 = .ok (.invokestatic 460, 3) := by decide +kernel
theorem dX12_faces_215 : decode cX12_faces 215 = .ok (.goto 15, 3) := by decide +kernel
theorem dX12_faces_218 : decode cX12_faces 218 = .ok (.iload_n 3, 1) := by decide +kernel
theorem dX12_faces_219 : decode cX12_faces 219 = .ok (.iconst 1, 1) := by decide +kernel
theorem dX12_faces_220 : decode cX12_faces 220 = .ok (.if_icmp .ne 8, 3) := by decide +kernel
theorem dX12_faces_223 : decode cX12_faces 223 = .ok (.iload 4, 2) := by decide +kernel
theorem dX12_faces_225 : decode cX12_faces 225 = .ok (.goto 5, 3) := by decide +kernel
theorem dX12_faces_228 : decode cX12_faces 228 = .ok (.iload 5, 2) := by decide +kernel
theorem dX12_faces_230 : decode cX12_faces 230 = .ok (.ireturn, 1) := by decide +kernel
theorem dX12_needs_0 : decode cX12_needs 0 = .ok (.aload_n 0, 1) := by decide +kernel
theorem dX12_needs_1 : decode cX12_needs 1 = .ok (.iload_n 1, 1) := by decide +kernel
theorem dX12_needs_2 : decode cX12_needs 2 = .ok (.invokevirtual 264, 3) := by decide +kernel
theorem dX12_needs_5 : decode cX12_needs 5 = .ok (.ifCond .eq 24, 3) := by decide +kernel
theorem dX12_needs_8 : decode cX12_needs 8 = .ok (.iload_n 2, 1) := by decide +kernel
theorem dX12_needs_9 : decode cX12_needs 9 = .ok (.iconst 1, 1) := by decide +kernel
theorem dX12_needs_10 : decode cX12_needs 10 = .ok (.bipush 9, 2) := by decide +kernel
theorem dX12_needs_12 : decode cX12_needs 12 = .ok (.invokestatic 223, 3) := by decide +kernel
theorem dX12_needs_15 : decode cX12_needs 15 = .ok (.ifCond .eq 14, 3) := by decide +kernel
theorem dX12_needs_18 : decode cX12_needs 18 = .ok (.iload_n 3, 1) := by decide +kernel
theorem dX12_needs_19 : decode cX12_needs 19 = .ok (.iconst 0, 1) := by decide +kernel
theorem dX12_needs_20 : decode cX12_needs 20 = .ok (.sipush 999, 3) := by decide +kernel
theorem dX12_needs_23 : decode cX12_needs 23 = .ok (.invokestatic 223, 3) := by decide +kernel
theorem dX12_needs_26 : decode cX12_needs 26 = .ok (.ifCond .ne 5, 3) := by decide +kernel
theorem dX12_needs_29 : decode cX12_needs 29 = .ok (.iconst 0, 1) := by decide +kernel
theorem dX12_needs_30 : decode cX12_needs 30 = .ok (.ireturn, 1) := by decide +kernel
theorem dX12_needs_31 : decode cX12_needs 31 = .ok (.aload_n 0, 1) := by decide +kernel
theorem dX12_needs_32 : decode cX12_needs 32 = .ok (.getfield 67, 3) := by decide +kernel
theorem dX12_needs_35 : decode cX12_needs 35 = .ok (.iload_n 1, 1) := by decide +kernel
theorem dX12_needs_36 : decode cX12_needs 36 = .ok (.iload_n 2, 1) := by decide +kernel
theorem dX12_needs_37 : decode cX12_needs 37 = .ok (.iastore, 1) := by decide +kernel
theorem dX12_needs_38 : decode cX12_needs 38 = .ok (.aload_n 0, 1) := by decide +kernel
theorem dX12_needs_39 : decode cX12_needs 39 = .ok (.getfield 70, 3) := by decide +kernel
theorem dX12_needs_42 : decode cX12_needs 42 = .ok (.iload_n 1, 1) := by decide +kernel
theorem dX12_needs_43 : decode cX12_needs 43 = .ok (.iload_n 3, 1) := by decide +kernel
theorem dX12_needs_44 : decode cX12_needs 44 = .ok (.iastore, 1) := by decide +kernel
theorem dX12_needs_45 : decode cX12_needs 45 = .ok (.iconst 1, 1) := by decide +kernel
theorem dX12_needs_46 : decode cX12_needs 46 = .ok (.ireturn, 1) := by decide +kernel
theorem dX12_wires_0 : decode cX12_wires 0 = .ok (.aload_n 0, 1) := by decide +kernel
theorem dX12_wires_1 : decode cX12_wires 1 = .ok (.getfield 472, 3) := by decide +kernel
theorem dX12_wires_4 : decode cX12_wires 4 = .ok (.iconst (-1), 1) := by decide +kernel
theorem dX12_wires_5 : decode cX12_wires 5 = .ok (.if_icmp .eq 13, 3) := by decide +kernel
theorem dX12_wires_8 : decode cX12_wires 8 = .ok (.iload 5, 2) := by decide +kernel
theorem dX12_wires_10 : decode cX12_wires 10 = .ok (.aload_n 0, 1) := by decide +kernel
theorem dX12_wires_11 : decode cX12_wires 11 = .ok (.getfield 472, 3) := by decide +kernel
theorem dX12_wires_14 : decode cX12_wires 14 = .ok (.if_icmp .lt 4, 3) := by decide +kernel
theorem dX12_wires_17 : decode cX12_wires 17 = .ok (.return_, 1) := by decide +kernel
theorem dX12_wires_18 : decode cX12_wires 18 = .ok (.iload_n 1, 1) := by decide +kernel
theorem dX12_wires_19 : decode cX12_wires 19 = .ok (.aload_n 0, 1) := by decide +kernel
theorem dX12_wires_20 : decode cX12_wires 20 = .ok (.getfield 457, 3) := by decide +kernel
theorem dX12_wires_23 : decode cX12_wires 23 = .ok (.if_icmp .ne 42, 3) := by decide +kernel
theorem dX12_wires_26 : decode cX12_wires 26 = .ok (.aload_n 0, 1) := by decide +kernel
theorem dX12_wires_27 : decode cX12_wires 27 = .ok (.iload 5, 2) := by decide +kernel
theorem dX12_wires_29 : decode cX12_wires 29 = .ok (.putfield 472, 3) := by decide +kernel
theorem dX12_wires_32 : decode cX12_wires 32 = .ok (.iconst 0, 1) := by decide +kernel
theorem dX12_wires_33 : decode cX12_wires 33 = .ok (.istore 6, 2) := by decide +kernel
theorem dX12_wires_35 : decode cX12_wires 35 = .ok (.iload 6, 2) := by decide +kernel
theorem dX12_wires_37 : decode cX12_wires 37 = .ok (.aload_n 0, 1) := by decide +kernel
theorem dX12_wires_38 : decode cX12_wires 38 = .ok (.getfield 457, 3) := by decide +kernel
theorem dX12_wires_41 : decode cX12_wires 41 = .ok (.if_icmp .ge 23, 3) := by decide +kernel
theorem dX12_wires_44 : decode cX12_wires 44 = .ok (.aload_n 0, 1) := by decide +kernel
theorem dX12_wires_45 : decode cX12_wires 45 = .ok (.getfield 190, 3) := by decide +kernel
theorem dX12_wires_48 : decode cX12_wires 48 = .ok (.iload 6, 2) := by decide +kernel
theorem dX12_wires_50 : decode cX12_wires 50 = .ok (.aload_n 0, 1) := by decide +kernel
theorem dX12_wires_51 : decode cX12_wires 51 = .ok (.getfield 187, 3) := by decide +kernel
theorem dX12_wires_54 : decode cX12_wires 54 = .ok (.iload 6, 2) := by decide +kernel
theorem dX12_wires_56 : decode cX12_wires 56 = .ok (.iaload, 1) := by decide +kernel
theorem dX12_wires_57 : decode cX12_wires 57 = .ok (.iastore, 1) := by decide +kernel
theorem dX12_wires_58 : decode cX12_wires 58 = .ok (.iinc 6 1, 3) := by decide +kernel
theorem dX12_wires_61 : decode cX12_wires 61 = .ok (.goto (-26), 3) := by decide +kernel
theorem dX12_wires_64 : decode cX12_wires 64 = .ok (.return_, 1) := by decide +kernel
theorem dX12_wires_65 : decode cX12_wires 65 = .ok (.iconst 0, 1) := by decide +kernel
theorem dX12_wires_66 : decode cX12_wires 66 = .ok (.istore 6, 2) := by decide +kernel
theorem dX12_wires_68 : decode cX12_wires 68 = .ok (.iload 6, 2) := by decide +kernel
theorem dX12_wires_70 : decode cX12_wires 70 = .ok (.aload_n 0, 1) := by decide +kernel
theorem dX12_wires_71 : decode cX12_wires 71 = .ok (.getfield 457, 3) := by decide +kernel
theorem dX12_wires_74 : decode cX12_wires 74 = .ok (.if_icmp .ge 121, 3) := by decide +kernel
theorem dX12_wires_77 : decode cX12_wires 77 = .ok (.iload_n 2, 1) := by decide +kernel
theorem dX12_wires_78 : decode cX12_wires 78 = .ok (.iload 6, 2) := by decide +kernel
theorem dX12_wires_80 : decode cX12_wires 80 = .ok (.ishr, 1) := by decide +kernel
theorem dX12_wires_81 : decode cX12_wires 81 = .ok (.iconst 1, 1) := by decide +kernel
theorem dX12_wires_82 : decode cX12_wires 82 = .ok (.iand, 1) := by decide +kernel
theorem dX12_wires_83 : decode cX12_wires 83 = .ok (.iconst 1, 1) := by decide +kernel
theorem dX12_wires_84 : decode cX12_wires 84 = .ok (.if_icmp .ne 6, 3) := by decide +kernel
theorem dX12_wires_87 : decode cX12_wires 87 = .ok (.goto 102, 3) := by decide +kernel
theorem dX12_wires_90 : decode cX12_wires 90 = .ok (.aload_n 0, 1) := by decide +kernel
theorem dX12_wires_91 : decode cX12_wires 91 = .ok (.getfield 172, 3) := by decide +kernel
theorem dX12_wires_94 : decode cX12_wires 94 = .ok (.iload 6, 2) := by decide +kernel
theorem dX12_wires_96 : decode cX12_wires 96 = .ok (.iaload, 1) := by decide +kernel
theorem dX12_wires_97 : decode cX12_wires 97 = .ok (.istore 7, 2) := by decide +kernel
theorem dX12_wires_99 : decode cX12_wires 99 = .ok (.iload_n 3, 1) := by decide +kernel
theorem dX12_wires_100 : decode cX12_wires 100 = .ok (.iload 4, 2) := by decide +kernel
theorem dX12_wires_102 : decode cX12_wires 102 = .ok (.aload_n 0, 1) := by decide +kernel
theorem dX12_wires_103 : decode cX12_wires 103 = .ok (.getfield 49, 3) := by decide +kernel
theorem dX12_wires_106 : decode cX12_wires 106 = .ok (.iload 7, 2) := by decide +kernel
theorem dX12_wires_108 : decode cX12_wires 108 = .ok (.iaload, 1) := by decide +kernel
theorem dX12_wires_109 : decode cX12_wires 109 = .ok (.if_icmp .le 16, 3) := by decide +kernel
theorem dX12_wires_112 : decode cX12_wires 112 = .ok (.iload 4, 2) := by decide +kernel
theorem dX12_wires_114 : decode cX12_wires 114 = .ok (.aload_n 0, 1) := by decide +kernel
theorem dX12_wires_115 : decode cX12_wires 115 = .ok (.getfield 49, 3) := by decide +kernel
theorem dX12_wires_118 : decode cX12_wires 118 = .ok (.iload 7, 2) := by decide +kernel
theorem dX12_wires_120 : decode cX12_wires 120 = .ok (.iaload, 1) := by decide +kernel
theorem dX12_wires_121 : decode cX12_wires 121 = .ok (.isub, 1) := by decide +kernel
theorem dX12_wires_122 : decode cX12_wires 122 = .ok (.goto 13, 3) := by decide +kernel
theorem dX12_wires_125 : decode cX12_wires 125 = .ok (.aload_n 0, 1) := by decide +kernel
theorem dX12_wires_126 : decode cX12_wires 126 = .ok (.getfield 49, 3) := by decide +kernel
theorem dX12_wires_129 : decode cX12_wires 129 = .ok (.iload 7, 2) := by decide +kernel
theorem dX12_wires_131 : decode cX12_wires 131 = .ok (.iaload, 1) := by decide +kernel
theorem dX12_wires_132 : decode cX12_wires 132 = .ok (.iload 4, 2) := by decide +kernel
theorem dX12_wires_134 : decode cX12_wires 134 = .ok (.isub, 1) := by decide +kernel
theorem dX12_wires_135 : decode cX12_wires 135 = .ok (.iadd, 1) := by decide +kernel
theorem dX12_wires_136 : decode cX12_wires 136 = .ok (.aload_n 0, 1) := by decide +kernel
theorem dX12_wires_137 : decode cX12_wires 137 = .ok (.getfield 67, 3) := by decide +kernel
theorem dX12_wires_140 : decode cX12_wires 140 = .ok (.iload 7, 2) := by decide +kernel
theorem dX12_wires_142 : decode cX12_wires 142 = .ok (.iaload, 1) := by decide +kernel
theorem dX12_wires_143 : decode cX12_wires 143 = .ok (.iadd, 1) := by decide +kernel
theorem dX12_wires_144 : decode cX12_wires 144 = .ok (.istore 8, 2) := by decide +kernel
theorem dX12_wires_146 : decode cX12_wires 146 = .ok (.aload_n 0, 1) := by decide +kernel
theorem dX12_wires_147 : decode cX12_wires 147 = .ok (.getfield 187, 3) := by decide +kernel
theorem dX12_wires_150 : decode cX12_wires 150 = .ok (.iload_n 1, 1) := by decide +kernel
theorem dX12_wires_151 : decode cX12_wires 151 = .ok (.iload 7, 2) := by decide +kernel
theorem dX12_wires_153 : decode cX12_wires 153 = .ok (.iastore, 1) := by decide +kernel
theorem dX12_wires_154 : decode cX12_wires 154 = .ok (.aload_n 0, 1) := by decide +kernel
theorem dX12_wires_155 : decode cX12_wires 155 = .ok (.iload_n 1, 1) := by decide +kernel
theorem dX12_wires_156 : decode cX12_wires 156 = .ok (.iconst 1, 1) := by decide +kernel
theorem dX12_wires_157 : decode cX12_wires 157 = .ok (.iadd, 1) := by decide +kernel
theorem dX12_wires_158 : decode cX12_wires 158 = .ok (.iload_n 2, 1) := by decide +kernel
theorem dX12_wires_159 : decode cX12_wires 159 = .ok (.iconst 1, 1) := by decide +kernel
theorem dX12_wires_160 : decode cX12_wires 160 = .ok (.iload 6, 2) := by decide +kernel
theorem dX12_wires_162 : decode cX12_wires 162 = .ok (.ishl, 1) := by decide +kernel
theorem dX12_wires_163 : decode cX12_wires 163 = .ok (.ior, 1) := by decide +kernel
theorem dX12_wires_164 : decode cX12_wires 164 = .ok (.iload 8, 2) := by decide +kernel
theorem dX12_wires_166 : decode cX12_wires 166 = .ok (.aload_n 0, 1) := by decide +kernel
theorem dX12_wires_167 : decode cX12_wires 167 = .ok (.getfield 49, 3) := by decide +kernel
theorem dX12_wires_170 : decode cX12_wires 170 = .ok (.iload 7, 2) := by decide +kernel
theorem dX12_wires_172 : decode cX12_wires 172 = .ok (.iaload, 1) := by decide +kernel
theorem dX12_wires_173 : decode cX12_wires 173 = .ok (.iload 5, 2) := by decide +kernel
theorem dX12_wires_175 : decode cX12_wires 175 = .ok (.aload_n 0, 1) := by decide +kernel
theorem dX12_wires_176 : decode cX12_wires 176 = .ok (.getfield 70, 3) := by decide +kernel
theorem dX12_wires_179 : decode cX12_wires 179 = .ok (.iload 7, 2) := by decide +kernel
theorem dX12_wires_181 : decode cX12_wires 181 = .ok (.iaload, 1) := by decide +kernel
theorem dX12_wires_182 : decode cX12_wires 182 = .ok (.iload 8, 2) := by decide +kernel
theorem dX12_wires_184 : decode cX12_wires 184 = .ok (.imul, 1) := by decide +kernel
theorem dX12_wires_185 : decode cX12_wires 185 = .ok (.iadd, 1) := by decide +kernel
theorem dX12_wires_186 : decode cX12_wires 186 = .ok (.invokevirtual 475, 3) := by decide +kernel
theorem dX12_wires_189 : decode cX12_wires 189 = .ok (.iinc 6 1, 3) := by decide +kernel
theorem dX12_wires_192 : decode cX12_wires 192 = .ok (.goto (-124), 3) := by decide +kernel
theorem dX12_wires_195 : decode cX12_wires 195 = .ok (.return_, 1) := by decide +kernel
theorem dX12_wire_0 : decode cX12_wire 0 = .ok (.iload_n 1, 1) := by decide +kernel
theorem dX12_wire_1 : decode cX12_wire 1 = .ok (.iconst 1, 1) := by decide +kernel
theorem dX12_wire_2 : decode cX12_wire 2 = .ok (.if_icmp .lt 34, 3) := by decide +kernel
theorem dX12_wire_5 : decode cX12_wire 5 = .ok (.iload_n 1, 1) := by decide +kernel
theorem dX12_wire_6 : decode cX12_wire 6 = .ok (.iconst 1, 1) := by decide +kernel
theorem dX12_wire_7 : decode cX12_wire 7 = .ok (.aload_n 0, 1) := by decide +kernel
theorem dX12_wire_8 : decode cX12_wire 8 = .ok (.getfield 230, 3) := by decide +kernel
theorem dX12_wire_11 : decode cX12_wire 11 = .ok (.ishl, 1) := by decide +kernel
theorem dX12_wire_12 : decode cX12_wire 12 = .ok (.if_icmp .ge 24, 3) := by decide +kernel
theorem dX12_wire_15 : decode cX12_wire 15 = .ok (.iload_n 1, 1) := by decide +kernel
theorem dX12_wire_16 : decode cX12_wire 16 = .ok (.invokestatic 460, 3) := by decide +kernel
theorem dX12_wire_19 : decode cX12_wire 19 = .ok (.bipush 9, 2) := by decide +kernel
theorem dX12_wire_21 : decode cX12_wire 21 = .ok (.if_icmp .gt 15, 3) := by decide +kernel
theorem dX12_wire_24 : decode cX12_wire 24 = .ok (.iload_n 2, 1) := by decide +kernel
theorem dX12_wire_25 : decode cX12_wire 25 = .ok (.iconst 0, 1) := by decide +kernel
theorem dX12_wire_26 : decode cX12_wire 26 = .ok (.iload_n 1, 1) := by decide +kernel
theorem dX12_wire_27 : decode cX12_wire 27 = .ok (.invokestatic 460, 3) := by decide +kernel
theorem dX12_wire_30 : decode cX12_wire 30 = .ok (.invokestatic 223, 3) := by decide +kernel
theorem dX12_wire_33 : decode cX12_wire 33 = .ok (.ifCond .ne 5, 3) := by decide +kernel
theorem dX12_wire_36 : decode cX12_wire 36 = .ok (.iconst (-1), 1) := by decide +kernel
theorem dX12_wire_37 : decode cX12_wire 37 = .ok (.ireturn, 1) := by decide +kernel
theorem dX12_wire_38 : decode cX12_wire 38 = .ok (.aload_n 0, 1) := by decide +kernel
theorem dX12_wire_39 : decode cX12_wire 39 = .ok (.iload_n 1, 1) := by decide +kernel
theorem dX12_wire_40 : decode cX12_wire 40 = .ok (.aload_n 0, 1) := by decide +kernel
theorem dX12_wire_41 : decode cX12_wire 41 = .ok (.getfield 230, 3) := by decide +kernel
theorem dX12_wire_44 : decode cX12_wire 44 = .ok (.invokevirtual 463, 3) := by decide +kernel
theorem dX12_wire_47 : decode cX12_wire 47 = .ok (.aload_n 0, 1) := by decide +kernel
theorem dX12_wire_48 : decode cX12_wire 48 = .ok (.iconst (-1), 1) := by decide +kernel
theorem dX12_wire_49 : decode cX12_wire 49 = .ok (.putfield 472, 3) := by decide +kernel
theorem dX12_wire_52 : decode cX12_wire 52 = .ok (.aload_n 0, 1) := by decide +kernel
theorem dX12_wire_53 : decode cX12_wire 53 = .ok (.iconst 0, 1) := by decide +kernel
theorem dX12_wire_54 : decode cX12_wire 54 = .ok (.iconst 0, 1) := by decide +kernel
theorem dX12_wire_55 : decode cX12_wire 55 = .ok (.iconst 0, 1) := by decide +kernel
theorem dX12_wire_56 : decode cX12_wire 56 = .ok (.iconst 0, 1) := by decide +kernel
theorem dX12_wire_57 : decode cX12_wire 57 = .ok (.iconst 0, 1) := by decide +kernel
theorem dX12_wire_58 : decode cX12_wire 58 = .ok (.invokevirtual 475, 3) := by decide +kernel
theorem dX12_wire_61 : decode cX12_wire 61 = .ok (.iload_n 2, 1) := by decide +kernel
theorem dX12_wire_62 : decode cX12_wire 62 = .ok (.ifCond .ne 10, 3) := by decide +kernel
theorem dX12_wire_65 : decode cX12_wire 65 = .ok (.aload_n 0, 1) := by decide +kernel
theorem dX12_wire_66 : decode cX12_wire 66 = .ok (.getfield 472, 3) := by decide +kernel
theorem dX12_wire_69 : decode cX12_wire 69 = .ok (.goto 11, 3) := by decide +kernel
theorem dX12_wire_72 : decode cX12_wire 72 = .ok (.aload_n 0, 1) := by decide +kernel
theorem dX12_wire_73 : decode cX12_wire 73 = .ok (.getfield 190, 3) := by decide +kernel
theorem dX12_wire_76 : decode cX12_wire 76 = .ok (.iload_n 2, 1) := by decide +kernel
theorem dX12_wire_77 : decode cX12_wire 77 = .ok (.iconst 1, 1) := by decide +kernel
theorem dX12_wire_78 : decode cX12_wire 78 = .ok (.isub, 1) := by decide +kernel
theorem dX12_wire_79 : decode cX12_wire 79 = .ok (.iaload, 1) := by decide +kernel
theorem dX12_wire_80 : decode cX12_wire 80 = .ok (.ireturn, 1) := by decide +kernel
theorem dX12_isParty_0 : decode cX12_isParty 0 = .ok (.iload_n 0, 1) := by decide +kernel
theorem dX12_isParty_1 : decode cX12_isParty 1 = .ok (.iconst 0, 1) := by decide +kernel
theorem dX12_isParty_2 : decode cX12_isParty 2 = .ok (.bipush 19, 2) := by decide +kernel
theorem dX12_isParty_4 : decode cX12_isParty 4 = .ok (.invokestatic 223, 3) := by decide +kernel
theorem dX12_isParty_7 : decode cX12_isParty 7 = .ok (.ireturn, 1) := by decide +kernel
theorem dX12_owe_0 : decode cX12_owe 0 = .ok (.iload_n 1, 1) := by decide +kernel
theorem dX12_owe_1 : decode cX12_owe 1 = .ok (.invokestatic 479, 3) := by decide +kernel
theorem dX12_owe_4 : decode cX12_owe 4 = .ok (.ifCond .eq 26, 3) := by decide +kernel
theorem dX12_owe_7 : decode cX12_owe 7 = .ok (.iload_n 2, 1) := by decide +kernel
theorem dX12_owe_8 : decode cX12_owe 8 = .ok (.invokestatic 479, 3) := by decide +kernel
theorem dX12_owe_11 : decode cX12_owe 11 = .ok (.ifCond .eq 19, 3) := by decide +kernel
theorem dX12_owe_14 : decode cX12_owe 14 = .ok (.iload_n 1, 1) := by decide +kernel
theorem dX12_owe_15 : decode cX12_owe 15 = .ok (.iload_n 2, 1) := by decide +kernel
theorem dX12_owe_16 : decode cX12_owe 16 = .ok (.if_icmp .eq 14, 3) := by decide +kernel
theorem dX12_owe_19 : decode cX12_owe 19 = .ok (.iload_n 3, 1) := by decide +kernel
theorem dX12_owe_20 : decode cX12_owe 20 = .ok (.iconst 0, 1) := by decide +kernel
theorem dX12_owe_21 : decode cX12_owe 21 = .ok (.ldc_w 422, 3) := by decide +kernel
theorem dX12_owe_24 : decode cX12_owe 24 = .ok (.invokestatic 223, 3) := by decide +kernel
theorem dX12_owe_27 : decode cX12_owe 27 = .ok (.ifCond .ne 5, 3) := by decide +kernel
theorem dX12_owe_30 : decode cX12_owe 30 = .ok (.iconst 0, 1) := by decide +kernel
theorem dX12_owe_31 : decode cX12_owe 31 = .ok (.ireturn, 1) := by decide +kernel
theorem dX12_owe_32 : decode cX12_owe 32 = .ok (.aload_n 0, 1) := by decide +kernel
theorem dX12_owe_33 : decode cX12_owe 33 = .ok (.getfield 193, 3) := by decide +kernel
theorem dX12_owe_36 : decode cX12_owe 36 = .ok (.bipush 20, 2) := by decide +kernel
theorem dX12_owe_38 : decode cX12_owe 38 = .ok (.iload_n 1, 1) := by decide +kernel
theorem dX12_owe_39 : decode cX12_owe 39 = .ok (.imul, 1) := by decide +kernel
theorem dX12_owe_40 : decode cX12_owe 40 = .ok (.iload_n 2, 1) := by decide +kernel
theorem dX12_owe_41 : decode cX12_owe 41 = .ok (.iadd, 1) := by decide +kernel
theorem dX12_owe_42 : decode cX12_owe 42 = .ok (.iload_n 3, 1) := by decide +kernel
theorem dX12_owe_43 : decode cX12_owe 43 = .ok (.iastore, 1) := by decide +kernel
theorem dX12_owe_44 : decode cX12_owe 44 = .ok (.iconst 1, 1) := by decide +kernel
theorem dX12_owe_45 : decode cX12_owe 45 = .ok (.ireturn, 1) := by decide +kernel
theorem dX12_purse_0 : decode cX12_purse 0 = .ok (.iload_n 1, 1) := by decide +kernel
theorem dX12_purse_1 : decode cX12_purse 1 = .ok (.bipush 16, 2) := by decide +kernel
theorem dX12_purse_3 : decode cX12_purse 3 = .ok (.bipush 19, 2) := by decide +kernel
theorem dX12_purse_5 : decode cX12_purse 5 = .ok (.invokestatic 223, 3) := by decide +kernel
theorem dX12_purse_8 : decode cX12_purse 8 = .ok (.ifCond .eq 14, 3) := by decide +kernel
theorem dX12_purse_11 : decode cX12_purse 11 = .ok (.iload_n 2, 1) := by decide +kernel
theorem dX12_purse_12 : decode cX12_purse 12 = .ok (.iconst 0, 1) := by decide +kernel
theorem dX12_purse_13 : decode cX12_purse 13 = .ok (.ldc_w 422, 3) := by decide +kernel
theorem dX12_purse_16 : decode cX12_purse 16 = .ok (.invokestatic 223, 3) := by decide +kernel
theorem dX12_purse_19 : decode cX12_purse 19 = .ok (.ifCond .ne 5, 3) := by decide +kernel
theorem dX12_purse_22 : decode cX12_purse 22 = .ok (.iconst 0, 1) := by decide +kernel
theorem dX12_purse_23 : decode cX12_purse 23 = .ok (.ireturn, 1) := by decide +kernel
theorem dX12_purse_24 : decode cX12_purse 24 = .ok (.aload_n 0, 1) := by decide +kernel
theorem dX12_purse_25 : decode cX12_purse 25 = .ok (.getfield 196, 3) := by decide +kernel
theorem dX12_purse_28 : decode cX12_purse 28 = .ok (.iload_n 1, 1) := by decide +kernel
theorem dX12_purse_29 : decode cX12_purse 29 = .ok (.iload_n 2, 1) := by decide +kernel
theorem dX12_purse_30 : decode cX12_purse 30 = .ok (.iastore, 1) := by decide +kernel
theorem dX12_purse_31 : decode cX12_purse 31 = .ok (.iconst 1, 1) := by decide +kernel
theorem dX12_purse_32 : decode cX12_purse 32 = .ok (.ireturn, 1) := by decide +kernel
theorem dX12_come_0 : decode cX12_come 0 = .ok (.iconst 0, 1) := by decide +kernel
theorem dX12_come_1 : decode cX12_come 1 = .ok (.istore_n 1, 1) := by decide +kernel
theorem dX12_come_2 : decode cX12_come 2 = .ok (.iload_n 1, 1) := by decide +kernel
theorem dX12_come_3 : decode cX12_come 3 = .ok (.bipush 20, 2) := by decide +kernel
theorem dX12_come_5 : decode cX12_come 5 = .ok (.if_icmp .ge 76, 3) := by decide +kernel
theorem dX12_come_8 : decode cX12_come 8 = .ok (.aload_n 0, 1) := by decide +kernel
theorem dX12_come_9 : decode cX12_come 9 = .ok (.getfield 211, 3) := by decide +kernel
theorem dX12_come_12 : decode cX12_come 12 = .ok (.iload_n 1, 1) := by decide +kernel
theorem dX12_come_13 : decode cX12_come 13 = .ok (.lconst 0, 1) := by decide +kernel
theorem dX12_come_14 : decode cX12_come 14 = .ok (.lastore, 1) := by decide +kernel
theorem dX12_come_15 : decode cX12_come 15 = .ok (.iconst 0, 1) := by decide +kernel
theorem dX12_come_16 : decode cX12_come 16 = .ok (.istore_n 2, 1) := by decide +kernel
theorem dX12_come_17 : decode cX12_come 17 = .ok (.iload_n 2, 1) := by decide +kernel
theorem dX12_come_18 : decode cX12_come 18 = .ok (.bipush 20, 2) := by decide +kernel
theorem dX12_come_20 : decode cX12_come 20 = .ok (.if_icmp .ge 55, 3) := by decide +kernel
theorem dX12_come_23 : decode cX12_come 23 = .ok (.aload_n 0, 1) := by decide +kernel
theorem dX12_come_24 : decode cX12_come 24 = .ok (.getfield 208, 3) := by decide +kernel
theorem dX12_come_27 : decode cX12_come 27 = .ok (.iload_n 2, 1) := by decide +kernel
theorem dX12_come_28 : decode cX12_come 28 = .ok (.laload, 1) := by decide +kernel
theorem dX12_come_29 : decode cX12_come 29 = .ok (.lconst 0, 1) := by decide +kernel
theorem dX12_come_30 : decode cX12_come 30 = .ok (.lcmp, 1) := by decide +kernel
theorem dX12_come_31 : decode cX12_come 31 = .ok (.ifCond .le 38, 3) := by decide +kernel
theorem dX12_come_34 : decode cX12_come 34 = .ok (.aload_n 0, 1) := by decide +kernel
theorem dX12_come_35 : decode cX12_come 35 = .ok (.getfield 211, 3) := by decide +kernel
theorem dX12_come_38 : decode cX12_come 38 = .ok (.iload_n 1, 1) := by decide +kernel
theorem dX12_come_39 : decode cX12_come 39 = .ok (.dup2, 1) := by decide +kernel
theorem dX12_come_40 : decode cX12_come 40 = .ok (.laload, 1) := by decide +kernel
theorem dX12_come_41 : decode cX12_come 41 = .ok (.aload_n 0, 1) := by decide +kernel
theorem dX12_come_42 : decode cX12_come 42 = .ok (.getfield 193, 3) := by decide +kernel
theorem dX12_come_45 : decode cX12_come 45 = .ok (.bipush 20, 2) := by decide +kernel
theorem dX12_come_47 : decode cX12_come 47 = .ok (.iload_n 2, 1) := by decide +kernel
theorem dX12_come_48 : decode cX12_come 48 = .ok (.imul, 1) := by decide +kernel
theorem dX12_come_49 : decode cX12_come 49 = .ok (.iload_n 1, 1) := by decide +kernel
theorem dX12_come_50 : decode cX12_come 50 = .ok (.iadd, 1) := by decide +kernel
theorem dX12_come_51 : decode cX12_come 51 = .ok (.iaload, 1) := by decide +kernel
theorem dX12_come_52 : decode cX12_come 52 = .ok (.i2l, 1) := by decide +kernel
theorem dX12_come_53 : decode cX12_come 53 = .ok (.aload_n 0, 1) := by decide +kernel
theorem dX12_come_54 : decode cX12_come 54 = .ok (.getfield 202, 3) := by decide +kernel
theorem dX12_come_57 : decode cX12_come 57 = .ok (.iload_n 2, 1) := by decide +kernel
theorem dX12_come_58 : decode cX12_come 58 = .ok (.laload, 1) := by decide +kernel
theorem dX12_come_59 : decode cX12_come 59 = .ok (.lmul, 1) := by decide +kernel
theorem dX12_come_60 : decode cX12_come 60 = .ok (.aload_n 0, 1) := by decide +kernel
theorem dX12_come_61 : decode cX12_come 61 = .ok (.getfield 208, 3) := by decide +kernel
theorem dX12_come_64 : decode cX12_come 64 = .ok (.iload_n 2, 1) := by decide +kernel
theorem dX12_come_65 : decode cX12_come 65 = .ok (.laload, 1) := by decide +kernel
theorem dX12_come_66 : decode cX12_come 66 = .ok (.ldiv, 1) := by decide +kernel
theorem dX12_come_67 : decode cX12_come 67 = .ok (.ladd, 1) := by decide +kernel
theorem dX12_come_68 : decode cX12_come 68 = .ok (.lastore, 1) := by decide +kernel
theorem dX12_come_69 : decode cX12_come 69 = .ok (.iinc 2 1, 3) := by decide +kernel
theorem dX12_come_72 : decode cX12_come 72 = .ok (.goto (-55), 3) := by decide +kernel
theorem dX12_come_75 : decode cX12_come 75 = .ok (.iinc 1 1, 3) := by decide +kernel
theorem dX12_come_78 : decode cX12_come 78 = .ok (.goto (-76), 3) := by decide +kernel
theorem dX12_come_81 : decode cX12_come 81 = .ok (.return_, 1) := by decide +kernel
theorem dX12_clears_0 : decode cX12_clears 0 = .ok (.iconst 0, 1) := by decide +kernel
theorem dX12_clears_1 : decode cX12_clears 1 = .ok (.istore_n 2, 1) := by decide +kernel
theorem dX12_clears_2 : decode cX12_clears 2 = .ok (.iload_n 2, 1) := by decide +kernel
theorem dX12_clears_3 : decode cX12_clears 3 = .ok (.bipush 20, 2) := by decide +kernel
theorem dX12_clears_5 : decode cX12_clears 5 = .ok (.if_icmp .ge 129, 3) := by decide +kernel
theorem dX12_clears_8 : decode cX12_clears 8 = .ok (.iload_n 2, 1) := by decide +kernel
theorem dX12_clears_9 : decode cX12_clears 9 = .ok (.bipush 16, 2) := by decide +kernel
theorem dX12_clears_11 : decode cX12_clears 11 = .ok (.if_icmp .lt 13, 3) := by decide +kernel
theorem dX12_clears_14 : decode cX12_clears 14 = .ok (.aload_n 0, 1) := by decide +kernel
theorem dX12_clears_15 : decode cX12_clears 15 = .ok (.getfield 196, 3) := by decide +kernel
theorem dX12_clears_18 : decode cX12_clears 18 = .ok (.iload_n 2, 1) := by decide +kernel
theorem dX12_clears_19 : decode cX12_clears 19 = .ok (.iaload, 1) := by decide +kernel
theorem dX12_clears_20 : decode cX12_clears 20 = .ok (.i2l, 1) := by decide +kernel
theorem dX12_clears_21 : decode cX12_clears 21 = .ok (.goto 32, 3) := by decide +kernel
theorem dX12_clears_24 : decode cX12_clears 24 = .ok (.iload_n 2, 1) := by decide +kernel
theorem dX12_clears_25 : decode cX12_clears 25 = .ok (.aload_n 0, 1) := by decide +kernel
theorem dX12_clears_26 : decode cX12_clears 26 = .ok (.getfield 230, 3) := by decide +kernel
theorem dX12_clears_29 : decode cX12_clears 29 = .ok (.if_icmp .ge 23, 3) := by decide +kernel
theorem dX12_clears_32 : decode cX12_clears 32 = .ok (.aload_n 0, 1) := by decide +kernel
theorem dX12_clears_33 : decode cX12_clears 33 = .ok (.getfield 73, 3) := by decide +kernel
theorem dX12_clears_36 : decode cX12_clears 36 = .ok (.iload_n 2, 1) := by decide +kernel
theorem dX12_clears_37 : decode cX12_clears 37 = .ok (.laload, 1) := by decide +kernel
theorem dX12_clears_38 : decode cX12_clears 38 = .ok (.lconst 0, 1) := by decide +kernel
theorem dX12_clears_39 : decode cX12_clears 39 = .ok (.lcmp, 1) := by decide +kernel
theorem dX12_clears_40 : decode cX12_clears 40 = .ok (.ifCond .le 12, 3) := by decide +kernel
theorem dX12_clears_43 : decode cX12_clears 43 = .ok (.aload_n 0, 1) := by decide +kernel
theorem dX12_clears_44 : decode cX12_clears 44 = .ok (.getfield 73, 3) := by decide +kernel
theorem dX12_clears_47 : decode cX12_clears 47 = .ok (.iload_n 2, 1) := by decide +kernel
theorem dX12_clears_48 : decode cX12_clears 48 = .ok (.laload, 1) := by decide +kernel
theorem dX12_clears_49 : decode cX12_clears 49 = .ok (.goto 4, 3) := by decide +kernel
theorem dX12_clears_52 : decode cX12_clears 52 = .ok (.lconst 0, 1) := by decide +kernel
theorem dX12_clears_53 : decode cX12_clears 53 = .ok (.lstore_n 3, 1) := by decide +kernel
theorem dX12_clears_54 : decode cX12_clears 54 = .ok (.aload_n 0, 1) := by decide +kernel
theorem dX12_clears_55 : decode cX12_clears 55 = .ok (.getfield 199, 3) := by decide +kernel
theorem dX12_clears_58 : decode cX12_clears 58 = .ok (.iload_n 2, 1) := by decide +kernel
theorem dX12_clears_59 : decode cX12_clears 59 = .ok (.lload_n 3, 1) := by decide +kernel
theorem dX12_clears_60 : decode cX12_clears 60 = .ok (.bipush 100, 2) := by decide +kernel
theorem dX12_clears_62 : decode cX12_clears 62 = .ok (.iload_n 1, 1) := by decide +kernel
theorem dX12_clears_63 : decode cX12_clears 63 = .ok (.isub, 1) := by decide +kernel
theorem dX12_clears_64 : decode cX12_clears 64 = .ok (.i2l, 1) := by decide +kernel
theorem dX12_clears_65 : decode cX12_clears 65 = .ok (.lmul, 1) := by decide +kernel
theorem dX12_clears_66 : decode cX12_clears 66 = .ok (.ldc2_w 482, 3) := by decide +kernel
theorem dX12_clears_69 : decode cX12_clears 69 = .ok (.ldiv, 1) := by decide +kernel
theorem dX12_clears_70 : decode cX12_clears 70 = .ok (.lastore, 1) := by decide +kernel
theorem dX12_clears_71 : decode cX12_clears 71 = .ok (.aload_n 0, 1) := by decide +kernel
theorem dX12_clears_72 : decode cX12_clears 72 = .ok (.getfield 208, 3) := by decide +kernel
theorem dX12_clears_75 : decode cX12_clears 75 = .ok (.iload_n 2, 1) := by decide +kernel
theorem dX12_clears_76 : decode cX12_clears 76 = .ok (.lconst 0, 1) := by decide +kernel
theorem dX12_clears_77 : decode cX12_clears 77 = .ok (.lastore, 1) := by decide +kernel
theorem dX12_clears_78 : decode cX12_clears 78 = .ok (.iconst 0, 1) := by decide +kernel
theorem dX12_clears_79 : decode cX12_clears 79 = .ok (.istore 5, 2) := by decide +kernel
theorem dX12_clears_81 : decode cX12_clears 81 = .ok (.iload 5, 2) := by decide +kernel
theorem dX12_clears_83 : decode cX12_clears 83 = .ok (.bipush 20, 2) := by decide +kernel
theorem dX12_clears_85 : decode cX12_clears 85 = .ok (.if_icmp .ge 31, 3) := by decide +kernel
theorem dX12_clears_88 : decode cX12_clears 88 = .ok (.aload_n 0, 1) := by decide +kernel
theorem dX12_clears_89 : decode cX12_clears 89 = .ok (.getfield 208, 3) := by decide +kernel
theorem dX12_clears_92 : decode cX12_clears 92 = .ok (.iload_n 2, 1) := by decide +kernel
theorem dX12_clears_93 : decode cX12_clears 93 = .ok (.dup2, 1) := by decide +kernel
theorem dX12_clears_94 : decode cX12_clears 94 = .ok (.laload, 1) := by decide +kernel
theorem dX12_clears_95 : decode cX12_clears 95 = .ok (.aload_n 0, 1) := by decide +kernel
theorem dX12_clears_96 : decode cX12_clears 96 = .ok (.getfield 193, 3) := by decide +kernel
theorem dX12_clears_99 : decode cX12_clears 99 = .ok (.bipush 20, 2) := by decide +kernel
theorem dX12_clears_101 : decode cX12_clears 101 = .ok (.iload_n 2, 1) := by decide +kernel
theorem dX12_clears_102 : decode cX12_clears 102 = .ok (.imul, 1) := by decide +kernel
theorem dX12_clears_103 : decode cX12_clears 103 = .ok (.iload 5, 2) := by decide +kernel
theorem dX12_clears_105 : decode cX12_clears 105 = .ok (.iadd, 1) := by decide +kernel
theorem dX12_clears_106 : decode cX12_clears 106 = .ok (.iaload, 1) := by decide +kernel
theorem dX12_clears_107 : decode cX12_clears 107 = .ok (.i2l, 1) := by decide +kernel
theorem dX12_clears_108 : decode cX12_clears 108 = .ok (.ladd, 1) := by decide +kernel
theorem dX12_clears_109 : decode cX12_clears 109 = .ok (.lastore, 1) := by decide +kernel
theorem dX12_clears_110 : decode cX12_clears 110 = .ok (.iinc 5 1, 3) := by decide +kernel
theorem dX12_clears_113 : decode cX12_clears 113 = .ok (.goto (-32), 3) := by decide +kernel
theorem dX12_clears_116 : decode cX12_clears 116 = .ok (.aload_n 0, 1) := by decide +kernel
theorem dX12_clears_117 : decode cX12_clears 117 = .ok (.getfield 202, 3) := by decide +kernel
theorem dX12_clears_120 : decode cX12_clears 120 = .ok (.iload_n 2, 1) := by decide +kernel
theorem dX12_clears_121 : decode cX12_clears 121 = .ok (.aload_n 0, 1) := by decide +kernel
theorem dX12_clears_122 : decode cX12_clears 122 = .ok (.getfield 208, 3) := by decide +kernel
theorem dX12_clears_125 : decode cX12_clears 125 = .ok (.iload_n 2, 1) := by decide +kernel
theorem dX12_clears_126 : decode cX12_clears 126 = .ok (.laload, 1) := by decide +kernel
theorem dX12_clears_127 : decode cX12_clears 127 = .ok (.lastore, 1) := by decide +kernel
theorem dX12_clears_128 : decode cX12_clears 128 = .ok (.iinc 2 1, 3) := by decide +kernel
theorem dX12_clears_131 : decode cX12_clears 131 = .ok (.goto (-129), 3) := by decide +kernel
theorem dX12_clears_134 : decode cX12_clears 134 = .ok (.aload_n 0, 1) := by decide +kernel
theorem dX12_clears_135 : decode cX12_clears 135 = .ok (.iconst 0, 1) := by decide +kernel
theorem dX12_clears_136 : decode cX12_clears 136 = .ok (.putfield 484, 3) := by decide +kernel
theorem dX12_clears_139 : decode cX12_clears 139 = .ok (.iconst 0, 1) := by decide +kernel
theorem dX12_clears_140 : decode cX12_clears 140 = .ok (.istore_n 2, 1) := by decide +kernel
theorem dX12_clears_141 : decode cX12_clears 141 = .ok (.iload_n 2, 1) := by decide +kernel
theorem dX12_clears_142 : decode cX12_clears 142 = .ok (.ifCond .ne 135, 3) := by decide +kernel
theorem dX12_clears_145 : decode cX12_clears 145 = .ok (.aload_n 0, 1) := by decide +kernel
theorem dX12_clears_146 : decode cX12_clears 146 = .ok (.getfield 484, 3) := by decide +kernel
theorem dX12_clears_149 : decode cX12_clears 149 = .ok (.sipush 300, 3) := by decide +kernel
theorem dX12_clears_152 : decode cX12_clears 152 = .ok (.if_icmp .ge 125, 3) := by decide +kernel
theorem dX12_clears_155 : decode cX12_clears 155 = .ok (.aload_n 0, 1) := by decide +kernel
theorem dX12_clears_156 : decode cX12_clears 156 = .ok (.invokevirtual 487, 3) := by decide +kernel
theorem dX12_clears_159 : decode cX12_clears 159 = .ok (.iconst 1, 1) := by decide +kernel
theorem dX12_clears_160 : decode cX12_clears 160 = .ok (.istore_n 2, 1) := by decide +kernel
theorem dX12_clears_161 : decode cX12_clears 161 = .ok (.iconst 0, 1) := by decide +kernel
theorem dX12_clears_162 : decode cX12_clears 162 = .ok (.istore_n 3, 1) := by decide +kernel
theorem dX12_clears_163 : decode cX12_clears 163 = .ok (.iload_n 3, 1) := by decide +kernel
theorem dX12_clears_164 : decode cX12_clears 164 = .ok (.bipush 20, 2) := by decide +kernel
theorem dX12_clears_166 : decode cX12_clears 166 = .ok (.if_icmp .ge 98, 3) := by decide +kernel
theorem dX12_clears_169 : decode cX12_clears 169 = .ok (.aload_n 0, 1) := by decide +kernel
theorem dX12_clears_170 : decode cX12_clears 170 = .ok (.getfield 205, 3) := by decide +kernel
theorem dX12_clears_173 : decode cX12_clears 173 = .ok (.iload_n 3, 1) := by decide +kernel
theorem dX12_clears_174 : decode cX12_clears 174 = .ok (.aload_n 0, 1) := by decide +kernel
theorem dX12_clears_175 : decode cX12_clears 175 = .ok (.getfield 202, 3) := by decide +kernel
theorem dX12_clears_178 : decode cX12_clears 178 = .ok (.iload_n 3, 1) := by decide +kernel
theorem dX12_clears_179 : decode cX12_clears 179 = .ok (.laload, 1) := by decide +kernel
theorem dX12_clears_180 : decode cX12_clears 180 = .ok (.lastore, 1) := by decide +kernel
theorem dX12_clears_181 : decode cX12_clears 181 = .ok (.aload_n 0, 1) := by decide +kernel
theorem dX12_clears_182 : decode cX12_clears 182 = .ok (.getfield 202, 3) := by decide +kernel
theorem dX12_clears_185 : decode cX12_clears 185 = .ok (.iload_n 3, 1) := by decide +kernel
theorem dX12_clears_186 : decode cX12_clears 186 = .ok (.aload_n 0, 1) := by decide +kernel
theorem dX12_clears_187 : decode cX12_clears 187 = .ok (.getfield 199, 3) := by decide +kernel
theorem dX12_clears_190 : decode cX12_clears 190 = .ok (.iload_n 3, 1) := by decide +kernel
theorem dX12_clears_191 : decode cX12_clears 191 = .ok (.laload, 1) := by decide +kernel
theorem dX12_clears_192 : decode cX12_clears 192 = .ok (.aload_n 0, 1) := by decide +kernel
theorem dX12_clears_193 : decode cX12_clears 193 = .ok (.getfield 211, 3) := by decide +kernel
theorem dX12_clears_196 : decode cX12_clears 196 = .ok (.iload_n 3, 1) := by decide +kernel
theorem dX12_clears_197 : decode cX12_clears 197 = .ok (.laload, 1) := by decide +kernel
theorem dX12_clears_198 : decode cX12_clears 198 = .ok (.ladd, 1) := by decide +kernel
theorem dX12_clears_199 : decode cX12_clears 199 = .ok (.aload_n 0, 1) := by decide +kernel
theorem dX12_clears_200 : decode cX12_clears 200 = .ok (.getfield 208, 3) := by decide +kernel
theorem dX12_clears_203 : decode cX12_clears 203 = .ok (.iload_n 3, 1) := by decide +kernel
theorem dX12_clears_204 : decode cX12_clears 204 = .ok (.laload, 1) := by decide +kernel
theorem dX12_clears_205 : decode cX12_clears 205 = .ok (.lcmp, 1) := by decide +kernel
theorem dX12_clears_206 : decode cX12_clears 206 = .ok (.ifCond .ge 19, 3) := by decide +kernel
theorem dX12_clears_209 : decode cX12_clears 209 = .ok (.aload_n 0, 1) := by decide +kernel
theorem dX12_clears_210 : decode cX12_clears 210 = .ok (.getfield 199, 3) := by decide +kernel
theorem dX12_clears_213 : decode cX12_clears 213 = .ok (.iload_n 3, 1) := by decide +kernel
theorem dX12_clears_214 : decode cX12_clears 214 = .ok (.laload, 1) := by decide +kernel
theorem dX12_clears_215 : decode cX12_clears 215 = .ok (.aload_n 0, 1) := by decide +kernel
theorem dX12_clears_216 : decode cX12_clears 216 = .ok (.getfield 211, 3) := by decide +kernel
theorem dX12_clears_219 : decode cX12_clears 219 = .ok (.iload_n 3, 1) := by decide +kernel
theorem dX12_clears_220 : decode cX12_clears 220 = .ok (.laload, 1) := by decide +kernel
theorem dX12_clears_221 : decode cX12_clears 221 = .ok (.ladd, 1) := by decide +kernel
theorem dX12_clears_222 : decode cX12_clears 222 = .ok (.goto 9, 3) := by decide +kernel
theorem dX12_clears_225 : decode cX12_clears 225 = .ok (.aload_n 0, 1) := by decide +kernel
theorem dX12_clears_226 : decode cX12_clears 226 = .ok (.getfield 208, 3) := by decide +kernel
theorem dX12_clears_229 : decode cX12_clears 229 = .ok (.iload_n 3, 1) := by decide +kernel
theorem dX12_clears_230 : decode cX12_clears 230 = .ok (.laload, 1) := by decide +kernel
theorem dX12_clears_231 : decode cX12_clears 231 = .ok (.lastore, 1) := by decide +kernel
theorem dX12_clears_232 : decode cX12_clears 232 = .ok (.iload_n 2, 1) := by decide +kernel
theorem dX12_clears_233 : decode cX12_clears 233 = .ok (.ifCond .eq 23, 3) := by decide +kernel
theorem dX12_clears_236 : decode cX12_clears 236 = .ok (.aload_n 0, 1) := by decide +kernel
theorem dX12_clears_237 : decode cX12_clears 237 = .ok (.getfield 202, 3) := by decide +kernel
theorem dX12_clears_240 : decode cX12_clears 240 = .ok (.iload_n 3, 1) := by decide +kernel
theorem dX12_clears_241 : decode cX12_clears 241 = .ok (.laload, 1) := by decide +kernel
theorem dX12_clears_242 : decode cX12_clears 242 = .ok (.aload_n 0, 1) := by decide +kernel
theorem dX12_clears_243 : decode cX12_clears 243 = .ok (.getfield 205, 3) := by decide +kernel
theorem dX12_clears_246 : decode cX12_clears 246 = .ok (.iload_n 3, 1) := by decide +kernel
theorem dX12_clears_247 : decode cX12_clears 247 = .ok (.laload, 1) := by decide +kernel
theorem dX12_clears_248 : decode cX12_clears 248 = .ok (.lcmp, 1) := by decide +kernel
theorem dX12_clears_249 : decode cX12_clears 249 = .ok (.ifCond .ne 7, 3) := by decide +kernel
theorem dX12_clears_252 : decode cX12_clears 252 = .ok (.iconst 1, 1) := by decide +kernel
theorem dX12_clears_253 : decode cX12_clears 253 = .ok (.goto 4, 3) := by decide +kernel
theorem dX12_clears_256 : decode cX12_clears 256 = .ok (.iconst 0, 1) := by decide +kernel
theorem dX12_clears_257 : decode cX12_clears 257 = .ok (.istore_n 2, 1) := by decide +kernel
theorem dX12_clears_258 : decode cX12_clears 258 = .ok (.iinc 3 1, 3) := by decide +kernel
theorem dX12_clears_261 : decode cX12_clears 261 = .ok (.goto (-98), 3) := by decide +kernel
theorem dX12_clears_264 : decode cX12_clears 264 = .ok (.aload_n 0, 1) := by decide +kernel
theorem dX12_clears_265 : decode cX12_clears 265 = .ok (.dup, 1) := by decide +kernel
theorem dX12_clears_266 : decode cX12_clears 266 = .ok (.getfield 484, 3) := by decide +kernel
theorem dX12_clears_269 : decode cX12_clears 269 = .ok (.iconst 1, 1) := by decide +kernel
theorem dX12_clears_270 : decode cX12_clears 270 = .ok (.iadd, 1) := by decide +kernel
theorem dX12_clears_271 : decode cX12_clears 271 = .ok (.putfield 484, 3) := by decide +kernel
theorem dX12_clears_274 : decode cX12_clears 274 = .ok (.goto (-133), 3) := by decide +kernel
theorem dX12_clears_277 : decode cX12_clears 277 = .ok (.aload_n 0, 1) := by decide +kernel
theorem dX12_clears_278 : decode cX12_clears 278 = .ok (.invokevirtual 487, 3) := by decide +kernel
theorem dX12_clears_281 : decode cX12_clears 281 = .ok (.return_, 1) := by decide +kernel
theorem dX12_clear_0 : decode cX12_clear 0 = .ok (.iload_n 1, 1) := by decide +kernel
theorem dX12_clear_1 : decode cX12_clear 1 = .ok (.iconst 0, 1) := by decide +kernel
theorem dX12_clear_2 : decode cX12_clear 2 = .ok (.bipush 100, 2) := by decide +kernel
theorem dX12_clear_4 : decode cX12_clear 4 = .ok (.invokestatic 223, 3) := by decide +kernel
theorem dX12_clear_7 : decode cX12_clear 7 = .ok (.ifCond .eq 19, 3) := by decide +kernel
theorem dX12_clear_10 : decode cX12_clear 10 = .ok (.iload_n 2, 1) := by decide +kernel
theorem dX12_clear_11 : decode cX12_clear 11 = .ok (.invokestatic 479, 3) := by decide +kernel
theorem dX12_clear_14 : decode cX12_clear 14 = .ok (.ifCond .eq 12, 3) := by decide +kernel
theorem dX12_clear_17 : decode cX12_clear 17 = .ok (.iload_n 3, 1) := by decide +kernel
theorem dX12_clear_18 : decode cX12_clear 18 = .ok (.iconst 0, 1) := by decide +kernel
theorem dX12_clear_19 : decode cX12_clear 19 = .ok (.iconst 3, 1) := by decide +kernel
theorem dX12_clear_20 : decode cX12_clear 20 = .ok (.invokestatic 223, 3) := by decide +kernel
theorem dX12_clear_23 : decode cX12_clear 23 = .ok (.ifCond .ne 7, 3) := by decide +kernel
theorem dX12_clear_26 : decode cX12_clear 26 = .ok (.ldc2_w 449, 3) := by decide +kernel
theorem dX12_clear_29 : decode cX12_clear 29 = .ok (.lreturn, 1) := by decide +kernel
theorem dX12_clear_30 : decode cX12_clear 30 = .ok (.aload_n 0, 1) := by decide +kernel
theorem dX12_clear_31 : decode cX12_clear 31 = .ok (.iload_n 1, 1) := by decide +kernel
theorem dX12_clear_32 : decode cX12_clear 32 = .ok (.invokevirtual 490, 3) := by decide +kernel
theorem dX12_clear_35 : decode cX12_clear 35 = .ok (.iload_n 3, 1) := by decide +kernel
theorem dX12_clear_36 : decode cX12_clear 36 = .ok (.ifCond .ne 12, 3) := by decide +kernel
theorem dX12_clear_39 : decode cX12_clear 39 = .ok (.aload_n 0, 1) := by decide +kernel
theorem dX12_clear_40 : decode cX12_clear 40 = .ok (.getfield 202, 3) := by decide +kernel
theorem dX12_clear_43 : decode cX12_clear 43 = .ok (.iload_n 2, 1) := by decide +kernel
theorem dX12_clear_44 : decode cX12_clear 44 = .ok (.laload, 1) := by decide +kernel
theorem dX12_clear_45 : decode cX12_clear 45 = .ok (.goto 51, 3) := by decide +kernel
theorem dX12_clear_48 : decode cX12_clear 48 = .ok (.iload_n 3, 1) := by decide +kernel
theorem dX12_clear_49 : decode cX12_clear 49 = .ok (.iconst 1, 1) := by decide +kernel
theorem dX12_clear_50 : decode cX12_clear 50 = .ok (.if_icmp .ne 12, 3) := by decide +kernel
theorem dX12_clear_53 : decode cX12_clear 53 = .ok (.aload_n 0, 1) := by decide +kernel
theorem dX12_clear_54 : decode cX12_clear 54 = .ok (.getfield 211, 3) := by decide +kernel
theorem dX12_clear_57 : decode cX12_clear 57 = .ok (.iload_n 2, 1) := by decide +kernel
theorem dX12_clear_58 : decode cX12_clear 58 = .ok (.laload, 1) := by decide +kernel
theorem dX12_clear_59 : decode cX12_clear 59 = .ok (.goto 37, 3) := by decide +kernel
theorem dX12_clear_62 : decode cX12_clear 62 = .ok (.iload_n 3, 1) := by decide +kernel
theorem dX12_clear_63 : decode cX12_clear 63 = .ok (.iconst 2, 1) := by decide +kernel
theorem dX12_clear_64 : decode cX12_clear 64 = .ok (.if_icmp .ne 27, 3) := by decide +kernel
theorem dX12_clear_67 : decode cX12_clear 67 = .ok (.aload_n 0, 1) := by decide +kernel
theorem dX12_clear_68 : decode cX12_clear 68 = .ok (.getfield 202, 3) := by decide +kernel
theorem dX12_clear_71 : decode cX12_clear 71 = .ok (.iload_n 2, 1) := by decide +kernel
theorem dX12_clear_72 : decode cX12_clear 72 = .ok (.laload, 1) := by decide +kernel
theorem dX12_clear_73 : decode cX12_clear 73 = .ok (.aload_n 0, 1) := by decide +kernel
theorem dX12_clear_74 : decode cX12_clear 74 = .ok (.getfield 208, 3) := by decide +kernel
theorem dX12_clear_77 : decode cX12_clear 77 = .ok (.iload_n 2, 1) := by decide +kernel
theorem dX12_clear_78 : decode cX12_clear 78 = .ok (.laload, 1) := by decide +kernel
theorem dX12_clear_79 : decode cX12_clear 79 = .ok (.lcmp, 1) := by decide +kernel
theorem dX12_clear_80 : decode cX12_clear 80 = .ok (.ifCond .ge 7, 3) := by decide +kernel
theorem dX12_clear_83 : decode cX12_clear 83 = .ok (.lconst 1, 1) := by decide +kernel
theorem dX12_clear_84 : decode cX12_clear 84 = .ok (.goto 12, 3) := by decide +kernel
theorem dX12_clear_87 : decode cX12_clear 87 = .ok (.lconst 0, 1) := by decide +kernel
theorem dX12_clear_88 : decode cX12_clear 88 = .ok (.goto 8, 3) := by decide +kernel
theorem dX12_clear_91 : decode cX12_clear 91 = .ok (.aload_n 0, 1) := by decide +kernel
theorem dX12_clear_92 : decode cX12_clear 92 = .ok (.getfield 484, 3) := by decide +kernel
theorem dX12_clear_95 : decode cX12_clear 95 = .ok (.i2l, 1) := by decide +kernel
theorem dX12_clear_96 : decode cX12_clear 96 = .ok (.lreturn, 1) := by decide +kernel
theorem dX12_clause_0 : decode cX12_clause 0 = .ok (.iload_n 1, 1) := by decide +kernel
theorem dX12_clause_1 : decode cX12_clause 1 = .ok (.bipush (-99), 2) := by decide +kernel
theorem dX12_clause_3 : decode cX12_clause 3 = .ok (.bipush 99, 2) := by decide +kernel
theorem dX12_clause_5 : decode cX12_clause 5 = .ok (.invokestatic 223, 3) := by decide +kernel
theorem dX12_clause_8 : decode cX12_clause 8 = .ok (.ifCond .eq 34, 3) := by decide +kernel
theorem dX12_clause_11 : decode cX12_clause 11 = .ok (.iload_n 2, 1) := by decide +kernel
theorem dX12_clause_12 : decode cX12_clause 12 = .ok (.bipush (-99), 2) := by decide +kernel
theorem dX12_clause_14 : decode cX12_clause 14 = .ok (.bipush 99, 2) := by decide +kernel
theorem dX12_clause_16 : decode cX12_clause 16 = .ok (.invokestatic 223, 3) := by decide +kernel
theorem dX12_clause_19 : decode cX12_clause 19 = .ok (.ifCond .eq 23, 3) := by decide +kernel
theorem dX12_clause_22 : decode cX12_clause 22 = .ok (.iload_n 3, 1) := by decide +kernel
theorem dX12_clause_23 : decode cX12_clause 23 = .ok (.bipush (-99), 2) := by decide +kernel
theorem dX12_clause_25 : decode cX12_clause 25 = .ok (.bipush 99, 2) := by decide +kernel
theorem dX12_clause_27 : decode cX12_clause 27 = .ok (.invokestatic 223, 3) := by decide +kernel
theorem dX12_clause_30 : decode cX12_clause 30 = .ok (.ifCond .eq 12, 3) := by decide +kernel
theorem dX12_clause_33 : decode cX12_clause 33 = .ok (.aload_n 0, 1) := by decide +kernel
theorem dX12_clause_34 : decode cX12_clause 34 = .ok (.getfield 494, 3) := by decide +kernel
theorem dX12_clause_37 : decode cX12_clause 37 = .ok (.bipush 9, 2) := by decide +kernel
theorem dX12_clause_39 : decode cX12_clause 39 = .ok (.if_icmp .ne 5, 3) := by decide +kernel
theorem dX12_clause_42 : decode cX12_clause 42 = .ok (.iconst (-1), 1) := by decide +kernel
theorem dX12_clause_43 : decode cX12_clause 43 = .ok (.ireturn, 1) := by decide +kernel
theorem dX12_clause_44 : decode cX12_clause 44 = .ok (.aload_n 0, 1) := by decide +kernel
theorem dX12_clause_45 : decode cX12_clause 45 = .ok (.getfield 214, 3) := by decide +kernel
theorem dX12_clause_48 : decode cX12_clause 48 = .ok (.iconst 3, 1) := by decide +kernel
theorem dX12_clause_49 : decode cX12_clause 49 = .ok (.aload_n 0, 1) := by decide +kernel
theorem dX12_clause_50 : decode cX12_clause 50 = .ok (.getfield 494, 3) := by decide +kernel
theorem dX12_clause_53 : decode cX12_clause 53 = .ok (.imul, 1) := by decide +kernel
theorem dX12_clause_54 : decode cX12_clause 54 = .ok (.iload_n 1, 1) := by decide +kernel
theorem dX12_clause_55 : decode cX12_clause 55 = .ok (.iastore, 1) := by decide +kernel
theorem dX12_clause_56 : decode cX12_clause 56 = .ok (.aload_n 0, 1) := by decide +kernel
theorem dX12_clause_57 : decode cX12_clause 57 = .ok (.getfield 214, 3) := by decide +kernel
theorem dX12_clause_60 : decode cX12_clause 60 = .ok (.iconst 3, 1) := by decide +kernel
theorem dX12_clause_61 : decode cX12_clause 61 = .ok (.aload_n 0, 1) := by decide +kernel
theorem dX12_clause_62 : decode cX12_clause 62 = .ok (.getfield 494, 3) := by decide +kernel
theorem dX12_clause_65 : decode cX12_clause 65 = .ok (.imul, 1) := by decide +kernel
theorem dX12_clause_66 : decode cX12_clause 66 = .ok (.iconst 1, 1) := by decide +kernel
theorem dX12_clause_67 : decode cX12_clause 67 = .ok (.iadd, 1) := by decide +kernel
theorem dX12_clause_68 : decode cX12_clause 68 = .ok (.iload_n 2, 1) := by decide +kernel
theorem dX12_clause_69 : decode cX12_clause 69 = .ok (.iastore, 1) := by decide +kernel
theorem dX12_clause_70 : decode cX12_clause 70 = .ok (.aload_n 0, 1) := by decide +kernel
theorem dX12_clause_71 : decode cX12_clause 71 = .ok (.getfield 214, 3) := by decide +kernel
theorem dX12_clause_74 : decode cX12_clause 74 = .ok (.iconst 3, 1) := by decide +kernel
theorem dX12_clause_75 : decode cX12_clause 75 = .ok (.aload_n 0, 1) := by decide +kernel
theorem dX12_clause_76 : decode cX12_clause 76 = .ok (.getfield 494, 3) := by decide +kernel
theorem dX12_clause_79 : decode cX12_clause 79 = .ok (.imul, 1) := by decide +kernel
theorem dX12_clause_80 : decode cX12_clause 80 = .ok (.iconst 2, 1) := by decide +kernel
theorem dX12_clause_81 : decode cX12_clause 81 = .ok (.iadd, 1) := by decide +kernel
theorem dX12_clause_82 : decode cX12_clause 82 = .ok (.iload_n 3, 1) := by decide +kernel
theorem dX12_clause_83 : decode cX12_clause 83 = .ok (.iastore, 1) := by decide +kernel
theorem dX12_clause_84 : decode cX12_clause 84 = .ok (.aload_n 0, 1) := by decide +kernel
theorem dX12_clause_85 : decode cX12_clause 85 = .ok (.dup, 1) := by decide +kernel
theorem dX12_clause_86 : decode cX12_clause 86 = .ok (.getfield 494, 3) := by decide +kernel
theorem dX12_clause_89 : decode cX12_clause 89 = .ok (.iconst 1, 1) := by decide +kernel
theorem dX12_clause_90 : decode cX12_clause 90 = .ok (.iadd, 1) := by decide +kernel
theorem dX12_clause_91 : decode cX12_clause 91 = .ok (.putfield 494, 3) := by decide +kernel
theorem dX12_clause_94 : decode cX12_clause 94 = .ok (.aload_n 0, 1) := by decide +kernel
theorem dX12_clause_95 : decode cX12_clause 95 = .ok (.getfield 494, 3) := by decide +kernel
theorem dX12_clause_98 : decode cX12_clause 98 = .ok (.iconst 1, 1) := by decide +kernel
theorem dX12_clause_99 : decode cX12_clause 99 = .ok (.isub, 1) := by decide +kernel
theorem dX12_clause_100 : decode cX12_clause 100 = .ok (.ireturn, 1) := by decide +kernel
theorem dX12_stand_0 : decode cX12_stand 0 = .ok (.iload_n 1, 1) := by decide +kernel
theorem dX12_stand_1 : decode cX12_stand 1 = .ok (.iconst 0, 1) := by decide +kernel
theorem dX12_stand_2 : decode cX12_stand 2 = .ok (.iconst 2, 1) := by decide +kernel
theorem dX12_stand_3 : decode cX12_stand 3 = .ok (.invokestatic 223, 3) := by decide +kernel
theorem dX12_stand_6 : decode cX12_stand 6 = .ok (.ifCond .eq 16, 3) := by decide +kernel
theorem dX12_stand_9 : decode cX12_stand 9 = .ok (.iload_n 2, 1) := by decide +kernel
theorem dX12_stand_10 : decode cX12_stand 10 = .ok (.sipush (-999), 3) := by decide +kernel
theorem dX12_stand_13 : decode cX12_stand 13 = .ok (.sipush 999, 3) := by decide +kernel
theorem dX12_stand_16 : decode cX12_stand 16 = .ok (.invokestatic 223, 3) := by decide +kernel
theorem dX12_stand_19 : decode cX12_stand 19 = .ok (.ifCond .ne 5, 3) := by decide +kernel
theorem dX12_stand_22 : decode cX12_stand 22 = .ok (.iconst 0, 1) := by decide +kernel
theorem dX12_stand_23 : decode cX12_stand 23 = .ok (.ireturn, 1) := by decide +kernel
theorem dX12_stand_24 : decode cX12_stand 24 = .ok (.aload_n 0, 1) := by decide +kernel
theorem dX12_stand_25 : decode cX12_stand 25 = .ok (.getfield 217, 3) := by decide +kernel
theorem dX12_stand_28 : decode cX12_stand 28 = .ok (.iload_n 1, 1) := by decide +kernel
theorem dX12_stand_29 : decode cX12_stand 29 = .ok (.iload_n 2, 1) := by decide +kernel
theorem dX12_stand_30 : decode cX12_stand 30 = .ok (.iastore, 1) := by decide +kernel
theorem dX12_stand_31 : decode cX12_stand 31 = .ok (.iconst 1, 1) := by decide +kernel
theorem dX12_stand_32 : decode cX12_stand 32 = .ok (.ireturn, 1) := by decide +kernel
theorem dX12_worthTo_0 : decode cX12_worthTo 0 = .ok (.iconst 0, 1) := by decide +kernel
theorem dX12_worthTo_1 : decode cX12_worthTo 1 = .ok (.istore_n 3, 1) := by decide +kernel
theorem dX12_worthTo_2 : decode cX12_worthTo 2 = .ok (.iconst 0, 1) := by decide +kernel
theorem dX12_worthTo_3 : decode cX12_worthTo 3 = .ok (.istore 4, 2) := by decide +kernel
theorem dX12_worthTo_5 : decode cX12_worthTo 5 = .ok (.iload 4, 2) := by decide +kernel
theorem dX12_worthTo_7 : decode cX12_worthTo 7 = .ok (.aload_n 0, 1) := by decide +kernel
theorem dX12_worthTo_8 : decode cX12_worthTo 8 = .ok (.getfield 494, 3) := by decide +kernel
theorem dX12_worthTo_11 : decode cX12_worthTo 11 = .ok (.if_icmp .ge 30, 3) := by decide +kernel
theorem dX12_worthTo_14 : decode cX12_worthTo 14 = .ok (.iload_n 3, 1) := by decide +kernel
theorem dX12_worthTo_15 : decode cX12_worthTo 15 = .ok (.iload_n 2, 1) := by decide +kernel
theorem dX12_worthTo_16 : decode cX12_worthTo 16 = .ok (.iload 4, 2) := by decide +kernel
theorem dX12_worthTo_18 : decode cX12_worthTo 18 = .ok (.ishr, 1) := by decide +kernel
theorem dX12_worthTo_19 : decode cX12_worthTo 19 = .ok (.iconst 1, 1) := by decide +kernel
theorem dX12_worthTo_20 : decode cX12_worthTo 20 = .ok (.iand, 1) := by decide +kernel
theorem dX12_worthTo_21 : decode cX12_worthTo 21 = .ok (.aload_n 0, 1) := by decide +kernel
theorem dX12_worthTo_22 : decode cX12_worthTo 22 = .ok (.getfield 214, 3) := by decide +kernel
theorem dX12_worthTo_25 : decode cX12_worthTo 25 = .ok (.iconst 3, 1) := by decide +kernel
theorem dX12_worthTo_26 : decode cX12_worthTo 26 = .ok (.iload 4, 2) := by decide +kernel
theorem dX12_worthTo_28 : decode cX12_worthTo 28 = .ok (.imul, 1) := by decide +kernel
theorem dX12_worthTo_29 : decode cX12_worthTo 29 = .ok (.iload_n 1, 1) := by decide +kernel
theorem dX12_worthTo_30 : decode cX12_worthTo 30 = .ok (.iadd, 1) := by decide +kernel
theorem dX12_worthTo_31 : decode cX12_worthTo 31 = .ok (.iaload, 1) := by decide +kernel
theorem dX12_worthTo_32 : decode cX12_worthTo 32 = .ok (.imul, 1) := by decide +kernel
theorem dX12_worthTo_33 : decode cX12_worthTo 33 = .ok (.iadd, 1) := by decide +kernel
theorem dX12_worthTo_34 : decode cX12_worthTo 34 = .ok (.istore_n 3, 1) := by decide +kernel
theorem dX12_worthTo_35 : decode cX12_worthTo 35 = .ok (.iinc 4 1, 3) := by decide +kernel
theorem dX12_worthTo_38 : decode cX12_worthTo 38 = .ok (.goto (-33), 3) := by decide +kernel
theorem dX12_worthTo_41 : decode cX12_worthTo 41 = .ok (.iload_n 3, 1) := by decide +kernel
theorem dX12_worthTo_42 : decode cX12_worthTo 42 = .ok (.ireturn, 1) := by decide +kernel
theorem dX12_signs_0 : decode cX12_signs 0 = .ok (.aload_n 0, 1) := by decide +kernel
theorem dX12_signs_1 : decode cX12_signs 1 = .ok (.iload_n 1, 1) := by decide +kernel
theorem dX12_signs_2 : decode cX12_signs 2 = .ok (.iload_n 2, 1) := by decide +kernel
theorem dX12_signs_3 : decode cX12_signs 3 = .ok (.invokevirtual 497, 3) := by decide +kernel
theorem dX12_signs_6 : decode cX12_signs 6 = .ok (.aload_n 0, 1) := by decide +kernel
theorem dX12_signs_7 : decode cX12_signs 7 = .ok (.getfield 217, 3) := by decide +kernel
theorem dX12_signs_10 : decode cX12_signs 10 = .ok (.iload_n 1, 1) := by decide +kernel
theorem dX12_signs_11 : decode cX12_signs 11 = .ok (.iaload, 1) := by decide +kernel
theorem dX12_signs_12 : decode cX12_signs 12 = .ok (.if_icmp .lt 7, 3) := by decide +kernel
theorem dX12_signs_15 : decode cX12_signs 15 = .ok (.iconst 1, 1) := by decide +kernel
theorem dX12_signs_16 : decode cX12_signs 16 = .ok (.goto 4, 3) := by decide +kernel
theorem dX12_signs_19 : decode cX12_signs 19 = .ok (.iconst 0, 1) := by decide +kernel
theorem dX12_signs_20 : decode cX12_signs 20 = .ok (.ireturn, 1) := by decide +kernel
theorem dX12_poolOf_0 : decode cX12_poolOf 0 = .ok (.iconst (-1), 1) := by decide +kernel
theorem dX12_poolOf_1 : decode cX12_poolOf 1 = .ok (.istore_n 1, 1) := by decide +kernel
theorem dX12_poolOf_2 : decode cX12_poolOf 2 = .ok (.iconst 0, 1) := by decide +kernel
theorem dX12_poolOf_3 : decode cX12_poolOf 3 = .ok (.istore_n 2, 1) := by decide +kernel
theorem dX12_poolOf_4 : decode cX12_poolOf 4 = .ok (.iload_n 2, 1) := by decide +kernel
theorem dX12_poolOf_5 : decode cX12_poolOf 5 = .ok (.iconst 1, 1) := by decide +kernel
theorem dX12_poolOf_6 : decode cX12_poolOf 6 = .ok (.aload_n 0, 1) := by decide +kernel
theorem dX12_poolOf_7 : decode cX12_poolOf 7 = .ok (.getfield 494, 3) := by decide +kernel
theorem dX12_poolOf_10 : decode cX12_poolOf 10 = .ok (.ishl, 1) := by decide +kernel
theorem dX12_poolOf_11 : decode cX12_poolOf 11 = .ok (.if_icmp .ge 59, 3) := by decide +kernel
theorem dX12_poolOf_14 : decode cX12_poolOf 14 = .ok (.aload_n 0, 1) := by decide +kernel
theorem dX12_poolOf_15 : decode cX12_poolOf 15 = .ok (.iconst 0, 1) := by decide +kernel
theorem dX12_poolOf_16 : decode cX12_poolOf 16 = .ok (.iload_n 2, 1) := by decide +kernel
theorem dX12_poolOf_17 : decode cX12_poolOf 17 = .ok (.invokevirtual 500, 3) := by decide +kernel
theorem dX12_poolOf_20 : decode cX12_poolOf 20 = .ok (.ifCond .eq 44, 3) := by decide +kernel
theorem dX12_poolOf_23 : decode cX12_poolOf 23 = .ok (.aload_n 0, 1) := by decide +kernel
theorem dX12_poolOf_24 : decode cX12_poolOf 24 = .ok (.iconst 1, 1) := by decide +kernel
theorem dX12_poolOf_25 : decode cX12_poolOf 25 = .ok (.iload_n 2, 1) := by decide +kernel
theorem dX12_poolOf_26 : decode cX12_poolOf 26 = .ok (.invokevirtual 500, 3) := by decide +kernel
theorem dX12_poolOf_29 : decode cX12_poolOf 29 = .ok (.ifCond .eq 35, 3) := by decide +kernel
theorem dX12_poolOf_32 : decode cX12_poolOf 32 = .ok (.aload_n 0, 1) := by decide +kernel
theorem dX12_poolOf_33 : decode cX12_poolOf 33 = .ok (.iconst 2, 1) := by decide +kernel
theorem dX12_poolOf_34 : decode cX12_poolOf 34 = .ok (.iload_n 2, 1) := by decide +kernel
theorem dX12_poolOf_35 : decode cX12_poolOf 35 = .ok (.invokevirtual 500, 3) := by decide +kernel
theorem dX12_poolOf_38 : decode cX12_poolOf 38 = .ok (.ifCond .ne 6, 3) := by decide +kernel
theorem dX12_poolOf_41 : decode cX12_poolOf 41 = .ok (.goto 23, 3) := by decide +kernel
theorem dX12_poolOf_44 : decode cX12_poolOf 44 = .ok (.iload_n 1, 1) := by decide +kernel
theorem dX12_poolOf_45 : decode cX12_poolOf 45 = .ok (.iconst (-1), 1) := by decide +kernel
theorem dX12_poolOf_46 : decode cX12_poolOf 46 = .ok (.if_icmp .eq 16, 3) := by decide +kernel
theorem dX12_poolOf_49 : decode cX12_poolOf 49 = .ok (.aload_n 0, 1) := by decide +kernel
theorem dX12_poolOf_50 : decode cX12_poolOf 50 = .ok (.iload_n 2, 1) := by decide +kernel
theorem dX12_poolOf_51 : decode cX12_poolOf 51 = .ok (.invokevirtual 503, 3) := by decide +kernel
theorem dX12_poolOf_54 : decode cX12_poolOf 54 = .ok (.aload_n 0, 1) := by decide +kernel
theorem dX12_poolOf_55 : decode cX12_poolOf 55 = .ok (.iload_n 1, 1) := by decide +kernel
theorem dX12_poolOf_56 : decode cX12_poolOf 56 = .ok (.invokevirtual 503, 3) := by decide +kernel
theorem dX12_poolOf_59 : decode cX12_poolOf 59 = .ok (.if_icmp .le 5, 3) := by decide +kernel
theorem dX12_poolOf_62 : decode cX12_poolOf 62 = .ok (.iload_n 2, 1) := by decide +kernel
theorem dX12_poolOf_63 : decode cX12_poolOf 63 = .ok (.istore_n 1, 1) := by decide +kernel
theorem dX12_poolOf_64 : decode cX12_poolOf 64 = .ok (.iinc 2 1, 3) := by decide +kernel
theorem dX12_poolOf_67 : decode cX12_poolOf 67 = .ok (.goto (-63), 3) := by decide +kernel
theorem dX12_poolOf_70 : decode cX12_poolOf 70 = .ok (.iload_n 1, 1) := by decide +kernel
theorem dX12_poolOf_71 : decode cX12_poolOf 71 = .ok (.ireturn, 1) := by decide +kernel
theorem dX12_worthAll_0 : decode cX12_worthAll 0 = .ok (.aload_n 0, 1) := by decide +kernel
theorem dX12_worthAll_1 : decode cX12_worthAll 1 = .ok (.iconst 0, 1) := by decide +kernel
theorem dX12_worthAll_2 : decode cX12_worthAll 2 = .ok (.iload_n 1, 1) := by decide +kernel
theorem dX12_worthAll_3 : decode cX12_worthAll 3 = .ok (.invokevirtual 497, 3) := by decide +kernel
theorem dX12_worthAll_6 : decode cX12_worthAll 6 = .ok (.aload_n 0, 1) := by decide +kernel
theorem dX12_worthAll_7 : decode cX12_worthAll 7 = .ok (.iconst 1, 1) := by decide +kernel
theorem dX12_worthAll_8 : decode cX12_worthAll 8 = .ok (.iload_n 1, 1) := by decide +kernel
theorem dX12_worthAll_9 : decode cX12_worthAll 9 = .ok (.invokevirtual 497, 3) := by decide +kernel
theorem dX12_worthAll_12 : decode cX12_worthAll 12 = .ok (.iadd, 1) := by decide +kernel
theorem dX12_worthAll_13 : decode cX12_worthAll 13 = .ok (.aload_n 0, 1) := by decide +kernel
theorem dX12_worthAll_14 : decode cX12_worthAll 14 = .ok (.iconst 2, 1) := by decide +kernel
theorem dX12_worthAll_15 : decode cX12_worthAll 15 = .ok (.iload_n 1, 1) := by decide +kernel
theorem dX12_worthAll_16 : decode cX12_worthAll 16 = .ok (.invokevirtual 497, 3) := by decide +kernel
theorem dX12_worthAll_19 : decode cX12_worthAll 19 = .ok (.iadd, 1) := by decide +kernel
theorem dX12_worthAll_20 : decode cX12_worthAll 20 = .ok (.ireturn, 1) := by decide +kernel
theorem dX12_shutOut_0 : decode cX12_shutOut 0 = .ok (.iconst 0, 1) := by decide +kernel
theorem dX12_shutOut_1 : decode cX12_shutOut 1 = .ok (.istore_n 1, 1) := by decide +kernel
theorem dX12_shutOut_2 : decode cX12_shutOut 2 = .ok (.iload_n 1, 1) := by decide +kernel
theorem dX12_shutOut_3 : decode cX12_shutOut 3 = .ok (.iconst 3, 1) := by decide +kernel
theorem dX12_shutOut_4 : decode cX12_shutOut 4 = .ok (.if_icmp .ge 55, 3) := by decide +kernel
theorem dX12_shutOut_7 : decode cX12_shutOut 7 = .ok (.iconst 0, 1) := by decide +kernel
theorem dX12_shutOut_8 : decode cX12_shutOut 8 = .ok (.istore_n 2, 1) := by decide +kernel
theorem dX12_shutOut_9 : decode cX12_shutOut 9 = .ok (.iload_n 2, 1) := by decide +kernel
theorem dX12_shutOut_10 : decode cX12_shutOut 10 = .ok (.iconst 1, 1) := by decide +kernel
theorem dX12_shutOut_11 : decode cX12_shutOut 11 = .ok (.aload_n 0, 1) := by decide +kernel
theorem dX12_shutOut_12 : decode cX12_shutOut 12 = .ok (.getfield 494, 3) := by decide +kernel
theorem dX12_shutOut_15 : decode cX12_shutOut 15 = .ok (.ishl, 1) := by decide +kernel
theorem dX12_shutOut_16 : decode cX12_shutOut 16 = .ok (.if_icmp .ge 37, 3) := by decide +kernel
theorem dX12_shutOut_19 : decode cX12_shutOut 19 = .ok (.aload_n 0, 1) := by decide +kernel
theorem dX12_shutOut_20 : decode cX12_shutOut 20 = .ok (.iload_n 1, 1) := by decide +kernel
theorem dX12_shutOut_21 : decode cX12_shutOut 21 = .ok (.iconst 1, 1) := by decide +kernel
theorem dX12_shutOut_22 : decode cX12_shutOut 22 = .ok (.iadd, 1) := by decide +kernel
theorem dX12_shutOut_23 : decode cX12_shutOut 23 = .ok (.iconst 3, 1) := by decide +kernel
theorem dX12_shutOut_24 : decode cX12_shutOut 24 = .ok (.irem, 1) := by decide +kernel
theorem dX12_shutOut_25 : decode cX12_shutOut 25 = .ok (.iload_n 2, 1) := by decide +kernel
theorem dX12_shutOut_26 : decode cX12_shutOut 26 = .ok (.invokevirtual 500, 3) := by decide +kernel
theorem dX12_shutOut_29 : decode cX12_shutOut 29 = .ok (.ifCond .eq 18, 3) := by decide +kernel
theorem dX12_shutOut_32 : decode cX12_shutOut 32 = .ok (.aload_n 0, 1) := by decide +kernel
theorem dX12_shutOut_33 : decode cX12_shutOut 33 = .ok (.iload_n 1, 1) := by decide +kernel
theorem dX12_shutOut_34 : decode cX12_shutOut 34 = .ok (.iconst 2, 1) := by decide +kernel
theorem dX12_shutOut_35 : decode cX12_shutOut 35 = .ok (.iadd, 1) := by decide +kernel
theorem dX12_shutOut_36 : decode cX12_shutOut 36 = .ok (.iconst 3, 1) := by decide +kernel
theorem dX12_shutOut_37 : decode cX12_shutOut 37 = .ok (.irem, 1) := by decide +kernel
theorem dX12_shutOut_38 : decode cX12_shutOut 38 = .ok (.iload_n 2, 1) := by decide +kernel
theorem dX12_shutOut_39 : decode cX12_shutOut 39 = .ok (.invokevirtual 500, 3) := by decide +kernel
theorem dX12_shutOut_42 : decode cX12_shutOut 42 = .ok (.ifCond .eq 5, 3) := by decide +kernel
theorem dX12_shutOut_45 : decode cX12_shutOut 45 = .ok (.iload_n 1, 1) := by decide +kernel
theorem dX12_shutOut_46 : decode cX12_shutOut 46 = .ok (.ireturn, 1) := by decide +kernel
theorem dX12_shutOut_47 : decode cX12_shutOut 47 = .ok (.iinc 2 1, 3) := by decide +kernel
theorem dX12_shutOut_50 : decode cX12_shutOut 50 = .ok (.goto (-41), 3) := by decide +kernel
theorem dX12_shutOut_53 : decode cX12_shutOut 53 = .ok (.iinc 1 1, 3) := by decide +kernel
theorem dX12_shutOut_56 : decode cX12_shutOut 56 = .ok (.goto (-54), 3) := by decide +kernel
theorem dX12_shutOut_59 : decode cX12_shutOut 59 = .ok (.iconst 3, 1) := by decide +kernel
theorem dX12_shutOut_60 : decode cX12_shutOut 60 = .ok (.ireturn, 1) := by decide +kernel
theorem dX12_pool_0 : decode cX12_pool 0 = .ok (.iload_n 1, 1) := by decide +kernel
theorem dX12_pool_1 : decode cX12_pool 1 = .ok (.iconst 0, 1) := by decide +kernel
theorem dX12_pool_2 : decode cX12_pool 2 = .ok (.iconst 2, 1) := by decide +kernel
theorem dX12_pool_3 : decode cX12_pool 3 = .ok (.invokestatic 223, 3) := by decide +kernel
theorem dX12_pool_6 : decode cX12_pool 6 = .ok (.ifCond .ne 16, 3) := by decide +kernel
theorem dX12_pool_9 : decode cX12_pool 9 = .ok (.iload_n 1, 1) := by decide +kernel
theorem dX12_pool_10 : decode cX12_pool 10 = .ok (.bipush 10, 2) := by decide +kernel
theorem dX12_pool_12 : decode cX12_pool 12 = .ok (.bipush 12, 2) := by decide +kernel
theorem dX12_pool_14 : decode cX12_pool 14 = .ok (.invokestatic 223, 3) := by decide +kernel
theorem dX12_pool_17 : decode cX12_pool 17 = .ok (.ifCond .ne 5, 3) := by decide +kernel
theorem dX12_pool_20 : decode cX12_pool 20 = .ok (.iconst (-1), 1) := by decide +kernel
theorem dX12_pool_21 : decode cX12_pool 21 = .ok (.ireturn, 1) := by decide +kernel
theorem dX12_pool_22 : decode cX12_pool 22 = .ok (.aload_n 0, 1) := by decide +kernel
theorem dX12_pool_23 : decode cX12_pool 23 = .ok (.invokevirtual 506, 3) := by decide +kernel
theorem dX12_pool_26 : decode cX12_pool 26 = .ok (.istore_n 2, 1) := by decide +kernel
theorem dX12_pool_27 : decode cX12_pool 27 = .ok (.iload_n 1, 1) := by decide +kernel
theorem dX12_pool_28 : decode cX12_pool 28 = .ok (.tableswitch 59 0 2 #[28, 30, 45], 28) := by decide +kernel
theorem dX12_pool_56 : decode cX12_pool 56 = .ok (.iload_n 2, 1) := by decide +kernel
theorem dX12_pool_57 : decode cX12_pool 57 = .ok (.ireturn, 1) := by decide +kernel
theorem dX12_pool_58 : decode cX12_pool 58 = .ok (.iload_n 2, 1) := by decide +kernel
theorem dX12_pool_59 : decode cX12_pool 59 = .ok (.iconst (-1), 1) := by decide +kernel
theorem dX12_pool_60 : decode cX12_pool 60 = .ok (.if_icmp .ne 7, 3) := by decide +kernel
theorem dX12_pool_63 : decode cX12_pool 63 = .ok (.iconst 0, 1) := by decide +kernel
theorem dX12_pool_64 : decode cX12_pool 64 = .ok (.goto 8, 3) := by decide +kernel
theorem dX12_pool_67 : decode cX12_pool 67 = .ok (.aload_n 0, 1) := by decide +kernel
theorem dX12_pool_68 : decode cX12_pool 68 = .ok (.iload_n 2, 1) := by decide +kernel
theorem dX12_pool_69 : decode cX12_pool 69 = .ok (.invokevirtual 503, 3) := by decide +kernel
theorem dX12_pool_72 : decode cX12_pool 72 = .ok (.ireturn, 1) := by decide +kernel
theorem dX12_pool_73 : decode cX12_pool 73 = .ok (.iload_n 2, 1) := by decide +kernel
theorem dX12_pool_74 : decode cX12_pool 74 = .ok (.iconst (-1), 1) := by decide +kernel
theorem dX12_pool_75 : decode cX12_pool 75 = .ok (.if_icmp .ne 10, 3) := by decide +kernel
theorem dX12_pool_78 : decode cX12_pool 78 = .ok (.aload_n 0, 1) := by decide +kernel
theorem dX12_pool_79 : decode cX12_pool 79 = .ok (.invokevirtual 509, 3) := by decide +kernel
theorem dX12_pool_82 : decode cX12_pool 82 = .ok (.goto 4, 3) := by decide +kernel
theorem dX12_pool_85 : decode cX12_pool 85 = .ok (.iconst (-1), 1) := by decide +kernel
theorem dX12_pool_86 : decode cX12_pool 86 = .ok (.ireturn, 1) := by decide +kernel
theorem dX12_pool_87 : decode cX12_pool 87 = .ok (.iload_n 2, 1) := by decide +kernel
theorem dX12_pool_88 : decode cX12_pool 88 = .ok (.iconst (-1), 1) := by decide +kernel
theorem dX12_pool_89 : decode cX12_pool 89 = .ok (.if_icmp .ne 7, 3) := by decide +kernel
theorem dX12_pool_92 : decode cX12_pool 92 = .ok (.iconst 0, 1) := by decide +kernel
theorem dX12_pool_93 : decode cX12_pool 93 = .ok (.goto 12, 3) := by decide +kernel
theorem dX12_pool_96 : decode cX12_pool 96 = .ok (.aload_n 0, 1) := by decide +kernel
theorem dX12_pool_97 : decode cX12_pool 97 = .ok (.iload_n 1, 1) := by decide +kernel
theorem dX12_pool_98 : decode cX12_pool 98 = .ok (.bipush 10, 2) := by decide +kernel
theorem dX12_pool_100 : decode cX12_pool 100 = .ok (.isub, 1) := by decide +kernel
theorem dX12_pool_101 : decode cX12_pool 101 = .ok (.iload_n 2, 1) := by decide +kernel
theorem dX12_pool_102 : decode cX12_pool 102 = .ok (.invokevirtual 497, 3) := by decide +kernel
theorem dX12_pool_105 : decode cX12_pool 105 = .ok (.ireturn, 1) := by decide +kernel
theorem dX12_look_0 : decode cX12_look 0 = .ok (.lconst 0, 1) := by decide +kernel
theorem dX12_look_1 : decode cX12_look 1 = .ok (.lstore_n 2, 1) := by decide +kernel
theorem dX12_look_2 : decode cX12_look 2 = .ok (.iload_n 1, 1) := by decide +kernel
theorem dX12_look_3 : decode cX12_look 3 = .ok (.tableswitch 228 0 10 #[57, 63, 69, 75, 81, 87, 93, 99, 129, 160, 200], 57) := by decide +kernel
theorem dX12_look_60 : decode cX12_look 60 = .ok (.aload_n 0, 1) := by decide +kernel
theorem dX12_look_61 : decode cX12_look 61 = .ok (.getfield 253, 3) := by decide +kernel
theorem dX12_look_64 : decode cX12_look 64 = .ok (.i2l, 1) := by decide +kernel
theorem dX12_look_65 : decode cX12_look 65 = .ok (.lreturn, 1) := by decide +kernel
theorem dX12_look_66 : decode cX12_look 66 = .ok (.aload_n 0, 1) := by decide +kernel
theorem dX12_look_67 : decode cX12_look 67 = .ok (.getfield 220, 3) := by decide +kernel
theorem dX12_look_70 : decode cX12_look 70 = .ok (.i2l, 1) := by decide +kernel
theorem dX12_look_71 : decode cX12_look 71 = .ok (.lreturn, 1) := by decide +kernel
theorem dX12_look_72 : decode cX12_look 72 = .ok (.aload_n 0, 1) := by decide +kernel
theorem dX12_look_73 : decode cX12_look 73 = .ok (.getfield 227, 3) := by decide +kernel
theorem dX12_look_76 : decode cX12_look 76 = .ok (.i2l, 1) := by decide +kernel
theorem dX12_look_77 : decode cX12_look 77 = .ok (.lreturn, 1) := by decide +kernel
theorem dX12_look_78 : decode cX12_look 78 = .ok (.aload_n 0, 1) := by decide +kernel
theorem dX12_look_79 : decode cX12_look 79 = .ok (.getfield 250, 3) := by decide +kernel
theorem dX12_look_82 : decode cX12_look 82 = .ok (.i2l, 1) := by decide +kernel
theorem dX12_look_83 : decode cX12_look 83 = .ok (.lreturn, 1) := by decide +kernel
theorem dX12_look_84 : decode cX12_look 84 = .ok (.aload_n 0, 1) := by decide +kernel
theorem dX12_look_85 : decode cX12_look 85 = .ok (.getfield 230, 3) := by decide +kernel
theorem dX12_look_88 : decode cX12_look 88 = .ok (.i2l, 1) := by decide +kernel
theorem dX12_look_89 : decode cX12_look 89 = .ok (.lreturn, 1) := by decide +kernel
theorem dX12_look_90 : decode cX12_look 90 = .ok (.aload_n 0, 1) := by decide +kernel
theorem dX12_look_91 : decode cX12_look 91 = .ok (.getfield 233, 3) := by decide +kernel
theorem dX12_look_94 : decode cX12_look 94 = .ok (.i2l, 1) := by decide +kernel
theorem dX12_look_95 : decode cX12_look 95 = .ok (.lreturn, 1) := by decide +kernel
theorem dX12_look_96 : decode cX12_look 96 = .ok (.aload_n 0, 1) := by decide +kernel
theorem dX12_look_97 : decode cX12_look 97 = .ok (.getfield 236, 3) := by decide +kernel
theorem dX12_look_100 : decode cX12_look 100 = .ok (.i2l, 1) := by decide +kernel
theorem dX12_look_101 : decode cX12_look 101 = .ok (.lreturn, 1) := by decide +kernel
theorem dX12_look_102 : decode cX12_look 102 = .ok (.iconst 0, 1) := by decide +kernel
theorem dX12_look_103 : decode cX12_look 103 = .ok (.istore 4, 2) := by decide +kernel
theorem dX12_look_105 : decode cX12_look 105 = .ok (.iload 4, 2) := by decide +kernel
theorem dX12_look_107 : decode cX12_look 107 = .ok (.aload_n 0, 1) := by decide +kernel
theorem dX12_look_108 : decode cX12_look 108 = .ok (.getfield 230, 3) := by decide +kernel
theorem dX12_look_111 : decode cX12_look 111 = .ok (.if_icmp .ge 19, 3) := by decide +kernel
theorem dX12_look_114 : decode cX12_look 114 = .ok (.lload_n 2, 1) := by decide +kernel
theorem dX12_look_115 : decode cX12_look 115 = .ok (.aload_n 0, 1) := by decide +kernel
theorem dX12_look_116 : decode cX12_look 116 = .ok (.getfield 77, 3) := by decide +kernel
theorem dX12_look_119 : decode cX12_look 119 = .ok (.iload 4, 2) := by decide +kernel
theorem dX12_look_121 : decode cX12_look 121 = .ok (.laload, 1) := by decide +kernel
theorem dX12_look_122 : decode cX12_look 122 = .ok (.ladd, 1) := by decide +kernel
theorem dX12_look_123 : decode cX12_look 123 = .ok (.lstore_n 2, 1) := by decide +kernel
theorem dX12_look_124 : decode cX12_look 124 = .ok (.iinc 4 1, 3) := by decide +kernel
theorem dX12_look_127 : decode cX12_look 127 = .ok (.goto (-22), 3) := by decide +kernel
theorem dX12_look_130 : decode cX12_look 130 = .ok (.lload_n 2, 1) := by decide +kernel
theorem dX12_look_131 : decode cX12_look 131 = .ok (.lreturn, 1) := by decide +kernel
theorem dX12_look_132 : decode cX12_look 132 = .ok (.iconst 0, 1) := by decide +kernel
theorem dX12_look_133 : decode cX12_look 133 = .ok (.istore 4, 2) := by decide +kernel
theorem dX12_look_135 : decode cX12_look 135 = .ok (.iload 4, 2) := by decide +kernel
theorem dX12_look_137 : decode cX12_look 137 = .ok (.aload_n 0, 1) := by decide +kernel
theorem dX12_look_138 : decode cX12_look 138 = .ok (.getfield 230, 3) := by decide +kernel
theorem dX12_look_141 : decode cX12_look 141 = .ok (.if_icmp .ge 20, 3) := by decide +kernel
theorem dX12_look_144 : decode cX12_look 144 = .ok (.lload_n 2, 1) := by decide +kernel
theorem dX12_look_145 : decode cX12_look 145 = .ok (.aload_n 0, 1) := by decide +kernel
theorem dX12_look_146 : decode cX12_look 146 = .ok (.getfield 58, 3) := by decide +kernel
theorem dX12_look_149 : decode cX12_look 149 = .ok (.iload 4, 2) := by decide +kernel
theorem dX12_look_151 : decode cX12_look 151 = .ok (.iaload, 1) := by decide +kernel
theorem dX12_look_152 : decode cX12_look 152 = .ok (.i2l, 1) := by decide +kernel
theorem dX12_look_153 : decode cX12_look 153 = .ok (.ladd, 1) := by decide +kernel
theorem dX12_look_154 : decode cX12_look 154 = .ok (.lstore_n 2, 1) := by decide +kernel
theorem dX12_look_155 : decode cX12_look 155 = .ok (.iinc 4 1, 3) := by decide +kernel
theorem dX12_look_158 : decode cX12_look 158 = .ok (.goto (-23), 3) := by decide +kernel
theorem dX12_look_161 : decode cX12_look 161 = .ok (.lload_n 2, 1) := by decide +kernel
theorem dX12_look_162 : decode cX12_look 162 = .ok (.lreturn, 1) := by decide +kernel
theorem dX12_look_163 : decode cX12_look 163 = .ok (.iconst 0, 1) := by decide +kernel
theorem dX12_look_164 : decode cX12_look 164 = .ok (.istore 4, 2) := by decide +kernel
theorem dX12_look_166 : decode cX12_look 166 = .ok (.iload 4, 2) := by decide +kernel
theorem dX12_look_168 : decode cX12_look 168 = .ok (.aload_n 0, 1) := by decide +kernel
theorem dX12_look_169 : decode cX12_look 169 = .ok (.getfield 227, 3) := by decide +kernel
theorem dX12_look_172 : decode cX12_look 172 = .ok (.if_icmp .ge 29, 3) := by decide +kernel
theorem dX12_look_175 : decode cX12_look 175 = .ok (.lload_n 2, 1) := by decide +kernel
theorem dX12_look_176 : decode cX12_look 176 = .ok (.aload_n 0, 1) := by decide +kernel
theorem dX12_look_177 : decode cX12_look 177 = .ok (.getfield 28, 3) := by decide +kernel
theorem dX12_look_180 : decode cX12_look 180 = .ok (.iload 4, 2) := by decide +kernel
theorem dX12_look_182 : decode cX12_look 182 = .ok (.iaload, 1) := by decide +kernel
theorem dX12_look_183 : decode cX12_look 183 = .ok (.bipush 12, 2) := by decide +kernel
theorem dX12_look_185 : decode cX12_look 185 = .ok (.if_icmp .ne 7, 3) := by decide +kernel
theorem dX12_look_188 : decode cX12_look 188 = .ok (.lconst 1, 1) := by decide +kernel
theorem dX12_look_189 : decode cX12_look 189 = .ok (.goto 4, 3) := by decide +kernel
theorem dX12_look_192 : decode cX12_look 192 = .ok (.lconst 0, 1) := by decide +kernel
theorem dX12_look_193 : decode cX12_look 193 = .ok (.ladd, 1) := by decide +kernel
theorem dX12_look_194 : decode cX12_look 194 = .ok (.lstore_n 2, 1) := by decide +kernel
theorem dX12_look_195 : decode cX12_look 195 = .ok (.iinc 4 1, 3) := by decide +kernel
theorem dX12_look_198 : decode cX12_look 198 = .ok (.goto (-32), 3) := by decide +kernel
theorem dX12_look_201 : decode cX12_look 201 = .ok (.lload_n 2, 1) := by decide +kernel
theorem dX12_look_202 : decode cX12_look 202 = .ok (.lreturn, 1) := by decide +kernel
theorem dX12_look_203 : decode cX12_look 203 = .ok (.iconst 0, 1) := by decide +kernel
theorem dX12_look_204 : decode cX12_look 204 = .ok (.istore 4, 2) := by decide +kernel
theorem dX12_look_206 : decode cX12_look 206 = .ok (.iload 4, 2) := by decide +kernel
theorem dX12_look_208 : decode cX12_look 208 = .ok (.iconst 3, 1) := by decide +kernel
theorem dX12_look_209 : decode cX12_look 209 = .ok (.if_icmp .ge 20, 3) := by decide +kernel
theorem dX12_look_212 : decode cX12_look 212 = .ok (.lload_n 2, 1) := by decide +kernel
theorem dX12_look_213 : decode cX12_look 213 = .ok (.aload_n 0, 1) := by decide +kernel
theorem dX12_look_214 : decode cX12_look 214 = .ok (.getfield 92, 3) := by decide +kernel
theorem dX12_look_217 : decode cX12_look 217 = .ok (.iload 4, 2) := by decide +kernel
theorem dX12_look_219 : decode cX12_look 219 = .ok (.iaload, 1) := by decide +kernel
theorem dX12_look_220 : decode cX12_look 220 = .ok (.i2l, 1) := by decide +kernel
theorem dX12_look_221 : decode cX12_look 221 = .ok (.ladd, 1) := by decide +kernel
theorem dX12_look_222 : decode cX12_look 222 = .ok (.lstore_n 2, 1) := by decide +kernel
theorem dX12_look_223 : decode cX12_look 223 = .ok (.iinc 4 1, 3) := by decide +kernel
theorem dX12_look_226 : decode cX12_look 226 = .ok (.goto (-20), 3) := by decide +kernel
theorem dX12_look_229 : decode cX12_look 229 = .ok (.lload_n 2, 1) := by decide +kernel
theorem dX12_look_230 : decode cX12_look 230 = .ok (.lreturn, 1) := by decide +kernel
theorem dX12_look_231 : decode cX12_look 231 = .ok (.ldc2_w 449, 3) := by decide +kernel
theorem dX12_look_234 : decode cX12_look 234 = .ok (.lreturn, 1) := by decide +kernel
theorem dJ11_isValidCodePoint_9a6ad_0 : decode cJ11_isValidCodePoint_9a6ad 0 = .ok (.iload_n 0, 1) := by decide +kernel
theorem dJ11_isValidCodePoint_9a6ad_1 : decode cJ11_isValidCodePoint_9a6ad 1 = .ok (.bipush 16, 2) := by decide +kernel
theorem dJ11_isValidCodePoint_9a6ad_3 : decode cJ11_isValidCodePoint_9a6ad 3 = .ok (.iushr, 1) := by decide +kernel
theorem dJ11_isValidCodePoint_9a6ad_4 : decode cJ11_isValidCodePoint_9a6ad 4 = .ok (.istore_n 1, 1) := by decide +kernel
theorem dJ11_isValidCodePoint_9a6ad_5 : decode cJ11_isValidCodePoint_9a6ad 5 = .ok (.iload_n 1, 1) := by decide +kernel
theorem dJ11_isValidCodePoint_9a6ad_6 : decode cJ11_isValidCodePoint_9a6ad 6 = .ok (.bipush 17, 2) := by decide +kernel
theorem dJ11_isValidCodePoint_9a6ad_8 : decode cJ11_isValidCodePoint_9a6ad 8 = .ok (.if_icmp .ge 7, 3) := by decide +kernel
theorem dJ11_isValidCodePoint_9a6ad_11 : decode cJ11_isValidCodePoint_9a6ad 11 = .ok (.iconst 1, 1) := by decide +kernel
theorem dJ11_isValidCodePoint_9a6ad_12 : decode cJ11_isValidCodePoint_9a6ad 12 = .ok (.goto 4, 3) := by decide +kernel
theorem dJ11_isValidCodePoint_9a6ad_15 : decode cJ11_isValidCodePoint_9a6ad 15 = .ok (.iconst 0, 1) := by decide +kernel
theorem dJ11_isValidCodePoint_9a6ad_16 : decode cJ11_isValidCodePoint_9a6ad 16 = .ok (.ireturn, 1) := by decide +kernel
theorem dJ11_highSurrogate_5068e_0 : decode cJ11_highSurrogate_5068e 0 = .ok (.iload_n 0, 1) := by decide +kernel
theorem dJ11_highSurrogate_5068e_1 : decode cJ11_highSurrogate_5068e 1 = .ok (.bipush 10, 2) := by decide +kernel
theorem dJ11_highSurrogate_5068e_3 : decode cJ11_highSurrogate_5068e 3 = .ok (.iushr, 1) := by decide +kernel
theorem dJ11_highSurrogate_5068e_4 : decode cJ11_highSurrogate_5068e 4 = .ok (.ldc 110, 2) := by decide +kernel
theorem dJ11_highSurrogate_5068e_6 : decode cJ11_highSurrogate_5068e 6 = .ok (.iadd, 1) := by decide +kernel
theorem dJ11_highSurrogate_5068e_7 : decode cJ11_highSurrogate_5068e 7 = .ok (.i2c, 1) := by decide +kernel
theorem dJ11_highSurrogate_5068e_8 : decode cJ11_highSurrogate_5068e 8 = .ok (.ireturn, 1) := by decide +kernel
theorem dJ11_lowSurrogate_5068e_0 : decode cJ11_lowSurrogate_5068e 0 = .ok (.iload_n 0, 1) := by decide +kernel
theorem dJ11_lowSurrogate_5068e_1 : decode cJ11_lowSurrogate_5068e 1 = .ok (.sipush 1023, 3) := by decide +kernel
theorem dJ11_lowSurrogate_5068e_4 : decode cJ11_lowSurrogate_5068e 4 = .ok (.iand, 1) := by decide +kernel
theorem dJ11_lowSurrogate_5068e_5 : decode cJ11_lowSurrogate_5068e 5 = .ok (.ldc 76, 2) := by decide +kernel
theorem dJ11_lowSurrogate_5068e_7 : decode cJ11_lowSurrogate_5068e 7 = .ok (.iadd, 1) := by decide +kernel
theorem dJ11_lowSurrogate_5068e_8 : decode cJ11_lowSurrogate_5068e 8 = .ok (.i2c, 1) := by decide +kernel
theorem dJ11_lowSurrogate_5068e_9 : decode cJ11_lowSurrogate_5068e 9 = .ok (.ireturn, 1) := by decide +kernel
theorem dJ6_bitCount_0f7a4_0 : decode cJ6_bitCount_0f7a4 0 = .ok (.iload_n 0, 1) := by decide +kernel
theorem dJ6_bitCount_0f7a4_1 : decode cJ6_bitCount_0f7a4 1 = .ok (.iload_n 0, 1) := by decide +kernel
theorem dJ6_bitCount_0f7a4_2 : decode cJ6_bitCount_0f7a4 2 = .ok (.iconst 1, 1) := by decide +kernel
theorem dJ6_bitCount_0f7a4_3 : decode cJ6_bitCount_0f7a4 3 = .ok (.iushr, 1) := by decide +kernel
theorem dJ6_bitCount_0f7a4_4 : decode cJ6_bitCount_0f7a4 4 = .ok (.ldc_w 265, 3) := by decide +kernel
theorem dJ6_bitCount_0f7a4_7 : decode cJ6_bitCount_0f7a4 7 = .ok (.iand, 1) := by decide +kernel
theorem dJ6_bitCount_0f7a4_8 : decode cJ6_bitCount_0f7a4 8 = .ok (.isub, 1) := by decide +kernel
theorem dJ6_bitCount_0f7a4_9 : decode cJ6_bitCount_0f7a4 9 = .ok (.istore_n 0, 1) := by decide +kernel
theorem dJ6_bitCount_0f7a4_10 : decode cJ6_bitCount_0f7a4 10 = .ok (.iload_n 0, 1) := by decide +kernel
theorem dJ6_bitCount_0f7a4_11 : decode cJ6_bitCount_0f7a4 11 = .ok (.ldc_w 266, 3) := by decide +kernel
theorem dJ6_bitCount_0f7a4_14 : decode cJ6_bitCount_0f7a4 14 = .ok (.iand, 1) := by decide +kernel
theorem dJ6_bitCount_0f7a4_15 : decode cJ6_bitCount_0f7a4 15 = .ok (.iload_n 0, 1) := by decide +kernel
theorem dJ6_bitCount_0f7a4_16 : decode cJ6_bitCount_0f7a4 16 = .ok (.iconst 2, 1) := by decide +kernel
theorem dJ6_bitCount_0f7a4_17 : decode cJ6_bitCount_0f7a4 17 = .ok (.iushr, 1) := by decide +kernel
theorem dJ6_bitCount_0f7a4_18 : decode cJ6_bitCount_0f7a4 18 = .ok (.ldc_w 266, 3) := by decide +kernel
theorem dJ6_bitCount_0f7a4_21 : decode cJ6_bitCount_0f7a4 21 = .ok (.iand, 1) := by decide +kernel
theorem dJ6_bitCount_0f7a4_22 : decode cJ6_bitCount_0f7a4 22 = .ok (.iadd, 1) := by decide +kernel
theorem dJ6_bitCount_0f7a4_23 : decode cJ6_bitCount_0f7a4 23 = .ok (.istore_n 0, 1) := by decide +kernel
theorem dJ6_bitCount_0f7a4_24 : decode cJ6_bitCount_0f7a4 24 = .ok (.iload_n 0, 1) := by decide +kernel
theorem dJ6_bitCount_0f7a4_25 : decode cJ6_bitCount_0f7a4 25 = .ok (.iload_n 0, 1) := by decide +kernel
theorem dJ6_bitCount_0f7a4_26 : decode cJ6_bitCount_0f7a4 26 = .ok (.iconst 4, 1) := by decide +kernel
theorem dJ6_bitCount_0f7a4_27 : decode cJ6_bitCount_0f7a4 27 = .ok (.iushr, 1) := by decide +kernel
theorem dJ6_bitCount_0f7a4_28 : decode cJ6_bitCount_0f7a4 28 = .ok (.iadd, 1) := by decide +kernel
theorem dJ6_bitCount_0f7a4_29 : decode cJ6_bitCount_0f7a4 29 = .ok (.ldc_w 267, 3) := by decide +kernel
theorem dJ6_bitCount_0f7a4_32 : decode cJ6_bitCount_0f7a4 32 = .ok (.iand, 1) := by decide +kernel
theorem dJ6_bitCount_0f7a4_33 : decode cJ6_bitCount_0f7a4 33 = .ok (.istore_n 0, 1) := by decide +kernel
theorem dJ6_bitCount_0f7a4_34 : decode cJ6_bitCount_0f7a4 34 = .ok (.iload_n 0, 1) := by decide +kernel
theorem dJ6_bitCount_0f7a4_35 : decode cJ6_bitCount_0f7a4 35 = .ok (.iload_n 0, 1) := by decide +kernel
theorem dJ6_bitCount_0f7a4_36 : decode cJ6_bitCount_0f7a4 36 = .ok (.bipush 8, 2) := by decide +kernel
theorem dJ6_bitCount_0f7a4_38 : decode cJ6_bitCount_0f7a4 38 = .ok (.iushr, 1) := by decide +kernel
theorem dJ6_bitCount_0f7a4_39 : decode cJ6_bitCount_0f7a4 39 = .ok (.iadd, 1) := by decide +kernel
theorem dJ6_bitCount_0f7a4_40 : decode cJ6_bitCount_0f7a4 40 = .ok (.istore_n 0, 1) := by decide +kernel
theorem dJ6_bitCount_0f7a4_41 : decode cJ6_bitCount_0f7a4 41 = .ok (.iload_n 0, 1) := by decide +kernel
theorem dJ6_bitCount_0f7a4_42 : decode cJ6_bitCount_0f7a4 42 = .ok (.iload_n 0, 1) := by decide +kernel
theorem dJ6_bitCount_0f7a4_43 : decode cJ6_bitCount_0f7a4 43 = .ok (.bipush 16, 2) := by decide +kernel
theorem dJ6_bitCount_0f7a4_45 : decode cJ6_bitCount_0f7a4 45 = .ok (.iushr, 1) := by decide +kernel
theorem dJ6_bitCount_0f7a4_46 : decode cJ6_bitCount_0f7a4 46 = .ok (.iadd, 1) := by decide +kernel
theorem dJ6_bitCount_0f7a4_47 : decode cJ6_bitCount_0f7a4 47 = .ok (.istore_n 0, 1) := by decide +kernel
theorem dJ6_bitCount_0f7a4_48 : decode cJ6_bitCount_0f7a4 48 = .ok (.iload_n 0, 1) := by decide +kernel
theorem dJ6_bitCount_0f7a4_49 : decode cJ6_bitCount_0f7a4 49 = .ok (.bipush 63, 2) := by decide +kernel
theorem dJ6_bitCount_0f7a4_51 : decode cJ6_bitCount_0f7a4 51 = .ok (.iand, 1) := by decide +kernel
theorem dJ6_bitCount_0f7a4_52 : decode cJ6_bitCount_0f7a4 52 = .ok (.ireturn, 1) := by decide +kernel
theorem dJ9_abs_0f7a4_0 : decode cJ9_abs_0f7a4 0 = .ok (.iload_n 0, 1) := by decide +kernel
theorem dJ9_abs_0f7a4_1 : decode cJ9_abs_0f7a4 1 = .ok (.ifCond .ge 8, 3) := by decide +kernel
theorem dJ9_abs_0f7a4_4 : decode cJ9_abs_0f7a4 4 = .ok (.iload_n 0, 1) := by decide +kernel
theorem dJ9_abs_0f7a4_5 : decode cJ9_abs_0f7a4 5 = .ok (.ineg, 1) := by decide +kernel
theorem dJ9_abs_0f7a4_6 : decode cJ9_abs_0f7a4 6 = .ok (.goto 4, 3) := by decide +kernel
theorem dJ9_abs_0f7a4_9 : decode cJ9_abs_0f7a4 9 = .ok (.iload_n 0, 1) := by decide +kernel
theorem dJ9_abs_0f7a4_10 : decode cJ9_abs_0f7a4 10 = .ok (.ireturn, 1) := by decide +kernel
theorem dJ9_max_7cf53_0 : decode cJ9_max_7cf53 0 = .ok (.iload_n 0, 1) := by decide +kernel
theorem dJ9_max_7cf53_1 : decode cJ9_max_7cf53 1 = .ok (.iload_n 1, 1) := by decide +kernel
theorem dJ9_max_7cf53_2 : decode cJ9_max_7cf53 2 = .ok (.if_icmp .lt 7, 3) := by decide +kernel
theorem dJ9_max_7cf53_5 : decode cJ9_max_7cf53 5 = .ok (.iload_n 0, 1) := by decide +kernel
theorem dJ9_max_7cf53_6 : decode cJ9_max_7cf53 6 = .ok (.goto 4, 3) := by decide +kernel
theorem dJ9_max_7cf53_9 : decode cJ9_max_7cf53 9 = .ok (.iload_n 1, 1) := by decide +kernel
theorem dJ9_max_7cf53_10 : decode cJ9_max_7cf53 10 = .ok (.ireturn, 1) := by decide +kernel
theorem dJ9_max_f86c9_0 : decode cJ9_max_f86c9 0 = .ok (.lload_n 0, 1) := by decide +kernel
theorem dJ9_max_f86c9_1 : decode cJ9_max_f86c9 1 = .ok (.lload_n 2, 1) := by decide +kernel
theorem dJ9_max_f86c9_2 : decode cJ9_max_f86c9 2 = .ok (.lcmp, 1) := by decide +kernel
theorem dJ9_max_f86c9_3 : decode cJ9_max_f86c9 3 = .ok (.ifCond .lt 7, 3) := by decide +kernel
theorem dJ9_max_f86c9_6 : decode cJ9_max_f86c9 6 = .ok (.lload_n 0, 1) := by decide +kernel
theorem dJ9_max_f86c9_7 : decode cJ9_max_f86c9 7 = .ok (.goto 4, 3) := by decide +kernel
theorem dJ9_max_f86c9_10 : decode cJ9_max_f86c9 10 = .ok (.lload_n 2, 1) := by decide +kernel
theorem dJ9_max_f86c9_11 : decode cJ9_max_f86c9 11 = .ok (.lreturn, 1) := by decide +kernel
theorem dJ9_min_7cf53_0 : decode cJ9_min_7cf53 0 = .ok (.iload_n 0, 1) := by decide +kernel
theorem dJ9_min_7cf53_1 : decode cJ9_min_7cf53 1 = .ok (.iload_n 1, 1) := by decide +kernel
theorem dJ9_min_7cf53_2 : decode cJ9_min_7cf53 2 = .ok (.if_icmp .gt 7, 3) := by decide +kernel
theorem dJ9_min_7cf53_5 : decode cJ9_min_7cf53 5 = .ok (.iload_n 0, 1) := by decide +kernel
theorem dJ9_min_7cf53_6 : decode cJ9_min_7cf53 6 = .ok (.goto 4, 3) := by decide +kernel
theorem dJ9_min_7cf53_9 : decode cJ9_min_7cf53 9 = .ok (.iload_n 1, 1) := by decide +kernel
theorem dJ9_min_7cf53_10 : decode cJ9_min_7cf53 10 = .ok (.ireturn, 1) := by decide +kernel
theorem dJ9_min_f86c9_0 : decode cJ9_min_f86c9 0 = .ok (.lload_n 0, 1) := by decide +kernel
theorem dJ9_min_f86c9_1 : decode cJ9_min_f86c9 1 = .ok (.lload_n 2, 1) := by decide +kernel
theorem dJ9_min_f86c9_2 : decode cJ9_min_f86c9 2 = .ok (.lcmp, 1) := by decide +kernel
theorem dJ9_min_f86c9_3 : decode cJ9_min_f86c9 3 = .ok (.ifCond .gt 7, 3) := by decide +kernel
theorem dJ9_min_f86c9_6 : decode cJ9_min_f86c9 6 = .ok (.lload_n 0, 1) := by decide +kernel
theorem dJ9_min_f86c9_7 : decode cJ9_min_f86c9 7 = .ok (.goto 4, 3) := by decide +kernel
theorem dJ9_min_f86c9_10 : decode cJ9_min_f86c9 10 = .ok (.lload_n 2, 1) := by decide +kernel
theorem dJ9_min_f86c9_11 : decode cJ9_min_f86c9 11 = .ok (.lreturn, 1) := by decide +kernel
theorem dJ0_length_8abf5_0 : decode cJ0_length_8abf5 0 = .ok (.aload_n 0, 1) := by decide +kernel
theorem dJ0_length_8abf5_1 : decode cJ0_length_8abf5 1 = .ok (.getfield 9, 3) := by decide +kernel
theorem dJ0_length_8abf5_4 : decode cJ0_length_8abf5 4 = .ok (.arraylength, 1) := by decide +kernel
theorem dJ0_length_8abf5_5 : decode cJ0_length_8abf5 5 = .ok (.aload_n 0, 1) := by decide +kernel
theorem dJ0_length_8abf5_6 : decode cJ0_length_8abf5 6 = .ok (.invokevirtual 335, 3) := by decide +kernel
theorem dJ0_length_8abf5_9 : decode cJ0_length_8abf5 9 = .ok (.ishr, 1) := by decide +kernel
theorem dJ0_length_8abf5_10 : decode cJ0_length_8abf5 10 = .ok (.ireturn, 1) := by decide +kernel
theorem dJ0_charAt_5068e_0 : decode cJ0_charAt_5068e 0 = .ok (.aload_n 0, 1) := by decide +kernel
theorem dJ0_charAt_5068e_1 : decode cJ0_charAt_5068e 1 = .ok (.invokevirtual 492, 3) := by decide +kernel
theorem dJ0_charAt_5068e_4 : decode cJ0_charAt_5068e 4 = .ok (.ifCond .eq 12, 3) := by decide +kernel
theorem dJ0_charAt_5068e_7 : decode cJ0_charAt_5068e 7 = .ok (.aload_n 0, 1) := by decide +kernel
theorem dJ0_charAt_5068e_8 : decode cJ0_charAt_5068e 8 = .ok (.getfield 9, 3) := by decide +kernel
theorem dJ0_charAt_5068e_11 : decode cJ0_charAt_5068e 11 = .ok (.iload_n 1, 1) := by decide +kernel
theorem dJ0_charAt_5068e_12 : decode cJ0_charAt_5068e 12 = .ok (.invokestatic 495, 3) := by decide +kernel
theorem dJ0_charAt_5068e_15 : decode cJ0_charAt_5068e 15 = .ok (.ireturn, 1) := by decide +kernel
theorem dJ0_charAt_5068e_16 : decode cJ0_charAt_5068e 16 = .ok (.aload_n 0, 1) := by decide +kernel
theorem dJ0_charAt_5068e_17 : decode cJ0_charAt_5068e 17 = .ok (.getfield 9, 3) := by decide +kernel
theorem dJ0_charAt_5068e_20 : decode cJ0_charAt_5068e 20 = .ok (.iload_n 1, 1) := by decide +kernel
theorem dJ0_charAt_5068e_21 : decode cJ0_charAt_5068e 21 = .ok (.invokestatic 498, 3) := by decide +kernel
theorem dJ0_charAt_5068e_24 : decode cJ0_charAt_5068e 24 = .ok (.ireturn, 1) := by decide +kernel
theorem dJ0_indexOf_0f7a4_0 : decode cJ0_indexOf_0f7a4 0 = .ok (.aload_n 0, 1) := by decide +kernel
theorem dJ0_indexOf_0f7a4_1 : decode cJ0_indexOf_0f7a4 1 = .ok (.iload_n 1, 1) := by decide +kernel
theorem dJ0_indexOf_0f7a4_2 : decode cJ0_indexOf_0f7a4 2 = .ok (.iconst 0, 1) := by decide +kernel
theorem dJ0_indexOf_0f7a4_3 : decode cJ0_indexOf_0f7a4 3 = .ok (.invokevirtual 633, 3) := by decide +kernel
theorem dJ0_indexOf_0f7a4_6 : decode cJ0_indexOf_0f7a4 6 = .ok (.ireturn, 1) := by decide +kernel
theorem dJ0_indexOf_7cf53_0 : decode cJ0_indexOf_7cf53 0 = .ok (.aload_n 0, 1) := by decide +kernel
theorem dJ0_indexOf_7cf53_1 : decode cJ0_indexOf_7cf53 1 = .ok (.invokevirtual 492, 3) := by decide +kernel
theorem dJ0_indexOf_7cf53_4 : decode cJ0_indexOf_7cf53 4 = .ok (.ifCond .eq 19, 3) := by decide +kernel
theorem dJ0_indexOf_7cf53_7 : decode cJ0_indexOf_7cf53 7 = .ok (.aload_n 0, 1) := by decide +kernel
theorem dJ0_indexOf_7cf53_8 : decode cJ0_indexOf_7cf53 8 = .ok (.getfield 9, 3) := by decide +kernel
theorem dJ0_indexOf_7cf53_11 : decode cJ0_indexOf_7cf53 11 = .ok (.iload_n 1, 1) := by decide +kernel
theorem dJ0_indexOf_7cf53_12 : decode cJ0_indexOf_7cf53 12 = .ok (.iload_n 2, 1) := by decide +kernel
theorem dJ0_indexOf_7cf53_13 : decode cJ0_indexOf_7cf53 13 = .ok (.aload_n 0, 1) := by decide +kernel
theorem dJ0_indexOf_7cf53_14 : decode cJ0_indexOf_7cf53 14 = .ok (.invokevirtual 505, 3) := by decide +kernel
theorem dJ0_indexOf_7cf53_17 : decode cJ0_indexOf_7cf53 17 = .ok (.invokestatic 637, 3) := by decide +kernel
theorem dJ0_indexOf_7cf53_20 : decode cJ0_indexOf_7cf53 20 = .ok (.goto 16, 3) := by decide +kernel
theorem dJ0_indexOf_7cf53_23 : decode cJ0_indexOf_7cf53 23 = .ok (.aload_n 0, 1) := by decide +kernel
theorem dJ0_indexOf_7cf53_24 : decode cJ0_indexOf_7cf53 24 = .ok (.getfield 9, 3) := by decide +kernel
theorem dJ0_indexOf_7cf53_27 : decode cJ0_indexOf_7cf53 27 = .ok (.iload_n 1, 1) := by decide +kernel
theorem dJ0_indexOf_7cf53_28 : decode cJ0_indexOf_7cf53 28 = .ok (.iload_n 2, 1) := by decide +kernel
theorem dJ0_indexOf_7cf53_29 : decode cJ0_indexOf_7cf53 29 = .ok (.aload_n 0, 1) := by decide +kernel
theorem dJ0_indexOf_7cf53_30 : decode cJ0_indexOf_7cf53 30 = .ok (.invokevirtual 505, 3) := by decide +kernel
theorem dJ0_indexOf_7cf53_33 : decode cJ0_indexOf_7cf53 33 = .ok (.invokestatic 640, 3) := by decide +kernel
theorem dJ0_indexOf_7cf53_36 : decode cJ0_indexOf_7cf53 36 = .ok (.ireturn, 1) := by decide +kernel
theorem dJ0_coder_7d493_0 : decode cJ0_coder_7d493 0 = .ok (.getstatic 38, 3) := by decide +kernel
theorem dJ0_coder_7d493_3 : decode cJ0_coder_7d493 3 = .ok (.ifCond .eq 10, 3) := by decide +kernel
theorem dJ0_coder_7d493_6 : decode cJ0_coder_7d493 6 = .ok (.aload_n 0, 1) := by decide +kernel
theorem dJ0_coder_7d493_7 : decode cJ0_coder_7d493 7 = .ok (.getfield 15, 3) := by decide +kernel
theorem dJ0_coder_7d493_10 : decode cJ0_coder_7d493 10 = .ok (.goto 4, 3) := by decide +kernel
theorem dJ0_coder_7d493_13 : decode cJ0_coder_7d493 13 = .ok (.iconst 1, 1) := by decide +kernel
theorem dJ0_coder_7d493_14 : decode cJ0_coder_7d493 14 = .ok (.ireturn, 1) := by decide +kernel
theorem dJ0_isLatin1_aae02_0 : decode cJ0_isLatin1_aae02 0 = .ok (.getstatic 38, 3) := by decide +kernel
theorem dJ0_isLatin1_aae02_3 : decode cJ0_isLatin1_aae02 3 = .ok (.ifCond .eq 14, 3) := by decide +kernel
theorem dJ0_isLatin1_aae02_6 : decode cJ0_isLatin1_aae02 6 = .ok (.aload_n 0, 1) := by decide +kernel
theorem dJ0_isLatin1_aae02_7 : decode cJ0_isLatin1_aae02 7 = .ok (.getfield 15, 3) := by decide +kernel
theorem dJ0_isLatin1_aae02_10 : decode cJ0_isLatin1_aae02 10 = .ok (.ifCond .ne 7, 3) := by decide +kernel
theorem dJ0_isLatin1_aae02_13 : decode cJ0_isLatin1_aae02 13 = .ok (.iconst 1, 1) := by decide +kernel
theorem dJ0_isLatin1_aae02_14 : decode cJ0_isLatin1_aae02 14 = .ok (.goto 4, 3) := by decide +kernel
theorem dJ0_isLatin1_aae02_17 : decode cJ0_isLatin1_aae02 17 = .ok (.iconst 0, 1) := by decide +kernel
theorem dJ0_isLatin1_aae02_18 : decode cJ0_isLatin1_aae02 18 = .ok (.ireturn, 1) := by decide +kernel
theorem dJ0_checkIndex_df160_0 : decode cJ0_checkIndex_df160 0 = .ok (.iload_n 0, 1) := by decide +kernel
theorem dJ0_checkIndex_df160_1 : decode cJ0_checkIndex_df160 1 = .ok (.iload_n 1, 1) := by decide +kernel
theorem dJ0_checkIndex_df160_2 : decode cJ0_checkIndex_df160 2 = .ok (.getstatic 1053, 3) := by decide +kernel
theorem dJ0_checkIndex_df160_5 : decode cJ0_checkIndex_df160 5 = .ok (.invokestatic 1059, 3) := by decide +kernel
theorem dJ0_checkIndex_df160_8 : decode cJ0_checkIndex_df160 8 = .ok (.pop, 1) := by decide +kernel
theorem dJ0_checkIndex_df160_9 : decode cJ0_checkIndex_df160 9 = .ok (.return_, 1) := by decide +kernel
theorem dJ0_checkBoundsBeginEnd_23922_0 : decode cJ0_checkBoundsBeginEnd_23922 0 = .ok (.iload_n 0, 1) := by decide +kernel
theorem dJ0_checkBoundsBeginEnd_23922_1 : decode cJ0_checkBoundsBeginEnd_23922 1 = .ok (.iload_n 1, 1) := by decide +kernel
theorem dJ0_checkBoundsBeginEnd_23922_2 : decode cJ0_checkBoundsBeginEnd_23922 2 = .ok (.iload_n 2, 1) := by decide +kernel
theorem dJ0_checkBoundsBeginEnd_23922_3 : decode cJ0_checkBoundsBeginEnd_23922 3 = .ok (.getstatic 1053, 3) := by decide +kernel
theorem dJ0_checkBoundsBeginEnd_23922_6 : decode cJ0_checkBoundsBeginEnd_23922 6 = .ok (.invokestatic 1062, 3) := by decide +kernel
theorem dJ0_checkBoundsBeginEnd_23922_9 : decode cJ0_checkBoundsBeginEnd_23922 9 = .ok (.pop, 1) := by decide +kernel
theorem dJ0_checkBoundsBeginEnd_23922_10 : decode cJ0_checkBoundsBeginEnd_23922 10 = .ok (.return_, 1) := by decide +kernel
theorem dJ1_charAt_3b067_0 : decode cJ1_charAt_3b067 0 = .ok (.iload_n 1, 1) := by decide +kernel
theorem dJ1_charAt_3b067_1 : decode cJ1_charAt_3b067 1 = .ok (.aload_n 0, 1) := by decide +kernel
theorem dJ1_charAt_3b067_2 : decode cJ1_charAt_3b067 2 = .ok (.arraylength, 1) := by decide +kernel
theorem dJ1_charAt_3b067_3 : decode cJ1_charAt_3b067 3 = .ok (.invokestatic 9, 3) := by decide +kernel
theorem dJ1_charAt_3b067_6 : decode cJ1_charAt_3b067 6 = .ok (.aload_n 0, 1) := by decide +kernel
theorem dJ1_charAt_3b067_7 : decode cJ1_charAt_3b067 7 = .ok (.iload_n 1, 1) := by decide +kernel
theorem dJ1_charAt_3b067_8 : decode cJ1_charAt_3b067 8 = .ok (.baload, 1) := by decide +kernel
theorem dJ1_charAt_3b067_9 : decode cJ1_charAt_3b067 9 = .ok (.sipush 255, 3) := by decide +kernel
theorem dJ1_charAt_3b067_12 : decode cJ1_charAt_3b067 12 = .ok (.iand, 1) := by decide +kernel
theorem dJ1_charAt_3b067_13 : decode cJ1_charAt_3b067 13 = .ok (.i2c, 1) := by decide +kernel
theorem dJ1_charAt_3b067_14 : decode cJ1_charAt_3b067 14 = .ok (.ireturn, 1) := by decide +kernel
theorem dJ1_canEncode_9a6ad_0 : decode cJ1_canEncode_9a6ad 0 = .ok (.iload_n 0, 1) := by decide +kernel
theorem dJ1_canEncode_9a6ad_1 : decode cJ1_canEncode_9a6ad 1 = .ok (.ifCond .lt 14, 3) := by decide +kernel
theorem dJ1_canEncode_9a6ad_4 : decode cJ1_canEncode_9a6ad 4 = .ok (.iload_n 0, 1) := by decide +kernel
theorem dJ1_canEncode_9a6ad_5 : decode cJ1_canEncode_9a6ad 5 = .ok (.sipush 255, 3) := by decide +kernel
theorem dJ1_canEncode_9a6ad_8 : decode cJ1_canEncode_9a6ad 8 = .ok (.if_icmp .gt 7, 3) := by decide +kernel
theorem dJ1_canEncode_9a6ad_11 : decode cJ1_canEncode_9a6ad 11 = .ok (.iconst 1, 1) := by decide +kernel
theorem dJ1_canEncode_9a6ad_12 : decode cJ1_canEncode_9a6ad 12 = .ok (.goto 4, 3) := by decide +kernel
theorem dJ1_canEncode_9a6ad_15 : decode cJ1_canEncode_9a6ad 15 = .ok (.iconst 0, 1) := by decide +kernel
theorem dJ1_canEncode_9a6ad_16 : decode cJ1_canEncode_9a6ad 16 = .ok (.ireturn, 1) := by decide +kernel
theorem dJ1_indexOf_4cfef_0 : decode cJ1_indexOf_4cfef 0 = .ok (.iload_n 1, 1) := by decide +kernel
theorem dJ1_indexOf_4cfef_1 : decode cJ1_indexOf_4cfef 1 = .ok (.invokestatic 88, 3) := by decide +kernel
theorem dJ1_indexOf_4cfef_4 : decode cJ1_indexOf_4cfef 4 = .ok (.ifCond .ne 5, 3) := by decide +kernel
theorem dJ1_indexOf_4cfef_7 : decode cJ1_indexOf_4cfef 7 = .ok (.iconst (-1), 1) := by decide +kernel
theorem dJ1_indexOf_4cfef_8 : decode cJ1_indexOf_4cfef 8 = .ok (.ireturn, 1) := by decide +kernel
theorem dJ1_indexOf_4cfef_9 : decode cJ1_indexOf_4cfef 9 = .ok (.iload_n 2, 1) := by decide +kernel
theorem dJ1_indexOf_4cfef_10 : decode cJ1_indexOf_4cfef 10 = .ok (.iconst 0, 1) := by decide +kernel
theorem dJ1_indexOf_4cfef_11 : decode cJ1_indexOf_4cfef 11 = .ok (.invokestatic 92, 3) := by decide +kernel
theorem dJ1_indexOf_4cfef_14 : decode cJ1_indexOf_4cfef 14 = .ok (.istore_n 2, 1) := by decide +kernel
theorem dJ1_indexOf_4cfef_15 : decode cJ1_indexOf_4cfef 15 = .ok (.iload_n 3, 1) := by decide +kernel
theorem dJ1_indexOf_4cfef_16 : decode cJ1_indexOf_4cfef 16 = .ok (.aload_n 0, 1) := by decide +kernel
theorem dJ1_indexOf_4cfef_17 : decode cJ1_indexOf_4cfef 17 = .ok (.arraylength, 1) := by decide +kernel
theorem dJ1_indexOf_4cfef_18 : decode cJ1_indexOf_4cfef 18 = .ok (.invokestatic 38, 3) := by decide +kernel
theorem dJ1_indexOf_4cfef_21 : decode cJ1_indexOf_4cfef 21 = .ok (.istore_n 3, 1) := by decide +kernel
theorem dJ1_indexOf_4cfef_22 : decode cJ1_indexOf_4cfef 22 = .ok (.iload_n 2, 1) := by decide +kernel
theorem dJ1_indexOf_4cfef_23 : decode cJ1_indexOf_4cfef 23 = .ok (.iload_n 3, 1) := by decide +kernel
theorem dJ1_indexOf_4cfef_24 : decode cJ1_indexOf_4cfef 24 = .ok (.if_icmp .lt 5, 3) := by decide +kernel
theorem dJ1_indexOf_4cfef_27 : decode cJ1_indexOf_4cfef 27 = .ok (.iconst (-1), 1) := by decide +kernel
theorem dJ1_indexOf_4cfef_28 : decode cJ1_indexOf_4cfef 28 = .ok (.ireturn, 1) := by decide +kernel
theorem dJ1_indexOf_4cfef_29 : decode cJ1_indexOf_4cfef 29 = .ok (.aload_n 0, 1) := by decide +kernel
theorem dJ1_indexOf_4cfef_30 : decode cJ1_indexOf_4cfef 30 = .ok (.iload_n 1, 1) := by decide +kernel
theorem dJ1_indexOf_4cfef_31 : decode cJ1_indexOf_4cfef 31 = .ok (.iload_n 2, 1) := by decide +kernel
theorem dJ1_indexOf_4cfef_32 : decode cJ1_indexOf_4cfef 32 = .ok (.iload_n 3, 1) := by decide +kernel
theorem dJ1_indexOf_4cfef_33 : decode cJ1_indexOf_4cfef 33 = .ok (.invokestatic 95, 3) := by decide +kernel
theorem dJ1_indexOf_4cfef_36 : decode cJ1_indexOf_4cfef 36 = .ok (.ireturn, 1) := by decide +kernel
theorem dJ1_indexOfChar_4cfef_0 : decode cJ1_indexOfChar_4cfef 0 = .ok (.iload_n 1, 1) := by decide +kernel
theorem dJ1_indexOfChar_4cfef_1 : decode cJ1_indexOfChar_4cfef 1 = .ok (.i2b, 1) := by decide +kernel
theorem dJ1_indexOfChar_4cfef_2 : decode cJ1_indexOfChar_4cfef 2 = .ok (.istore 4, 2) := by decide +kernel
theorem dJ1_indexOfChar_4cfef_4 : decode cJ1_indexOfChar_4cfef 4 = .ok (.iload_n 2, 1) := by decide +kernel
theorem dJ1_indexOfChar_4cfef_5 : decode cJ1_indexOfChar_4cfef 5 = .ok (.istore 5, 2) := by decide +kernel
theorem dJ1_indexOfChar_4cfef_7 : decode cJ1_indexOfChar_4cfef 7 = .ok (.iload 5, 2) := by decide +kernel
theorem dJ1_indexOfChar_4cfef_9 : decode cJ1_indexOfChar_4cfef 9 = .ok (.iload_n 3, 1) := by decide +kernel
theorem dJ1_indexOfChar_4cfef_10 : decode cJ1_indexOfChar_4cfef 10 = .ok (.if_icmp .ge 21, 3) := by decide +kernel
theorem dJ1_indexOfChar_4cfef_13 : decode cJ1_indexOfChar_4cfef 13 = .ok (.aload_n 0, 1) := by decide +kernel
theorem dJ1_indexOfChar_4cfef_14 : decode cJ1_indexOfChar_4cfef 14 = .ok (.iload 5, 2) := by decide +kernel
theorem dJ1_indexOfChar_4cfef_16 : decode cJ1_indexOfChar_4cfef 16 = .ok (.baload, 1) := by decide +kernel
theorem dJ1_indexOfChar_4cfef_17 : decode cJ1_indexOfChar_4cfef 17 = .ok (.iload 4, 2) := by decide +kernel
theorem dJ1_indexOfChar_4cfef_19 : decode cJ1_indexOfChar_4cfef 19 = .ok (.if_icmp .ne 6, 3) := by decide +kernel
theorem dJ1_indexOfChar_4cfef_22 : decode cJ1_indexOfChar_4cfef 22 = .ok (.iload 5, 2) := by decide +kernel
theorem dJ1_indexOfChar_4cfef_24 : decode cJ1_indexOfChar_4cfef 24 = .ok (.ireturn, 1) := by decide +kernel
theorem dJ1_indexOfChar_4cfef_25 : decode cJ1_indexOfChar_4cfef 25 = .ok (.iinc 5 1, 3) := by decide +kernel
theorem dJ1_indexOfChar_4cfef_28 : decode cJ1_indexOfChar_4cfef 28 = .ok (.goto (-21), 3) := by decide +kernel
theorem dJ1_indexOfChar_4cfef_31 : decode cJ1_indexOfChar_4cfef 31 = .ok (.iconst (-1), 1) := by decide +kernel
theorem dJ1_indexOfChar_4cfef_32 : decode cJ1_indexOfChar_4cfef 32 = .ok (.ireturn, 1) := by decide +kernel
theorem dJ2_getChar_3b067_0 : decode cJ2_getChar_3b067 0 = .ok (.getstatic 44, 3) := by decide +kernel
theorem dJ2_getChar_3b067_3 : decode cJ2_getChar_3b067 3 = .ok (.ifCond .ne 25, 3) := by decide +kernel
theorem dJ2_getChar_3b067_6 : decode cJ2_getChar_3b067 6 = .ok (.iload_n 1, 1) := by decide +kernel
theorem dJ2_getChar_3b067_7 : decode cJ2_getChar_3b067 7 = .ok (.ifCond .lt 11, 3) := by decide +kernel
theorem dJ2_getChar_3b067_10 : decode cJ2_getChar_3b067 10 = .ok (.iload_n 1, 1) := by decide +kernel
theorem dJ2_getChar_3b067_11 : decode cJ2_getChar_3b067 11 = .ok (.aload_n 0, 1) := by decide +kernel
theorem dJ2_getChar_3b067_12 : decode cJ2_getChar_3b067 12 = .ok (.invokestatic 48, 3) := by decide +kernel
theorem dJ2_getChar_3b067_15 : decode cJ2_getChar_3b067 15 = .ok (.if_icmp .lt 13, 3) := by decide +kernel
theorem dJ2_getChar_3b067_18 : decode cJ2_getChar_3b067 18 = .ok (.new 52, 3) := by decide +kernel
theorem dJ2_getChar_3b067_21 : decode cJ2_getChar_3b067 21 = .ok (.dup, 1) := by decide +kernel
theorem dJ2_getChar_3b067_22 : decode cJ2_getChar_3b067 22 = .ok (.ldc 54, 2) := by decide +kernel
theorem dJ2_getChar_3b067_24 : decode cJ2_getChar_3b067 24 = .ok (.invokespecial 56, 3) := by decide +kernel
theorem dJ2_getChar_3b067_27 : decode cJ2_getChar_3b067 27 = .ok (.athrow, 1) := by decide +kernel
theorem dJ2_getChar_3b067_28 : decode cJ2_getChar_3b067 28 = .ok (.iload_n 1, 1) := by decide +kernel
theorem dJ2_getChar_3b067_29 : decode cJ2_getChar_3b067 29 = .ok (.iconst 1, 1) := by decide +kernel
theorem dJ2_getChar_3b067_30 : decode cJ2_getChar_3b067 30 = .ok (.ishl, 1) := by decide +kernel
theorem dJ2_getChar_3b067_31 : decode cJ2_getChar_3b067 31 = .ok (.istore_n 1, 1) := by decide +kernel
theorem dJ2_getChar_3b067_32 : decode cJ2_getChar_3b067 32 = .ok (.aload_n 0, 1) := by decide +kernel
theorem dJ2_getChar_3b067_33 : decode cJ2_getChar_3b067 33 = .ok (.iload_n 1, 1) := by decide +kernel
theorem dJ2_getChar_3b067_34 : decode cJ2_getChar_3b067 34 = .ok (.iinc 1 1, 3) := by decide +kernel
theorem dJ2_getChar_3b067_37 : decode cJ2_getChar_3b067 37 = .ok (.baload, 1) := by decide +kernel
theorem dJ2_getChar_3b067_38 : decode cJ2_getChar_3b067 38 = .ok (.sipush 255, 3) := by decide +kernel
theorem dJ2_getChar_3b067_41 : decode cJ2_getChar_3b067 41 = .ok (.iand, 1) := by decide +kernel
theorem dJ2_getChar_3b067_42 : decode cJ2_getChar_3b067 42 = .ok (.getstatic 59, 3) := by decide +kernel
theorem dJ2_getChar_3b067_45 : decode cJ2_getChar_3b067 45 = .ok (.ishl, 1) := by decide +kernel
theorem dJ2_getChar_3b067_46 : decode cJ2_getChar_3b067 46 = .ok (.aload_n 0, 1) := by decide +kernel
theorem dJ2_getChar_3b067_47 : decode cJ2_getChar_3b067 47 = .ok (.iload_n 1, 1) := by decide +kernel
theorem dJ2_getChar_3b067_48 : decode cJ2_getChar_3b067 48 = .ok (.baload, 1) := by decide +kernel
theorem dJ2_getChar_3b067_49 : decode cJ2_getChar_3b067 49 = .ok (.sipush 255, 3) := by decide +kernel
theorem dJ2_getChar_3b067_52 : decode cJ2_getChar_3b067 52 = .ok (.iand, 1) := by decide +kernel
theorem dJ2_getChar_3b067_53 : decode cJ2_getChar_3b067 53 = .ok (.getstatic 63, 3) := by decide +kernel
theorem dJ2_getChar_3b067_56 : decode cJ2_getChar_3b067 56 = .ok (.ishl, 1) := by decide +kernel
theorem dJ2_getChar_3b067_57 : decode cJ2_getChar_3b067 57 = .ok (.ior, 1) := by decide +kernel
theorem dJ2_getChar_3b067_58 : decode cJ2_getChar_3b067 58 = .ok (.i2c, 1) := by decide +kernel
theorem dJ2_getChar_3b067_59 : decode cJ2_getChar_3b067 59 = .ok (.ireturn, 1) := by decide +kernel
theorem dJ2_length_9d52b_0 : decode cJ2_length_9d52b 0 = .ok (.aload_n 0, 1) := by decide +kernel
theorem dJ2_length_9d52b_1 : decode cJ2_length_9d52b 1 = .ok (.arraylength, 1) := by decide +kernel
theorem dJ2_length_9d52b_2 : decode cJ2_length_9d52b 2 = .ok (.iconst 1, 1) := by decide +kernel
theorem dJ2_length_9d52b_3 : decode cJ2_length_9d52b 3 = .ok (.ishr, 1) := by decide +kernel
theorem dJ2_length_9d52b_4 : decode cJ2_length_9d52b 4 = .ok (.ireturn, 1) := by decide +kernel
theorem dJ2_indexOf_4cfef_0 : decode cJ2_indexOf_4cfef 0 = .ok (.iload_n 2, 1) := by decide +kernel
theorem dJ2_indexOf_4cfef_1 : decode cJ2_indexOf_4cfef 1 = .ok (.iconst 0, 1) := by decide +kernel
theorem dJ2_indexOf_4cfef_2 : decode cJ2_indexOf_4cfef 2 = .ok (.invokestatic 224, 3) := by decide +kernel
theorem dJ2_indexOf_4cfef_5 : decode cJ2_indexOf_4cfef 5 = .ok (.istore_n 2, 1) := by decide +kernel
theorem dJ2_indexOf_4cfef_6 : decode cJ2_indexOf_4cfef 6 = .ok (.iload_n 3, 1) := by decide +kernel
theorem dJ2_indexOf_4cfef_7 : decode cJ2_indexOf_4cfef 7 = .ok (.aload_n 0, 1) := by decide +kernel
theorem dJ2_indexOf_4cfef_8 : decode cJ2_indexOf_4cfef 8 = .ok (.arraylength, 1) := by decide +kernel
theorem dJ2_indexOf_4cfef_9 : decode cJ2_indexOf_4cfef 9 = .ok (.iconst 1, 1) := by decide +kernel
theorem dJ2_indexOf_4cfef_10 : decode cJ2_indexOf_4cfef 10 = .ok (.ishr, 1) := by decide +kernel
theorem dJ2_indexOf_4cfef_11 : decode cJ2_indexOf_4cfef 11 = .ok (.invokestatic 183, 3) := by decide +kernel
theorem dJ2_indexOf_4cfef_14 : decode cJ2_indexOf_4cfef 14 = .ok (.istore_n 3, 1) := by decide +kernel
theorem dJ2_indexOf_4cfef_15 : decode cJ2_indexOf_4cfef 15 = .ok (.iload_n 2, 1) := by decide +kernel
theorem dJ2_indexOf_4cfef_16 : decode cJ2_indexOf_4cfef 16 = .ok (.iload_n 3, 1) := by decide +kernel
theorem dJ2_indexOf_4cfef_17 : decode cJ2_indexOf_4cfef 17 = .ok (.if_icmp .lt 5, 3) := by decide +kernel
theorem dJ2_indexOf_4cfef_20 : decode cJ2_indexOf_4cfef 20 = .ok (.iconst (-1), 1) := by decide +kernel
theorem dJ2_indexOf_4cfef_21 : decode cJ2_indexOf_4cfef 21 = .ok (.ireturn, 1) := by decide +kernel
theorem dJ2_indexOf_4cfef_22 : decode cJ2_indexOf_4cfef 22 = .ok (.iload_n 1, 1) := by decide +kernel
theorem dJ2_indexOf_4cfef_23 : decode cJ2_indexOf_4cfef 23 = .ok (.ldc 227, 2) := by decide +kernel
theorem dJ2_indexOf_4cfef_25 : decode cJ2_indexOf_4cfef 25 = .ok (.if_icmp .ge 11, 3) := by decide +kernel
theorem dJ2_indexOf_4cfef_28 : decode cJ2_indexOf_4cfef 28 = .ok (.aload_n 0, 1) := by decide +kernel
theorem dJ2_indexOf_4cfef_29 : decode cJ2_indexOf_4cfef 29 = .ok (.iload_n 1, 1) := by decide +kernel
theorem dJ2_indexOf_4cfef_30 : decode cJ2_indexOf_4cfef 30 = .ok (.iload_n 2, 1) := by decide +kernel
theorem dJ2_indexOf_4cfef_31 : decode cJ2_indexOf_4cfef 31 = .ok (.iload_n 3, 1) := by decide +kernel
theorem dJ2_indexOf_4cfef_32 : decode cJ2_indexOf_4cfef 32 = .ok (.invokestatic 228, 3) := by decide +kernel
theorem dJ2_indexOf_4cfef_35 : decode cJ2_indexOf_4cfef 35 = .ok (.ireturn, 1) := by decide +kernel
theorem dJ2_indexOf_4cfef_36 : decode cJ2_indexOf_4cfef 36 = .ok (.aload_n 0, 1) := by decide +kernel
theorem dJ2_indexOf_4cfef_37 : decode cJ2_indexOf_4cfef 37 = .ok (.iload_n 1, 1) := by decide +kernel
theorem dJ2_indexOf_4cfef_38 : decode cJ2_indexOf_4cfef 38 = .ok (.iload_n 2, 1) := by decide +kernel
theorem dJ2_indexOf_4cfef_39 : decode cJ2_indexOf_4cfef 39 = .ok (.iload_n 3, 1) := by decide +kernel
theorem dJ2_indexOf_4cfef_40 : decode cJ2_indexOf_4cfef 40 = .ok (.invokestatic 232, 3) := by decide +kernel
theorem dJ2_indexOf_4cfef_43 : decode cJ2_indexOf_4cfef 43 = .ok (.ireturn, 1) := by decide +kernel
theorem dJ2_indexOfChar_4cfef_0 : decode cJ2_indexOfChar_4cfef 0 = .ok (.iload_n 2, 1) := by decide +kernel
theorem dJ2_indexOfChar_4cfef_1 : decode cJ2_indexOfChar_4cfef 1 = .ok (.iload_n 3, 1) := by decide +kernel
theorem dJ2_indexOfChar_4cfef_2 : decode cJ2_indexOfChar_4cfef 2 = .ok (.aload_n 0, 1) := by decide +kernel
theorem dJ2_indexOfChar_4cfef_3 : decode cJ2_indexOfChar_4cfef 3 = .ok (.invokestatic 96, 3) := by decide +kernel
theorem dJ2_indexOfChar_4cfef_6 : decode cJ2_indexOfChar_4cfef 6 = .ok (.aload_n 0, 1) := by decide +kernel
theorem dJ2_indexOfChar_4cfef_7 : decode cJ2_indexOfChar_4cfef 7 = .ok (.iload_n 1, 1) := by decide +kernel
theorem dJ2_indexOfChar_4cfef_8 : decode cJ2_indexOfChar_4cfef 8 = .ok (.iload_n 2, 1) := by decide +kernel
theorem dJ2_indexOfChar_4cfef_9 : decode cJ2_indexOfChar_4cfef 9 = .ok (.iload_n 3, 1) := by decide +kernel
theorem dJ2_indexOfChar_4cfef_10 : decode cJ2_indexOfChar_4cfef 10 = .ok (.invokestatic 244, 3) := by decide +kernel
theorem dJ2_indexOfChar_4cfef_13 : decode cJ2_indexOfChar_4cfef 13 = .ok (.ireturn, 1) := by decide +kernel
theorem dJ2_indexOfCharUnsafe_4cfef_0 : decode cJ2_indexOfCharUnsafe_4cfef 0 = .ok (.iload_n 2, 1) := by decide +kernel
theorem dJ2_indexOfCharUnsafe_4cfef_1 : decode cJ2_indexOfCharUnsafe_4cfef 1 = .ok (.istore 4, 2) := by decide +kernel
theorem dJ2_indexOfCharUnsafe_4cfef_3 : decode cJ2_indexOfCharUnsafe_4cfef 3 = .ok (.iload 4, 2) := by decide +kernel
theorem dJ2_indexOfCharUnsafe_4cfef_5 : decode cJ2_indexOfCharUnsafe_4cfef 5 = .ok (.iload_n 3, 1) := by decide +kernel
theorem dJ2_indexOfCharUnsafe_4cfef_6 : decode cJ2_indexOfCharUnsafe_4cfef 6 = .ok (.if_icmp .ge 22, 3) := by decide +kernel
theorem dJ2_indexOfCharUnsafe_4cfef_9 : decode cJ2_indexOfCharUnsafe_4cfef 9 = .ok (.aload_n 0, 1) := by decide +kernel
theorem dJ2_indexOfCharUnsafe_4cfef_10 : decode cJ2_indexOfCharUnsafe_4cfef 10 = .ok (.iload 4, 2) := by decide +kernel
theorem dJ2_indexOfCharUnsafe_4cfef_12 : decode cJ2_indexOfCharUnsafe_4cfef 12 = .ok (.invokestatic 71, 3) := by decide +kernel
theorem dJ2_indexOfCharUnsafe_4cfef_15 : decode cJ2_indexOfCharUnsafe_4cfef 15 = .ok (.iload_n 1, 1) := by decide +kernel
theorem dJ2_indexOfCharUnsafe_4cfef_16 : decode cJ2_indexOfCharUnsafe_4cfef 16 = .ok (.if_icmp .ne 6, 3) := by decide +kernel
theorem dJ2_indexOfCharUnsafe_4cfef_19 : decode cJ2_indexOfCharUnsafe_4cfef 19 = .ok (.iload 4, 2) := by decide +kernel
theorem dJ2_indexOfCharUnsafe_4cfef_21 : decode cJ2_indexOfCharUnsafe_4cfef 21 = .ok (.ireturn, 1) := by decide +kernel
theorem dJ2_indexOfCharUnsafe_4cfef_22 : decode cJ2_indexOfCharUnsafe_4cfef 22 = .ok (.iinc 4 1, 3) := by decide +kernel
theorem dJ2_indexOfCharUnsafe_4cfef_25 : decode cJ2_indexOfCharUnsafe_4cfef 25 = .ok (.goto (-22), 3) := by decide +kernel
theorem dJ2_indexOfCharUnsafe_4cfef_28 : decode cJ2_indexOfCharUnsafe_4cfef 28 = .ok (.iconst (-1), 1) := by decide +kernel
theorem dJ2_indexOfCharUnsafe_4cfef_29 : decode cJ2_indexOfCharUnsafe_4cfef 29 = .ok (.ireturn, 1) := by decide +kernel
theorem dJ2_indexOfSupplementary_4cfef_0 : decode cJ2_indexOfSupplementary_4cfef 0 = .ok (.iload_n 1, 1) := by decide +kernel
theorem dJ2_indexOfSupplementary_4cfef_1 : decode cJ2_indexOfSupplementary_4cfef 1 = .ok (.invokestatic 164, 3) := by decide +kernel
theorem dJ2_indexOfSupplementary_4cfef_4 : decode cJ2_indexOfSupplementary_4cfef 4 = .ok (.ifCond .eq 65, 3) := by decide +kernel
theorem dJ2_indexOfSupplementary_4cfef_7 : decode cJ2_indexOfSupplementary_4cfef 7 = .ok (.iload_n 1, 1) := by decide +kernel
theorem dJ2_indexOfSupplementary_4cfef_8 : decode cJ2_indexOfSupplementary_4cfef 8 = .ok (.invokestatic 157, 3) := by decide +kernel
theorem dJ2_indexOfSupplementary_4cfef_11 : decode cJ2_indexOfSupplementary_4cfef 11 = .ok (.istore 4, 2) := by decide +kernel
theorem dJ2_indexOfSupplementary_4cfef_13 : decode cJ2_indexOfSupplementary_4cfef 13 = .ok (.iload_n 1, 1) := by decide +kernel
theorem dJ2_indexOfSupplementary_4cfef_14 : decode cJ2_indexOfSupplementary_4cfef 14 = .ok (.invokestatic 161, 3) := by decide +kernel
theorem dJ2_indexOfSupplementary_4cfef_17 : decode cJ2_indexOfSupplementary_4cfef 17 = .ok (.istore 5, 2) := by decide +kernel
theorem dJ2_indexOfSupplementary_4cfef_19 : decode cJ2_indexOfSupplementary_4cfef 19 = .ok (.iload_n 2, 1) := by decide +kernel
theorem dJ2_indexOfSupplementary_4cfef_20 : decode cJ2_indexOfSupplementary_4cfef 20 = .ok (.iload_n 3, 1) := by decide +kernel
theorem dJ2_indexOfSupplementary_4cfef_21 : decode cJ2_indexOfSupplementary_4cfef 21 = .ok (.aload_n 0, 1) := by decide +kernel
theorem dJ2_indexOfSupplementary_4cfef_22 : decode cJ2_indexOfSupplementary_4cfef 22 = .ok (.invokestatic 96, 3) := by decide +kernel
theorem dJ2_indexOfSupplementary_4cfef_25 : decode cJ2_indexOfSupplementary_4cfef 25 = .ok (.iload_n 2, 1) := by decide +kernel
theorem dJ2_indexOfSupplementary_4cfef_26 : decode cJ2_indexOfSupplementary_4cfef 26 = .ok (.istore 6, 2) := by decide +kernel
theorem dJ2_indexOfSupplementary_4cfef_28 : decode cJ2_indexOfSupplementary_4cfef 28 = .ok (.iload 6, 2) := by decide +kernel
theorem dJ2_indexOfSupplementary_4cfef_30 : decode cJ2_indexOfSupplementary_4cfef 30 = .ok (.iload_n 3, 1) := by decide +kernel
theorem dJ2_indexOfSupplementary_4cfef_31 : decode cJ2_indexOfSupplementary_4cfef 31 = .ok (.iconst 1, 1) := by decide +kernel
theorem dJ2_indexOfSupplementary_4cfef_32 : decode cJ2_indexOfSupplementary_4cfef 32 = .ok (.isub, 1) := by decide +kernel
theorem dJ2_indexOfSupplementary_4cfef_33 : decode cJ2_indexOfSupplementary_4cfef 33 = .ok (.if_icmp .ge 36, 3) := by decide +kernel
theorem dJ2_indexOfSupplementary_4cfef_36 : decode cJ2_indexOfSupplementary_4cfef 36 = .ok (.aload_n 0, 1) := by decide +kernel
theorem dJ2_indexOfSupplementary_4cfef_37 : decode cJ2_indexOfSupplementary_4cfef 37 = .ok (.iload 6, 2) := by decide +kernel
theorem dJ2_indexOfSupplementary_4cfef_39 : decode cJ2_indexOfSupplementary_4cfef 39 = .ok (.invokestatic 71, 3) := by decide +kernel
theorem dJ2_indexOfSupplementary_4cfef_42 : decode cJ2_indexOfSupplementary_4cfef 42 = .ok (.iload 4, 2) := by decide +kernel
theorem dJ2_indexOfSupplementary_4cfef_44 : decode cJ2_indexOfSupplementary_4cfef 44 = .ok (.if_icmp .ne 19, 3) := by decide +kernel
theorem dJ2_indexOfSupplementary_4cfef_47 : decode cJ2_indexOfSupplementary_4cfef 47 = .ok (.aload_n 0, 1) := by decide +kernel
theorem dJ2_indexOfSupplementary_4cfef_48 : decode cJ2_indexOfSupplementary_4cfef 48 = .ok (.iload 6, 2) := by decide +kernel
theorem dJ2_indexOfSupplementary_4cfef_50 : decode cJ2_indexOfSupplementary_4cfef 50 = .ok (.iconst 1, 1) := by decide +kernel
theorem dJ2_indexOfSupplementary_4cfef_51 : decode cJ2_indexOfSupplementary_4cfef 51 = .ok (.iadd, 1) := by decide +kernel
theorem dJ2_indexOfSupplementary_4cfef_52 : decode cJ2_indexOfSupplementary_4cfef 52 = .ok (.invokestatic 71, 3) := by decide +kernel
theorem dJ2_indexOfSupplementary_4cfef_55 : decode cJ2_indexOfSupplementary_4cfef 55 = .ok (.iload 5, 2) := by decide +kernel
theorem dJ2_indexOfSupplementary_4cfef_57 : decode cJ2_indexOfSupplementary_4cfef 57 = .ok (.if_icmp .ne 6, 3) := by decide +kernel
theorem dJ2_indexOfSupplementary_4cfef_60 : decode cJ2_indexOfSupplementary_4cfef 60 = .ok (.iload 6, 2) := by decide +kernel
theorem dJ2_indexOfSupplementary_4cfef_62 : decode cJ2_indexOfSupplementary_4cfef 62 = .ok (.ireturn, 1) := by decide +kernel
theorem dJ2_indexOfSupplementary_4cfef_63 : decode cJ2_indexOfSupplementary_4cfef 63 = .ok (.iinc 6 1, 3) := by decide +kernel
theorem dJ2_indexOfSupplementary_4cfef_66 : decode cJ2_indexOfSupplementary_4cfef 66 = .ok (.goto (-38), 3) := by decide +kernel
theorem dJ2_indexOfSupplementary_4cfef_69 : decode cJ2_indexOfSupplementary_4cfef 69 = .ok (.iconst (-1), 1) := by decide +kernel
theorem dJ2_indexOfSupplementary_4cfef_70 : decode cJ2_indexOfSupplementary_4cfef 70 = .ok (.ireturn, 1) := by decide +kernel
theorem dJ2_charAt_3b067_0 : decode cJ2_charAt_3b067 0 = .ok (.iload_n 1, 1) := by decide +kernel
theorem dJ2_charAt_3b067_1 : decode cJ2_charAt_3b067 1 = .ok (.aload_n 0, 1) := by decide +kernel
theorem dJ2_charAt_3b067_2 : decode cJ2_charAt_3b067 2 = .ok (.invokestatic 67, 3) := by decide +kernel
theorem dJ2_charAt_3b067_5 : decode cJ2_charAt_3b067 5 = .ok (.aload_n 0, 1) := by decide +kernel
theorem dJ2_charAt_3b067_6 : decode cJ2_charAt_3b067 6 = .ok (.iload_n 1, 1) := by decide +kernel
theorem dJ2_charAt_3b067_7 : decode cJ2_charAt_3b067 7 = .ok (.invokestatic 71, 3) := by decide +kernel
theorem dJ2_charAt_3b067_10 : decode cJ2_charAt_3b067 10 = .ok (.ireturn, 1) := by decide +kernel
theorem dJ2_checkIndex_2214a_0 : decode cJ2_checkIndex_2214a 0 = .ok (.iload_n 0, 1) := by decide +kernel
theorem dJ2_checkIndex_2214a_1 : decode cJ2_checkIndex_2214a 1 = .ok (.aload_n 1, 1) := by decide +kernel
theorem dJ2_checkIndex_2214a_2 : decode cJ2_checkIndex_2214a 2 = .ok (.invokestatic 48, 3) := by decide +kernel
theorem dJ2_checkIndex_2214a_5 : decode cJ2_checkIndex_2214a 5 = .ok (.invokestatic 414, 3) := by decide +kernel
theorem dJ2_checkIndex_2214a_8 : decode cJ2_checkIndex_2214a 8 = .ok (.return_, 1) := by decide +kernel
theorem dJ2_checkBoundsBeginEnd_d044e_0 : decode cJ2_checkBoundsBeginEnd_d044e 0 = .ok (.iload_n 0, 1) := by decide +kernel
theorem dJ2_checkBoundsBeginEnd_d044e_1 : decode cJ2_checkBoundsBeginEnd_d044e 1 = .ok (.iload_n 1, 1) := by decide +kernel
theorem dJ2_checkBoundsBeginEnd_d044e_2 : decode cJ2_checkBoundsBeginEnd_d044e 2 = .ok (.aload_n 2, 1) := by decide +kernel
theorem dJ2_checkBoundsBeginEnd_d044e_3 : decode cJ2_checkBoundsBeginEnd_d044e 3 = .ok (.invokestatic 48, 3) := by decide +kernel
theorem dJ2_checkBoundsBeginEnd_d044e_6 : decode cJ2_checkBoundsBeginEnd_d044e 6 = .ok (.invokestatic 241, 3) := by decide +kernel
theorem dJ2_checkBoundsBeginEnd_d044e_9 : decode cJ2_checkBoundsBeginEnd_d044e 9 = .ok (.return_, 1) := by decide +kernel
theorem dJ3_checkIndex_8e157_0 : decode cJ3_checkIndex_8e157 0 = .ok (.iload_n 0, 1) := by decide +kernel
theorem dJ3_checkIndex_8e157_1 : decode cJ3_checkIndex_8e157 1 = .ok (.ifCond .lt 8, 3) := by decide +kernel
theorem dJ3_checkIndex_8e157_4 : decode cJ3_checkIndex_8e157 4 = .ok (.iload_n 0, 1) := by decide +kernel
theorem dJ3_checkIndex_8e157_5 : decode cJ3_checkIndex_8e157 5 = .ok (.iload_n 1, 1) := by decide +kernel
theorem dJ3_checkIndex_8e157_6 : decode cJ3_checkIndex_8e157 6 = .ok (.if_icmp .lt 10, 3) := by decide +kernel
theorem dJ3_checkIndex_8e157_9 : decode cJ3_checkIndex_8e157 9 = .ok (.aload_n 2, 1) := by decide +kernel
theorem dJ3_checkIndex_8e157_10 : decode cJ3_checkIndex_8e157 10 = .ok (.iload_n 0, 1) := by decide +kernel
theorem dJ3_checkIndex_8e157_11 : decode cJ3_checkIndex_8e157 11 = .ok (.iload_n 1, 1) := by decide +kernel
theorem dJ3_checkIndex_8e157_12 : decode cJ3_checkIndex_8e157 12 = .ok (.invokestatic 95, 3) := by decide +kernel
theorem dJ3_checkIndex_8e157_15 : decode cJ3_checkIndex_8e157 15 = .ok (.athrow, 1) := by decide +kernel
theorem dJ3_checkIndex_8e157_16 : decode cJ3_checkIndex_8e157 16 = .ok (.iload_n 0, 1) := by decide +kernel
theorem dJ3_checkIndex_8e157_17 : decode cJ3_checkIndex_8e157 17 = .ok (.ireturn, 1) := by decide +kernel
theorem dJ3_checkFromToIndex_8c36e_0 : decode cJ3_checkFromToIndex_8c36e 0 = .ok (.iload_n 0, 1) := by decide +kernel
theorem dJ3_checkFromToIndex_8c36e_1 : decode cJ3_checkFromToIndex_8c36e 1 = .ok (.ifCond .lt 13, 3) := by decide +kernel
theorem dJ3_checkFromToIndex_8c36e_4 : decode cJ3_checkFromToIndex_8c36e 4 = .ok (.iload_n 0, 1) := by decide +kernel
theorem dJ3_checkFromToIndex_8c36e_5 : decode cJ3_checkFromToIndex_8c36e 5 = .ok (.iload_n 1, 1) := by decide +kernel
theorem dJ3_checkFromToIndex_8c36e_6 : decode cJ3_checkFromToIndex_8c36e 6 = .ok (.if_icmp .gt 8, 3) := by decide +kernel
theorem dJ3_checkFromToIndex_8c36e_9 : decode cJ3_checkFromToIndex_8c36e 9 = .ok (.iload_n 1, 1) := by decide +kernel
theorem dJ3_checkFromToIndex_8c36e_10 : decode cJ3_checkFromToIndex_8c36e 10 = .ok (.iload_n 2, 1) := by decide +kernel
theorem dJ3_checkFromToIndex_8c36e_11 : decode cJ3_checkFromToIndex_8c36e 11 = .ok (.if_icmp .le 11, 3) := by decide +kernel
theorem dJ3_checkFromToIndex_8c36e_14 : decode cJ3_checkFromToIndex_8c36e 14 = .ok (.aload_n 3, 1) := by decide +kernel
theorem dJ3_checkFromToIndex_8c36e_15 : decode cJ3_checkFromToIndex_8c36e 15 = .ok (.iload_n 0, 1) := by decide +kernel
theorem dJ3_checkFromToIndex_8c36e_16 : decode cJ3_checkFromToIndex_8c36e 16 = .ok (.iload_n 1, 1) := by decide +kernel
theorem dJ3_checkFromToIndex_8c36e_17 : decode cJ3_checkFromToIndex_8c36e 17 = .ok (.iload_n 2, 1) := by decide +kernel
theorem dJ3_checkFromToIndex_8c36e_18 : decode cJ3_checkFromToIndex_8c36e 18 = .ok (.invokestatic 99, 3) := by decide +kernel
theorem dJ3_checkFromToIndex_8c36e_21 : decode cJ3_checkFromToIndex_8c36e 21 = .ok (.athrow, 1) := by decide +kernel
theorem dJ3_checkFromToIndex_8c36e_22 : decode cJ3_checkFromToIndex_8c36e 22 = .ok (.iload_n 0, 1) := by decide +kernel
theorem dJ3_checkFromToIndex_8c36e_23 : decode cJ3_checkFromToIndex_8c36e 23 = .ok (.ireturn, 1) := by decide +kernel
theorem dL_law_0 : decode cL_law 0 = .ok (.new 7, 3) := by decide +kernel
theorem dL_law_3 : decode cL_law 3 = .ok (.dup, 1) := by decide +kernel
theorem dL_law_4 : decode cL_law 4 = .ok (.invokespecial 9, 3) := by decide +kernel
theorem dL_law_7 : decode cL_law 7 = .ok (.astore_n 1, 1) := by decide +kernel
theorem dL_law_8 : decode cL_law 8 = .ok (.new 10, 3) := by decide +kernel
theorem dL_law_11 : decode cL_law 11 = .ok (.dup, 1) := by decide +kernel
theorem dL_law_12 : decode cL_law 12 = .ok (.invokespecial 12, 3) := by decide +kernel
theorem dL_law_15 : decode cL_law 15 = .ok (.astore_n 2, 1) := by decide +kernel
theorem dL_law_16 : decode cL_law 16 = .ok (.iconst 0, 1) := by decide +kernel
theorem dL_law_17 : decode cL_law 17 = .ok (.istore_n 3, 1) := by decide +kernel
theorem dL_law_18 : decode cL_law 18 = .ok (.iload_n 3, 1) := by decide +kernel
theorem dL_law_19 : decode cL_law 19 = .ok (.aload_n 0, 1) := by decide +kernel
theorem dL_law_20 : decode cL_law 20 = .ok (.arraylength, 1) := by decide +kernel
theorem dL_law_21 : decode cL_law 21 = .ok (.bipush 6, 2) := by decide +kernel
theorem dL_law_23 : decode cL_law 23 = .ok (.isub, 1) := by decide +kernel
theorem dL_law_24 : decode cL_law 24 = .ok (.if_icmp .gt 1478, 3) := by decide +kernel
theorem dL_law_27 : decode cL_law 27 = .ok (.aload_n 0, 1) := by decide +kernel
theorem dL_law_28 : decode cL_law 28 = .ok (.iload_n 3, 1) := by decide +kernel
theorem dL_law_29 : decode cL_law 29 = .ok (.iaload, 1) := by decide +kernel
theorem dL_law_30 : decode cL_law 30 = .ok (.bipush 63, 2) := by decide +kernel
theorem dL_law_32 : decode cL_law 32 = .ok (.iand, 1) := by decide +kernel
theorem dL_law_33 : decode cL_law 33 = .ok (.tableswitch 1463 0 34 #[155, 218, 241, 294, 337, 370, 423, 466, 509, 542, 575, 638, 661, 684, 707, 750, 813, 846, 879, 902, 936, 969, 992, 1035, 1068, 1101, 1144, 1187, 1220, 1263, 1296, 1340, 1383, 1416, 1439], 155) := by decide +kernel
theorem dL_law_188 : decode cL_law 188 = .ok (.aload_n 1, 1) := by decide +kernel
theorem dL_law_189 : decode cL_law 189 = .ok (.aload_n 0, 1) := by decide +kernel
theorem dL_law_190 : decode cL_law 190 = .ok (.iload_n 3, 1) := by decide +kernel
theorem dL_law_191 : decode cL_law 191 = .ok (.iconst 1, 1) := by decide +kernel
theorem dL_law_192 : decode cL_law 192 = .ok (.iadd, 1) := by decide +kernel
theorem dL_law_193 : decode cL_law 193 = .ok (.iaload, 1) := by decide +kernel
theorem dL_law_194 : decode cL_law 194 = .ok (.aload_n 0, 1) := by decide +kernel
theorem dL_law_195 : decode cL_law 195 = .ok (.iload_n 3, 1) := by decide +kernel
theorem dL_law_196 : decode cL_law 196 = .ok (.iconst 2, 1) := by decide +kernel
theorem dL_law_197 : decode cL_law 197 = .ok (.iadd, 1) := by decide +kernel
theorem dL_law_198 : decode cL_law 198 = .ok (.iaload, 1) := by decide +kernel
theorem dL_law_199 : decode cL_law 199 = .ok (.aload_n 0, 1) := by decide +kernel
theorem dL_law_200 : decode cL_law 200 = .ok (.iload_n 3, 1) := by decide +kernel
theorem dL_law_201 : decode cL_law 201 = .ok (.iconst 3, 1) := by decide +kernel
theorem dL_law_202 : decode cL_law 202 = .ok (.iadd, 1) := by decide +kernel
theorem dL_law_203 : decode cL_law 203 = .ok (.iaload, 1) := by decide +kernel
theorem dL_law_204 : decode cL_law 204 = .ok (.aload_n 0, 1) := by decide +kernel
theorem dL_law_205 : decode cL_law 205 = .ok (.iload_n 3, 1) := by decide +kernel
theorem dL_law_206 : decode cL_law 206 = .ok (.iconst 4, 1) := by decide +kernel
theorem dL_law_207 : decode cL_law 207 = .ok (.iadd, 1) := by decide +kernel
theorem dL_law_208 : decode cL_law 208 = .ok (.iaload, 1) := by decide +kernel
theorem dL_law_209 : decode cL_law 209 = .ok (.aload_n 0, 1) := by decide +kernel
theorem dL_law_210 : decode cL_law 210 = .ok (.iload_n 3, 1) := by decide +kernel
theorem dL_law_211 : decode cL_law 211 = .ok (.iconst 5, 1) := by decide +kernel
theorem dL_law_212 : decode cL_law 212 = .ok (.iadd, 1) := by decide +kernel
theorem dL_law_213 : decode cL_law 213 = .ok (.iaload, 1) := by decide +kernel
theorem dL_law_214 : decode cL_law 214 = .ok (.invokevirtual 13, 3) := by decide +kernel
theorem dL_law_217 : decode cL_law 217 = .ok (.aload_n 2, 1) := by decide +kernel
theorem dL_law_218 : decode cL_law 218 = .ok (.aload_n 0, 1) := by decide +kernel
theorem dL_law_219 : decode cL_law 219 = .ok (.iload_n 3, 1) := by decide +kernel
theorem dL_law_220 : decode cL_law 220 = .ok (.iconst 1, 1) := by decide +kernel
theorem dL_law_221 : decode cL_law 221 = .ok (.iadd, 1) := by decide +kernel
theorem dL_law_222 : decode cL_law 222 = .ok (.iaload, 1) := by decide +kernel
theorem dL_law_223 : decode cL_law 223 = .ok (.aload_n 0, 1) := by decide +kernel
theorem dL_law_224 : decode cL_law 224 = .ok (.iload_n 3, 1) := by decide +kernel
theorem dL_law_225 : decode cL_law 225 = .ok (.iconst 2, 1) := by decide +kernel
theorem dL_law_226 : decode cL_law 226 = .ok (.iadd, 1) := by decide +kernel
theorem dL_law_227 : decode cL_law 227 = .ok (.iaload, 1) := by decide +kernel
theorem dL_law_228 : decode cL_law 228 = .ok (.aload_n 0, 1) := by decide +kernel
theorem dL_law_229 : decode cL_law 229 = .ok (.iload_n 3, 1) := by decide +kernel
theorem dL_law_230 : decode cL_law 230 = .ok (.iconst 3, 1) := by decide +kernel
theorem dL_law_231 : decode cL_law 231 = .ok (.iadd, 1) := by decide +kernel
theorem dL_law_232 : decode cL_law 232 = .ok (.iaload, 1) := by decide +kernel
theorem dL_law_233 : decode cL_law 233 = .ok (.aload_n 0, 1) := by decide +kernel
theorem dL_law_234 : decode cL_law 234 = .ok (.iload_n 3, 1) := by decide +kernel
theorem dL_law_235 : decode cL_law 235 = .ok (.iconst 4, 1) := by decide +kernel
theorem dL_law_236 : decode cL_law 236 = .ok (.iadd, 1) := by decide +kernel
theorem dL_law_237 : decode cL_law 237 = .ok (.iaload, 1) := by decide +kernel
theorem dL_law_238 : decode cL_law 238 = .ok (.aload_n 0, 1) := by decide +kernel
theorem dL_law_239 : decode cL_law 239 = .ok (.iload_n 3, 1) := by decide +kernel
theorem dL_law_240 : decode cL_law 240 = .ok (.iconst 5, 1) := by decide +kernel
theorem dL_law_241 : decode cL_law 241 = .ok (.iadd, 1) := by decide +kernel
theorem dL_law_242 : decode cL_law 242 = .ok (.iaload, 1) := by decide +kernel
theorem dL_law_243 : decode cL_law 243 = .ok (.invokevirtual 17, 3) := by decide +kernel
theorem dL_law_246 : decode cL_law 246 = .ok (.if_icmp .eq 1250, 3) := by decide +kernel
theorem dL_law_249 : decode cL_law 249 = .ok (.iconst 0, 1) := by decide +kernel
theorem dL_law_250 : decode cL_law 250 = .ok (.ireturn, 1) := by decide +kernel
theorem dL_law_251 : decode cL_law 251 = .ok (.aload_n 1, 1) := by decide +kernel
theorem dL_law_252 : decode cL_law 252 = .ok (.aload_n 0, 1) := by decide +kernel
theorem dL_law_253 : decode cL_law 253 = .ok (.iload_n 3, 1) := by decide +kernel
theorem dL_law_254 : decode cL_law 254 = .ok (.iconst 1, 1) := by decide +kernel
theorem dL_law_255 : decode cL_law 255 = .ok (.iadd, 1) := by decide +kernel
theorem dL_law_256 : decode cL_law 256 = .ok (.iaload, 1) := by decide +kernel
theorem dL_law_257 : decode cL_law 257 = .ok (.invokevirtual 18, 3) := by decide +kernel
theorem dL_law_260 : decode cL_law 260 = .ok (.aload_n 2, 1) := by decide +kernel
theorem dL_law_261 : decode cL_law 261 = .ok (.aload_n 0, 1) := by decide +kernel
theorem dL_law_262 : decode cL_law 262 = .ok (.iload_n 3, 1) := by decide +kernel
theorem dL_law_263 : decode cL_law 263 = .ok (.iconst 1, 1) := by decide +kernel
theorem dL_law_264 : decode cL_law 264 = .ok (.iadd, 1) := by decide +kernel
theorem dL_law_265 : decode cL_law 265 = .ok (.iaload, 1) := by decide +kernel
theorem dL_law_266 : decode cL_law 266 = .ok (.invokevirtual 22, 3) := by decide +kernel
theorem dL_law_269 : decode cL_law 269 = .ok (.if_icmp .eq 1227, 3) := by decide +kernel
theorem dL_law_272 : decode cL_law 272 = .ok (.iconst 0, 1) := by decide +kernel
theorem dL_law_273 : decode cL_law 273 = .ok (.ireturn, 1) := by decide +kernel
theorem dL_law_274 : decode cL_law 274 = .ok (.aload_n 1, 1) := by decide +kernel
theorem dL_law_275 : decode cL_law 275 = .ok (.aload_n 0, 1) := by decide +kernel
theorem dL_law_276 : decode cL_law 276 = .ok (.iload_n 3, 1) := by decide +kernel
theorem dL_law_277 : decode cL_law 277 = .ok (.iconst 1, 1) := by decide +kernel
theorem dL_law_278 : decode cL_law 278 = .ok (.iadd, 1) := by decide +kernel
theorem dL_law_279 : decode cL_law 279 = .ok (.iaload, 1) := by decide +kernel
theorem dL_law_280 : decode cL_law 280 = .ok (.aload_n 0, 1) := by decide +kernel
theorem dL_law_281 : decode cL_law 281 = .ok (.iload_n 3, 1) := by decide +kernel
theorem dL_law_282 : decode cL_law 282 = .ok (.iconst 2, 1) := by decide +kernel
theorem dL_law_283 : decode cL_law 283 = .ok (.iadd, 1) := by decide +kernel
theorem dL_law_284 : decode cL_law 284 = .ok (.iaload, 1) := by decide +kernel
theorem dL_law_285 : decode cL_law 285 = .ok (.aload_n 0, 1) := by decide +kernel
theorem dL_law_286 : decode cL_law 286 = .ok (.iload_n 3, 1) := by decide +kernel
theorem dL_law_287 : decode cL_law 287 = .ok (.iconst 3, 1) := by decide +kernel
theorem dL_law_288 : decode cL_law 288 = .ok (.iadd, 1) := by decide +kernel
theorem dL_law_289 : decode cL_law 289 = .ok (.iaload, 1) := by decide +kernel
theorem dL_law_290 : decode cL_law 290 = .ok (.aload_n 0, 1) := by decide +kernel
theorem dL_law_291 : decode cL_law 291 = .ok (.iload_n 3, 1) := by decide +kernel
theorem dL_law_292 : decode cL_law 292 = .ok (.iconst 4, 1) := by decide +kernel
theorem dL_law_293 : decode cL_law 293 = .ok (.iadd, 1) := by decide +kernel
theorem dL_law_294 : decode cL_law 294 = .ok (.iaload, 1) := by decide +kernel
theorem dL_law_295 : decode cL_law 295 = .ok (.invokevirtual 23, 3) := by decide +kernel
theorem dL_law_298 : decode cL_law 298 = .ok (.aload_n 2, 1) := by decide +kernel
theorem dL_law_299 : decode cL_law 299 = .ok (.aload_n 0, 1) := by decide +kernel
theorem dL_law_300 : decode cL_law 300 = .ok (.iload_n 3, 1) := by decide +kernel
theorem dL_law_301 : decode cL_law 301 = .ok (.iconst 1, 1) := by decide +kernel
theorem dL_law_302 : decode cL_law 302 = .ok (.iadd, 1) := by decide +kernel
theorem dL_law_303 : decode cL_law 303 = .ok (.iaload, 1) := by decide +kernel
theorem dL_law_304 : decode cL_law 304 = .ok (.aload_n 0, 1) := by decide +kernel
theorem dL_law_305 : decode cL_law 305 = .ok (.iload_n 3, 1) := by decide +kernel
theorem dL_law_306 : decode cL_law 306 = .ok (.iconst 2, 1) := by decide +kernel
theorem dL_law_307 : decode cL_law 307 = .ok (.iadd, 1) := by decide +kernel
theorem dL_law_308 : decode cL_law 308 = .ok (.iaload, 1) := by decide +kernel
theorem dL_law_309 : decode cL_law 309 = .ok (.aload_n 0, 1) := by decide +kernel
theorem dL_law_310 : decode cL_law 310 = .ok (.iload_n 3, 1) := by decide +kernel
theorem dL_law_311 : decode cL_law 311 = .ok (.iconst 3, 1) := by decide +kernel
theorem dL_law_312 : decode cL_law 312 = .ok (.iadd, 1) := by decide +kernel
theorem dL_law_313 : decode cL_law 313 = .ok (.iaload, 1) := by decide +kernel
theorem dL_law_314 : decode cL_law 314 = .ok (.aload_n 0, 1) := by decide +kernel
theorem dL_law_315 : decode cL_law 315 = .ok (.iload_n 3, 1) := by decide +kernel
theorem dL_law_316 : decode cL_law 316 = .ok (.iconst 4, 1) := by decide +kernel
theorem dL_law_317 : decode cL_law 317 = .ok (.iadd, 1) := by decide +kernel
theorem dL_law_318 : decode cL_law 318 = .ok (.iaload, 1) := by decide +kernel
theorem dL_law_319 : decode cL_law 319 = .ok (.invokevirtual 27, 3) := by decide +kernel
theorem dL_law_322 : decode cL_law 322 = .ok (.if_icmp .eq 1174, 3) := by decide +kernel
theorem dL_law_325 : decode cL_law 325 = .ok (.iconst 0, 1) := by decide +kernel
theorem dL_law_326 : decode cL_law 326 = .ok (.ireturn, 1) := by decide +kernel
theorem dL_law_327 : decode cL_law 327 = .ok (.aload_n 1, 1) := by decide +kernel
theorem dL_law_328 : decode cL_law 328 = .ok (.aload_n 0, 1) := by decide +kernel
theorem dL_law_329 : decode cL_law 329 = .ok (.iload_n 3, 1) := by decide +kernel
theorem dL_law_330 : decode cL_law 330 = .ok (.iconst 1, 1) := by decide +kernel
theorem dL_law_331 : decode cL_law 331 = .ok (.iadd, 1) := by decide +kernel
theorem dL_law_332 : decode cL_law 332 = .ok (.iaload, 1) := by decide +kernel
theorem dL_law_333 : decode cL_law 333 = .ok (.aload_n 0, 1) := by decide +kernel
theorem dL_law_334 : decode cL_law 334 = .ok (.iload_n 3, 1) := by decide +kernel
theorem dL_law_335 : decode cL_law 335 = .ok (.iconst 2, 1) := by decide +kernel
theorem dL_law_336 : decode cL_law 336 = .ok (.iadd, 1) := by decide +kernel
theorem dL_law_337 : decode cL_law 337 = .ok (.iaload, 1) := by decide +kernel
theorem dL_law_338 : decode cL_law 338 = .ok (.aload_n 0, 1) := by decide +kernel
theorem dL_law_339 : decode cL_law 339 = .ok (.iload_n 3, 1) := by decide +kernel
theorem dL_law_340 : decode cL_law 340 = .ok (.iconst 3, 1) := by decide +kernel
theorem dL_law_341 : decode cL_law 341 = .ok (.iadd, 1) := by decide +kernel
theorem dL_law_342 : decode cL_law 342 = .ok (.iaload, 1) := by decide +kernel
theorem dL_law_343 : decode cL_law 343 = .ok (.invokevirtual 28, 3) := by decide +kernel
theorem dL_law_346 : decode cL_law 346 = .ok (.aload_n 2, 1) := by decide +kernel
theorem dL_law_347 : decode cL_law 347 = .ok (.aload_n 0, 1) := by decide +kernel
theorem dL_law_348 : decode cL_law 348 = .ok (.iload_n 3, 1) := by decide +kernel
theorem dL_law_349 : decode cL_law 349 = .ok (.iconst 1, 1) := by decide +kernel
theorem dL_law_350 : decode cL_law 350 = .ok (.iadd, 1) := by decide +kernel
theorem dL_law_351 : decode cL_law 351 = .ok (.iaload, 1) := by decide +kernel
theorem dL_law_352 : decode cL_law 352 = .ok (.aload_n 0, 1) := by decide +kernel
theorem dL_law_353 : decode cL_law 353 = .ok (.iload_n 3, 1) := by decide +kernel
theorem dL_law_354 : decode cL_law 354 = .ok (.iconst 2, 1) := by decide +kernel
theorem dL_law_355 : decode cL_law 355 = .ok (.iadd, 1) := by decide +kernel
theorem dL_law_356 : decode cL_law 356 = .ok (.iaload, 1) := by decide +kernel
theorem dL_law_357 : decode cL_law 357 = .ok (.aload_n 0, 1) := by decide +kernel
theorem dL_law_358 : decode cL_law 358 = .ok (.iload_n 3, 1) := by decide +kernel
theorem dL_law_359 : decode cL_law 359 = .ok (.iconst 3, 1) := by decide +kernel
theorem dL_law_360 : decode cL_law 360 = .ok (.iadd, 1) := by decide +kernel
theorem dL_law_361 : decode cL_law 361 = .ok (.iaload, 1) := by decide +kernel
theorem dL_law_362 : decode cL_law 362 = .ok (.invokevirtual 32, 3) := by decide +kernel
theorem dL_law_365 : decode cL_law 365 = .ok (.if_icmp .eq 1131, 3) := by decide +kernel
theorem dL_law_368 : decode cL_law 368 = .ok (.iconst 0, 1) := by decide +kernel
theorem dL_law_369 : decode cL_law 369 = .ok (.ireturn, 1) := by decide +kernel
theorem dL_law_370 : decode cL_law 370 = .ok (.aload_n 1, 1) := by decide +kernel
theorem dL_law_371 : decode cL_law 371 = .ok (.aload_n 0, 1) := by decide +kernel
theorem dL_law_372 : decode cL_law 372 = .ok (.iload_n 3, 1) := by decide +kernel
theorem dL_law_373 : decode cL_law 373 = .ok (.iconst 1, 1) := by decide +kernel
theorem dL_law_374 : decode cL_law 374 = .ok (.iadd, 1) := by decide +kernel
theorem dL_law_375 : decode cL_law 375 = .ok (.iaload, 1) := by decide +kernel
theorem dL_law_376 : decode cL_law 376 = .ok (.aload_n 0, 1) := by decide +kernel
theorem dL_law_377 : decode cL_law 377 = .ok (.iload_n 3, 1) := by decide +kernel
theorem dL_law_378 : decode cL_law 378 = .ok (.iconst 2, 1) := by decide +kernel
theorem dL_law_379 : decode cL_law 379 = .ok (.iadd, 1) := by decide +kernel
theorem dL_law_380 : decode cL_law 380 = .ok (.iaload, 1) := by decide +kernel
theorem dL_law_381 : decode cL_law 381 = .ok (.invokevirtual 33, 3) := by decide +kernel
theorem dL_law_384 : decode cL_law 384 = .ok (.aload_n 2, 1) := by decide +kernel
theorem dL_law_385 : decode cL_law 385 = .ok (.aload_n 0, 1) := by decide +kernel
theorem dL_law_386 : decode cL_law 386 = .ok (.iload_n 3, 1) := by decide +kernel
theorem dL_law_387 : decode cL_law 387 = .ok (.iconst 1, 1) := by decide +kernel
theorem dL_law_388 : decode cL_law 388 = .ok (.iadd, 1) := by decide +kernel
theorem dL_law_389 : decode cL_law 389 = .ok (.iaload, 1) := by decide +kernel
theorem dL_law_390 : decode cL_law 390 = .ok (.aload_n 0, 1) := by decide +kernel
theorem dL_law_391 : decode cL_law 391 = .ok (.iload_n 3, 1) := by decide +kernel
theorem dL_law_392 : decode cL_law 392 = .ok (.iconst 2, 1) := by decide +kernel
theorem dL_law_393 : decode cL_law 393 = .ok (.iadd, 1) := by decide +kernel
theorem dL_law_394 : decode cL_law 394 = .ok (.iaload, 1) := by decide +kernel
theorem dL_law_395 : decode cL_law 395 = .ok (.invokevirtual 37, 3) := by decide +kernel
theorem dL_law_398 : decode cL_law 398 = .ok (.if_icmp .eq 1098, 3) := by decide +kernel
theorem dL_law_401 : decode cL_law 401 = .ok (.iconst 0, 1) := by decide +kernel
theorem dL_law_402 : decode cL_law 402 = .ok (.ireturn, 1) := by decide +kernel
theorem dL_law_403 : decode cL_law 403 = .ok (.aload_n 1, 1) := by decide +kernel
theorem dL_law_404 : decode cL_law 404 = .ok (.aload_n 0, 1) := by decide +kernel
theorem dL_law_405 : decode cL_law 405 = .ok (.iload_n 3, 1) := by decide +kernel
theorem dL_law_406 : decode cL_law 406 = .ok (.iconst 1, 1) := by decide +kernel
theorem dL_law_407 : decode cL_law 407 = .ok (.iadd, 1) := by decide +kernel
theorem dL_law_408 : decode cL_law 408 = .ok (.iaload, 1) := by decide +kernel
theorem dL_law_409 : decode cL_law 409 = .ok (.aload_n 0, 1) := by decide +kernel
theorem dL_law_410 : decode cL_law 410 = .ok (.iload_n 3, 1) := by decide +kernel
theorem dL_law_411 : decode cL_law 411 = .ok (.iconst 2, 1) := by decide +kernel
theorem dL_law_412 : decode cL_law 412 = .ok (.iadd, 1) := by decide +kernel
theorem dL_law_413 : decode cL_law 413 = .ok (.iaload, 1) := by decide +kernel
theorem dL_law_414 : decode cL_law 414 = .ok (.aload_n 0, 1) := by decide +kernel
theorem dL_law_415 : decode cL_law 415 = .ok (.iload_n 3, 1) := by decide +kernel
theorem dL_law_416 : decode cL_law 416 = .ok (.iconst 3, 1) := by decide +kernel
theorem dL_law_417 : decode cL_law 417 = .ok (.iadd, 1) := by decide +kernel
theorem dL_law_418 : decode cL_law 418 = .ok (.iaload, 1) := by decide +kernel
theorem dL_law_419 : decode cL_law 419 = .ok (.aload_n 0, 1) := by decide +kernel
theorem dL_law_420 : decode cL_law 420 = .ok (.iload_n 3, 1) := by decide +kernel
theorem dL_law_421 : decode cL_law 421 = .ok (.iconst 4, 1) := by decide +kernel
theorem dL_law_422 : decode cL_law 422 = .ok (.iadd, 1) := by decide +kernel
theorem dL_law_423 : decode cL_law 423 = .ok (.iaload, 1) := by decide +kernel
theorem dL_law_424 : decode cL_law 424 = .ok (.invokevirtual 38, 3) := by decide +kernel
theorem dL_law_427 : decode cL_law 427 = .ok (.aload_n 2, 1) := by decide +kernel
theorem dL_law_428 : decode cL_law 428 = .ok (.aload_n 0, 1) := by decide +kernel
theorem dL_law_429 : decode cL_law 429 = .ok (.iload_n 3, 1) := by decide +kernel
theorem dL_law_430 : decode cL_law 430 = .ok (.iconst 1, 1) := by decide +kernel
theorem dL_law_431 : decode cL_law 431 = .ok (.iadd, 1) := by decide +kernel
theorem dL_law_432 : decode cL_law 432 = .ok (.iaload, 1) := by decide +kernel
theorem dL_law_433 : decode cL_law 433 = .ok (.aload_n 0, 1) := by decide +kernel
theorem dL_law_434 : decode cL_law 434 = .ok (.iload_n 3, 1) := by decide +kernel
theorem dL_law_435 : decode cL_law 435 = .ok (.iconst 2, 1) := by decide +kernel
theorem dL_law_436 : decode cL_law 436 = .ok (.iadd, 1) := by decide +kernel
theorem dL_law_437 : decode cL_law 437 = .ok (.iaload, 1) := by decide +kernel
theorem dL_law_438 : decode cL_law 438 = .ok (.aload_n 0, 1) := by decide +kernel
theorem dL_law_439 : decode cL_law 439 = .ok (.iload_n 3, 1) := by decide +kernel
theorem dL_law_440 : decode cL_law 440 = .ok (.iconst 3, 1) := by decide +kernel
theorem dL_law_441 : decode cL_law 441 = .ok (.iadd, 1) := by decide +kernel
theorem dL_law_442 : decode cL_law 442 = .ok (.iaload, 1) := by decide +kernel
theorem dL_law_443 : decode cL_law 443 = .ok (.aload_n 0, 1) := by decide +kernel
theorem dL_law_444 : decode cL_law 444 = .ok (.iload_n 3, 1) := by decide +kernel
theorem dL_law_445 : decode cL_law 445 = .ok (.iconst 4, 1) := by decide +kernel
theorem dL_law_446 : decode cL_law 446 = .ok (.iadd, 1) := by decide +kernel
theorem dL_law_447 : decode cL_law 447 = .ok (.iaload, 1) := by decide +kernel
theorem dL_law_448 : decode cL_law 448 = .ok (.invokevirtual 41, 3) := by decide +kernel
theorem dL_law_451 : decode cL_law 451 = .ok (.if_icmp .eq 1045, 3) := by decide +kernel
theorem dL_law_454 : decode cL_law 454 = .ok (.iconst 0, 1) := by decide +kernel
theorem dL_law_455 : decode cL_law 455 = .ok (.ireturn, 1) := by decide +kernel
theorem dL_law_456 : decode cL_law 456 = .ok (.aload_n 1, 1) := by decide +kernel
theorem dL_law_457 : decode cL_law 457 = .ok (.aload_n 0, 1) := by decide +kernel
theorem dL_law_458 : decode cL_law 458 = .ok (.iload_n 3, 1) := by decide +kernel
theorem dL_law_459 : decode cL_law 459 = .ok (.iconst 1, 1) := by decide +kernel
theorem dL_law_460 : decode cL_law 460 = .ok (.iadd, 1) := by decide +kernel
theorem dL_law_461 : decode cL_law 461 = .ok (.iaload, 1) := by decide +kernel
theorem dL_law_462 : decode cL_law 462 = .ok (.aload_n 0, 1) := by decide +kernel
theorem dL_law_463 : decode cL_law 463 = .ok (.iload_n 3, 1) := by decide +kernel
theorem dL_law_464 : decode cL_law 464 = .ok (.iconst 2, 1) := by decide +kernel
theorem dL_law_465 : decode cL_law 465 = .ok (.iadd, 1) := by decide +kernel
theorem dL_law_466 : decode cL_law 466 = .ok (.iaload, 1) := by decide +kernel
theorem dL_law_467 : decode cL_law 467 = .ok (.aload_n 0, 1) := by decide +kernel
theorem dL_law_468 : decode cL_law 468 = .ok (.iload_n 3, 1) := by decide +kernel
theorem dL_law_469 : decode cL_law 469 = .ok (.iconst 3, 1) := by decide +kernel
theorem dL_law_470 : decode cL_law 470 = .ok (.iadd, 1) := by decide +kernel
theorem dL_law_471 : decode cL_law 471 = .ok (.iaload, 1) := by decide +kernel
theorem dL_law_472 : decode cL_law 472 = .ok (.invokevirtual 42, 3) := by decide +kernel
theorem dL_law_475 : decode cL_law 475 = .ok (.aload_n 2, 1) := by decide +kernel
theorem dL_law_476 : decode cL_law 476 = .ok (.aload_n 0, 1) := by decide +kernel
theorem dL_law_477 : decode cL_law 477 = .ok (.iload_n 3, 1) := by decide +kernel
theorem dL_law_478 : decode cL_law 478 = .ok (.iconst 1, 1) := by decide +kernel
theorem dL_law_479 : decode cL_law 479 = .ok (.iadd, 1) := by decide +kernel
theorem dL_law_480 : decode cL_law 480 = .ok (.iaload, 1) := by decide +kernel
theorem dL_law_481 : decode cL_law 481 = .ok (.aload_n 0, 1) := by decide +kernel
theorem dL_law_482 : decode cL_law 482 = .ok (.iload_n 3, 1) := by decide +kernel
theorem dL_law_483 : decode cL_law 483 = .ok (.iconst 2, 1) := by decide +kernel
theorem dL_law_484 : decode cL_law 484 = .ok (.iadd, 1) := by decide +kernel
theorem dL_law_485 : decode cL_law 485 = .ok (.iaload, 1) := by decide +kernel
theorem dL_law_486 : decode cL_law 486 = .ok (.aload_n 0, 1) := by decide +kernel
theorem dL_law_487 : decode cL_law 487 = .ok (.iload_n 3, 1) := by decide +kernel
theorem dL_law_488 : decode cL_law 488 = .ok (.iconst 3, 1) := by decide +kernel
theorem dL_law_489 : decode cL_law 489 = .ok (.iadd, 1) := by decide +kernel
theorem dL_law_490 : decode cL_law 490 = .ok (.iaload, 1) := by decide +kernel
theorem dL_law_491 : decode cL_law 491 = .ok (.invokevirtual 46, 3) := by decide +kernel
theorem dL_law_494 : decode cL_law 494 = .ok (.if_icmp .eq 1002, 3) := by decide +kernel
theorem dL_law_497 : decode cL_law 497 = .ok (.iconst 0, 1) := by decide +kernel
theorem dL_law_498 : decode cL_law 498 = .ok (.ireturn, 1) := by decide +kernel
theorem dL_law_499 : decode cL_law 499 = .ok (.aload_n 1, 1) := by decide +kernel
theorem dL_law_500 : decode cL_law 500 = .ok (.aload_n 0, 1) := by decide +kernel
theorem dL_law_501 : decode cL_law 501 = .ok (.iload_n 3, 1) := by decide +kernel
theorem dL_law_502 : decode cL_law 502 = .ok (.iconst 1, 1) := by decide +kernel
theorem dL_law_503 : decode cL_law 503 = .ok (.iadd, 1) := by decide +kernel
theorem dL_law_504 : decode cL_law 504 = .ok (.iaload, 1) := by decide +kernel
theorem dL_law_505 : decode cL_law 505 = .ok (.aload_n 0, 1) := by decide +kernel
theorem dL_law_506 : decode cL_law 506 = .ok (.iload_n 3, 1) := by decide +kernel
theorem dL_law_507 : decode cL_law 507 = .ok (.iconst 2, 1) := by decide +kernel
theorem dL_law_508 : decode cL_law 508 = .ok (.iadd, 1) := by decide +kernel
theorem dL_law_509 : decode cL_law 509 = .ok (.iaload, 1) := by decide +kernel
theorem dL_law_510 : decode cL_law 510 = .ok (.aload_n 0, 1) := by decide +kernel
theorem dL_law_511 : decode cL_law 511 = .ok (.iload_n 3, 1) := by decide +kernel
theorem dL_law_512 : decode cL_law 512 = .ok (.iconst 3, 1) := by decide +kernel
theorem dL_law_513 : decode cL_law 513 = .ok (.iadd, 1) := by decide +kernel
theorem dL_law_514 : decode cL_law 514 = .ok (.iaload, 1) := by decide +kernel
theorem dL_law_515 : decode cL_law 515 = .ok (.invokevirtual 47, 3) := by decide +kernel
theorem dL_law_518 : decode cL_law 518 = .ok (.aload_n 2, 1) := by decide +kernel
theorem dL_law_519 : decode cL_law 519 = .ok (.aload_n 0, 1) := by decide +kernel
theorem dL_law_520 : decode cL_law 520 = .ok (.iload_n 3, 1) := by decide +kernel
theorem dL_law_521 : decode cL_law 521 = .ok (.iconst 1, 1) := by decide +kernel
theorem dL_law_522 : decode cL_law 522 = .ok (.iadd, 1) := by decide +kernel
theorem dL_law_523 : decode cL_law 523 = .ok (.iaload, 1) := by decide +kernel
theorem dL_law_524 : decode cL_law 524 = .ok (.aload_n 0, 1) := by decide +kernel
theorem dL_law_525 : decode cL_law 525 = .ok (.iload_n 3, 1) := by decide +kernel
theorem dL_law_526 : decode cL_law 526 = .ok (.iconst 2, 1) := by decide +kernel
theorem dL_law_527 : decode cL_law 527 = .ok (.iadd, 1) := by decide +kernel
theorem dL_law_528 : decode cL_law 528 = .ok (.iaload, 1) := by decide +kernel
theorem dL_law_529 : decode cL_law 529 = .ok (.aload_n 0, 1) := by decide +kernel
theorem dL_law_530 : decode cL_law 530 = .ok (.iload_n 3, 1) := by decide +kernel
theorem dL_law_531 : decode cL_law 531 = .ok (.iconst 3, 1) := by decide +kernel
theorem dL_law_532 : decode cL_law 532 = .ok (.iadd, 1) := by decide +kernel
theorem dL_law_533 : decode cL_law 533 = .ok (.iaload, 1) := by decide +kernel
theorem dL_law_534 : decode cL_law 534 = .ok (.invokevirtual 50, 3) := by decide +kernel
theorem dL_law_537 : decode cL_law 537 = .ok (.if_icmp .eq 959, 3) := by decide +kernel
theorem dL_law_540 : decode cL_law 540 = .ok (.iconst 0, 1) := by decide +kernel
theorem dL_law_541 : decode cL_law 541 = .ok (.ireturn, 1) := by decide +kernel
theorem dL_law_542 : decode cL_law 542 = .ok (.aload_n 1, 1) := by decide +kernel
theorem dL_law_543 : decode cL_law 543 = .ok (.aload_n 0, 1) := by decide +kernel
theorem dL_law_544 : decode cL_law 544 = .ok (.iload_n 3, 1) := by decide +kernel
theorem dL_law_545 : decode cL_law 545 = .ok (.iconst 1, 1) := by decide +kernel
theorem dL_law_546 : decode cL_law 546 = .ok (.iadd, 1) := by decide +kernel
theorem dL_law_547 : decode cL_law 547 = .ok (.iaload, 1) := by decide +kernel
theorem dL_law_548 : decode cL_law 548 = .ok (.aload_n 0, 1) := by decide +kernel
theorem dL_law_549 : decode cL_law 549 = .ok (.iload_n 3, 1) := by decide +kernel
theorem dL_law_550 : decode cL_law 550 = .ok (.iconst 2, 1) := by decide +kernel
theorem dL_law_551 : decode cL_law 551 = .ok (.iadd, 1) := by decide +kernel
theorem dL_law_552 : decode cL_law 552 = .ok (.iaload, 1) := by decide +kernel
theorem dL_law_553 : decode cL_law 553 = .ok (.invokevirtual 51, 3) := by decide +kernel
theorem dL_law_556 : decode cL_law 556 = .ok (.aload_n 2, 1) := by decide +kernel
theorem dL_law_557 : decode cL_law 557 = .ok (.aload_n 0, 1) := by decide +kernel
theorem dL_law_558 : decode cL_law 558 = .ok (.iload_n 3, 1) := by decide +kernel
theorem dL_law_559 : decode cL_law 559 = .ok (.iconst 1, 1) := by decide +kernel
theorem dL_law_560 : decode cL_law 560 = .ok (.iadd, 1) := by decide +kernel
theorem dL_law_561 : decode cL_law 561 = .ok (.iaload, 1) := by decide +kernel
theorem dL_law_562 : decode cL_law 562 = .ok (.aload_n 0, 1) := by decide +kernel
theorem dL_law_563 : decode cL_law 563 = .ok (.iload_n 3, 1) := by decide +kernel
theorem dL_law_564 : decode cL_law 564 = .ok (.iconst 2, 1) := by decide +kernel
theorem dL_law_565 : decode cL_law 565 = .ok (.iadd, 1) := by decide +kernel
theorem dL_law_566 : decode cL_law 566 = .ok (.iaload, 1) := by decide +kernel
theorem dL_law_567 : decode cL_law 567 = .ok (.invokevirtual 55, 3) := by decide +kernel
theorem dL_law_570 : decode cL_law 570 = .ok (.if_icmp .eq 926, 3) := by decide +kernel
theorem dL_law_573 : decode cL_law 573 = .ok (.iconst 0, 1) := by decide +kernel
theorem dL_law_574 : decode cL_law 574 = .ok (.ireturn, 1) := by decide +kernel
theorem dL_law_575 : decode cL_law 575 = .ok (.aload_n 1, 1) := by decide +kernel
theorem dL_law_576 : decode cL_law 576 = .ok (.aload_n 0, 1) := by decide +kernel
theorem dL_law_577 : decode cL_law 577 = .ok (.iload_n 3, 1) := by decide +kernel
theorem dL_law_578 : decode cL_law 578 = .ok (.iconst 1, 1) := by decide +kernel
theorem dL_law_579 : decode cL_law 579 = .ok (.iadd, 1) := by decide +kernel
theorem dL_law_580 : decode cL_law 580 = .ok (.iaload, 1) := by decide +kernel
theorem dL_law_581 : decode cL_law 581 = .ok (.aload_n 0, 1) := by decide +kernel
theorem dL_law_582 : decode cL_law 582 = .ok (.iload_n 3, 1) := by decide +kernel
theorem dL_law_583 : decode cL_law 583 = .ok (.iconst 2, 1) := by decide +kernel
theorem dL_law_584 : decode cL_law 584 = .ok (.iadd, 1) := by decide +kernel
theorem dL_law_585 : decode cL_law 585 = .ok (.iaload, 1) := by decide +kernel
theorem dL_law_586 : decode cL_law 586 = .ok (.invokevirtual 56, 3) := by decide +kernel
theorem dL_law_589 : decode cL_law 589 = .ok (.aload_n 2, 1) := by decide +kernel
theorem dL_law_590 : decode cL_law 590 = .ok (.aload_n 0, 1) := by decide +kernel
theorem dL_law_591 : decode cL_law 591 = .ok (.iload_n 3, 1) := by decide +kernel
theorem dL_law_592 : decode cL_law 592 = .ok (.iconst 1, 1) := by decide +kernel
theorem dL_law_593 : decode cL_law 593 = .ok (.iadd, 1) := by decide +kernel
theorem dL_law_594 : decode cL_law 594 = .ok (.iaload, 1) := by decide +kernel
theorem dL_law_595 : decode cL_law 595 = .ok (.aload_n 0, 1) := by decide +kernel
theorem dL_law_596 : decode cL_law 596 = .ok (.iload_n 3, 1) := by decide +kernel
theorem dL_law_597 : decode cL_law 597 = .ok (.iconst 2, 1) := by decide +kernel
theorem dL_law_598 : decode cL_law 598 = .ok (.iadd, 1) := by decide +kernel
theorem dL_law_599 : decode cL_law 599 = .ok (.iaload, 1) := by decide +kernel
theorem dL_law_600 : decode cL_law 600 = .ok (.invokevirtual 59, 3) := by decide +kernel
theorem dL_law_603 : decode cL_law 603 = .ok (.if_icmp .eq 893, 3) := by decide +kernel
theorem dL_law_606 : decode cL_law 606 = .ok (.iconst 0, 1) := by decide +kernel
theorem dL_law_607 : decode cL_law 607 = .ok (.ireturn, 1) := by decide +kernel
theorem dL_law_608 : decode cL_law 608 = .ok (.aload_n 1, 1) := by decide +kernel
theorem dL_law_609 : decode cL_law 609 = .ok (.aload_n 0, 1) := by decide +kernel
theorem dL_law_610 : decode cL_law 610 = .ok (.iload_n 3, 1) := by decide +kernel
theorem dL_law_611 : decode cL_law 611 = .ok (.iconst 1, 1) := by decide +kernel
theorem dL_law_612 : decode cL_law 612 = .ok (.iadd, 1) := by decide +kernel
theorem dL_law_613 : decode cL_law 613 = .ok (.iaload, 1) := by decide +kernel
theorem dL_law_614 : decode cL_law 614 = .ok (.aload_n 0, 1) := by decide +kernel
theorem dL_law_615 : decode cL_law 615 = .ok (.iload_n 3, 1) := by decide +kernel
theorem dL_law_616 : decode cL_law 616 = .ok (.iconst 2, 1) := by decide +kernel
theorem dL_law_617 : decode cL_law 617 = .ok (.iadd, 1) := by decide +kernel
theorem dL_law_618 : decode cL_law 618 = .ok (.iaload, 1) := by decide +kernel
theorem dL_law_619 : decode cL_law 619 = .ok (.aload_n 0, 1) := by decide +kernel
theorem dL_law_620 : decode cL_law 620 = .ok (.iload_n 3, 1) := by decide +kernel
theorem dL_law_621 : decode cL_law 621 = .ok (.iconst 3, 1) := by decide +kernel
theorem dL_law_622 : decode cL_law 622 = .ok (.iadd, 1) := by decide +kernel
theorem dL_law_623 : decode cL_law 623 = .ok (.iaload, 1) := by decide +kernel
theorem dL_law_624 : decode cL_law 624 = .ok (.aload_n 0, 1) := by decide +kernel
theorem dL_law_625 : decode cL_law 625 = .ok (.iload_n 3, 1) := by decide +kernel
theorem dL_law_626 : decode cL_law 626 = .ok (.iconst 4, 1) := by decide +kernel
theorem dL_law_627 : decode cL_law 627 = .ok (.iadd, 1) := by decide +kernel
theorem dL_law_628 : decode cL_law 628 = .ok (.iaload, 1) := by decide +kernel
theorem dL_law_629 : decode cL_law 629 = .ok (.aload_n 0, 1) := by decide +kernel
theorem dL_law_630 : decode cL_law 630 = .ok (.iload_n 3, 1) := by decide +kernel
theorem dL_law_631 : decode cL_law 631 = .ok (.iconst 5, 1) := by decide +kernel
theorem dL_law_632 : decode cL_law 632 = .ok (.iadd, 1) := by decide +kernel
theorem dL_law_633 : decode cL_law 633 = .ok (.iaload, 1) := by decide +kernel
theorem dL_law_634 : decode cL_law 634 = .ok (.invokevirtual 60, 3) := by decide +kernel
theorem dL_law_637 : decode cL_law 637 = .ok (.aload_n 2, 1) := by decide +kernel
theorem dL_law_638 : decode cL_law 638 = .ok (.aload_n 0, 1) := by decide +kernel
theorem dL_law_639 : decode cL_law 639 = .ok (.iload_n 3, 1) := by decide +kernel
theorem dL_law_640 : decode cL_law 640 = .ok (.iconst 1, 1) := by decide +kernel
theorem dL_law_641 : decode cL_law 641 = .ok (.iadd, 1) := by decide +kernel
theorem dL_law_642 : decode cL_law 642 = .ok (.iaload, 1) := by decide +kernel
theorem dL_law_643 : decode cL_law 643 = .ok (.aload_n 0, 1) := by decide +kernel
theorem dL_law_644 : decode cL_law 644 = .ok (.iload_n 3, 1) := by decide +kernel
theorem dL_law_645 : decode cL_law 645 = .ok (.iconst 2, 1) := by decide +kernel
theorem dL_law_646 : decode cL_law 646 = .ok (.iadd, 1) := by decide +kernel
theorem dL_law_647 : decode cL_law 647 = .ok (.iaload, 1) := by decide +kernel
theorem dL_law_648 : decode cL_law 648 = .ok (.aload_n 0, 1) := by decide +kernel
theorem dL_law_649 : decode cL_law 649 = .ok (.iload_n 3, 1) := by decide +kernel
theorem dL_law_650 : decode cL_law 650 = .ok (.iconst 3, 1) := by decide +kernel
theorem dL_law_651 : decode cL_law 651 = .ok (.iadd, 1) := by decide +kernel
theorem dL_law_652 : decode cL_law 652 = .ok (.iaload, 1) := by decide +kernel
theorem dL_law_653 : decode cL_law 653 = .ok (.aload_n 0, 1) := by decide +kernel
theorem dL_law_654 : decode cL_law 654 = .ok (.iload_n 3, 1) := by decide +kernel
theorem dL_law_655 : decode cL_law 655 = .ok (.iconst 4, 1) := by decide +kernel
theorem dL_law_656 : decode cL_law 656 = .ok (.iadd, 1) := by decide +kernel
theorem dL_law_657 : decode cL_law 657 = .ok (.iaload, 1) := by decide +kernel
theorem dL_law_658 : decode cL_law 658 = .ok (.aload_n 0, 1) := by decide +kernel
theorem dL_law_659 : decode cL_law 659 = .ok (.iload_n 3, 1) := by decide +kernel
theorem dL_law_660 : decode cL_law 660 = .ok (.iconst 5, 1) := by decide +kernel
theorem dL_law_661 : decode cL_law 661 = .ok (.iadd, 1) := by decide +kernel
theorem dL_law_662 : decode cL_law 662 = .ok (.iaload, 1) := by decide +kernel
theorem dL_law_663 : decode cL_law 663 = .ok (.invokevirtual 63, 3) := by decide +kernel
theorem dL_law_666 : decode cL_law 666 = .ok (.if_icmp .eq 830, 3) := by decide +kernel
theorem dL_law_669 : decode cL_law 669 = .ok (.iconst 0, 1) := by decide +kernel
theorem dL_law_670 : decode cL_law 670 = .ok (.ireturn, 1) := by decide +kernel
theorem dL_law_671 : decode cL_law 671 = .ok (.aload_n 1, 1) := by decide +kernel
theorem dL_law_672 : decode cL_law 672 = .ok (.aload_n 0, 1) := by decide +kernel
theorem dL_law_673 : decode cL_law 673 = .ok (.iload_n 3, 1) := by decide +kernel
theorem dL_law_674 : decode cL_law 674 = .ok (.iconst 1, 1) := by decide +kernel
theorem dL_law_675 : decode cL_law 675 = .ok (.iadd, 1) := by decide +kernel
theorem dL_law_676 : decode cL_law 676 = .ok (.iaload, 1) := by decide +kernel
theorem dL_law_677 : decode cL_law 677 = .ok (.invokevirtual 64, 3) := by decide +kernel
theorem dL_law_680 : decode cL_law 680 = .ok (.aload_n 2, 1) := by decide +kernel
theorem dL_law_681 : decode cL_law 681 = .ok (.aload_n 0, 1) := by decide +kernel
theorem dL_law_682 : decode cL_law 682 = .ok (.iload_n 3, 1) := by decide +kernel
theorem dL_law_683 : decode cL_law 683 = .ok (.iconst 1, 1) := by decide +kernel
theorem dL_law_684 : decode cL_law 684 = .ok (.iadd, 1) := by decide +kernel
theorem dL_law_685 : decode cL_law 685 = .ok (.iaload, 1) := by decide +kernel
theorem dL_law_686 : decode cL_law 686 = .ok (.invokevirtual 68, 3) := by decide +kernel
theorem dL_law_689 : decode cL_law 689 = .ok (.if_icmp .eq 807, 3) := by decide +kernel
theorem dL_law_692 : decode cL_law 692 = .ok (.iconst 0, 1) := by decide +kernel
theorem dL_law_693 : decode cL_law 693 = .ok (.ireturn, 1) := by decide +kernel
theorem dL_law_694 : decode cL_law 694 = .ok (.aload_n 1, 1) := by decide +kernel
theorem dL_law_695 : decode cL_law 695 = .ok (.aload_n 0, 1) := by decide +kernel
theorem dL_law_696 : decode cL_law 696 = .ok (.iload_n 3, 1) := by decide +kernel
theorem dL_law_697 : decode cL_law 697 = .ok (.iconst 1, 1) := by decide +kernel
theorem dL_law_698 : decode cL_law 698 = .ok (.iadd, 1) := by decide +kernel
theorem dL_law_699 : decode cL_law 699 = .ok (.iaload, 1) := by decide +kernel
theorem dL_law_700 : decode cL_law 700 = .ok (.invokevirtual 69, 3) := by decide +kernel
theorem dL_law_703 : decode cL_law 703 = .ok (.aload_n 2, 1) := by decide +kernel
theorem dL_law_704 : decode cL_law 704 = .ok (.aload_n 0, 1) := by decide +kernel
theorem dL_law_705 : decode cL_law 705 = .ok (.iload_n 3, 1) := by decide +kernel
theorem dL_law_706 : decode cL_law 706 = .ok (.iconst 1, 1) := by decide +kernel
theorem dL_law_707 : decode cL_law 707 = .ok (.iadd, 1) := by decide +kernel
theorem dL_law_708 : decode cL_law 708 = .ok (.iaload, 1) := by decide +kernel
theorem dL_law_709 : decode cL_law 709 = .ok (.invokevirtual 72, 3) := by decide +kernel
theorem dL_law_712 : decode cL_law 712 = .ok (.if_icmp .eq 784, 3) := by decide +kernel
theorem dL_law_715 : decode cL_law 715 = .ok (.iconst 0, 1) := by decide +kernel
theorem dL_law_716 : decode cL_law 716 = .ok (.ireturn, 1) := by decide +kernel
theorem dL_law_717 : decode cL_law 717 = .ok (.aload_n 1, 1) := by decide +kernel
theorem dL_law_718 : decode cL_law 718 = .ok (.aload_n 0, 1) := by decide +kernel
theorem dL_law_719 : decode cL_law 719 = .ok (.iload_n 3, 1) := by decide +kernel
theorem dL_law_720 : decode cL_law 720 = .ok (.iconst 1, 1) := by decide +kernel
theorem dL_law_721 : decode cL_law 721 = .ok (.iadd, 1) := by decide +kernel
theorem dL_law_722 : decode cL_law 722 = .ok (.iaload, 1) := by decide +kernel
theorem dL_law_723 : decode cL_law 723 = .ok (.invokevirtual 73, 3) := by decide +kernel
theorem dL_law_726 : decode cL_law 726 = .ok (.aload_n 2, 1) := by decide +kernel
theorem dL_law_727 : decode cL_law 727 = .ok (.aload_n 0, 1) := by decide +kernel
theorem dL_law_728 : decode cL_law 728 = .ok (.iload_n 3, 1) := by decide +kernel
theorem dL_law_729 : decode cL_law 729 = .ok (.iconst 1, 1) := by decide +kernel
theorem dL_law_730 : decode cL_law 730 = .ok (.iadd, 1) := by decide +kernel
theorem dL_law_731 : decode cL_law 731 = .ok (.iaload, 1) := by decide +kernel
theorem dL_law_732 : decode cL_law 732 = .ok (.invokevirtual 76, 3) := by decide +kernel
theorem dL_law_735 : decode cL_law 735 = .ok (.if_icmp .eq 761, 3) := by decide +kernel
theorem dL_law_738 : decode cL_law 738 = .ok (.iconst 0, 1) := by decide +kernel
theorem dL_law_739 : decode cL_law 739 = .ok (.ireturn, 1) := by decide +kernel
theorem dL_law_740 : decode cL_law 740 = .ok (.aload_n 1, 1) := by decide +kernel
theorem dL_law_741 : decode cL_law 741 = .ok (.aload_n 0, 1) := by decide +kernel
theorem dL_law_742 : decode cL_law 742 = .ok (.iload_n 3, 1) := by decide +kernel
theorem dL_law_743 : decode cL_law 743 = .ok (.iconst 1, 1) := by decide +kernel
theorem dL_law_744 : decode cL_law 744 = .ok (.iadd, 1) := by decide +kernel
theorem dL_law_745 : decode cL_law 745 = .ok (.iaload, 1) := by decide +kernel
theorem dL_law_746 : decode cL_law 746 = .ok (.aload_n 0, 1) := by decide +kernel
theorem dL_law_747 : decode cL_law 747 = .ok (.iload_n 3, 1) := by decide +kernel
theorem dL_law_748 : decode cL_law 748 = .ok (.iconst 2, 1) := by decide +kernel
theorem dL_law_749 : decode cL_law 749 = .ok (.iadd, 1) := by decide +kernel
theorem dL_law_750 : decode cL_law 750 = .ok (.iaload, 1) := by decide +kernel
theorem dL_law_751 : decode cL_law 751 = .ok (.aload_n 0, 1) := by decide +kernel
theorem dL_law_752 : decode cL_law 752 = .ok (.iload_n 3, 1) := by decide +kernel
theorem dL_law_753 : decode cL_law 753 = .ok (.iconst 3, 1) := by decide +kernel
theorem dL_law_754 : decode cL_law 754 = .ok (.iadd, 1) := by decide +kernel
theorem dL_law_755 : decode cL_law 755 = .ok (.iaload, 1) := by decide +kernel
theorem dL_law_756 : decode cL_law 756 = .ok (.invokevirtual 77, 3) := by decide +kernel
theorem dL_law_759 : decode cL_law 759 = .ok (.aload_n 2, 1) := by decide +kernel
theorem dL_law_760 : decode cL_law 760 = .ok (.aload_n 0, 1) := by decide +kernel
theorem dL_law_761 : decode cL_law 761 = .ok (.iload_n 3, 1) := by decide +kernel
theorem dL_law_762 : decode cL_law 762 = .ok (.iconst 1, 1) := by decide +kernel
theorem dL_law_763 : decode cL_law 763 = .ok (.iadd, 1) := by decide +kernel
theorem dL_law_764 : decode cL_law 764 = .ok (.iaload, 1) := by decide +kernel
theorem dL_law_765 : decode cL_law 765 = .ok (.aload_n 0, 1) := by decide +kernel
theorem dL_law_766 : decode cL_law 766 = .ok (.iload_n 3, 1) := by decide +kernel
theorem dL_law_767 : decode cL_law 767 = .ok (.iconst 2, 1) := by decide +kernel
theorem dL_law_768 : decode cL_law 768 = .ok (.iadd, 1) := by decide +kernel
theorem dL_law_769 : decode cL_law 769 = .ok (.iaload, 1) := by decide +kernel
theorem dL_law_770 : decode cL_law 770 = .ok (.aload_n 0, 1) := by decide +kernel
theorem dL_law_771 : decode cL_law 771 = .ok (.iload_n 3, 1) := by decide +kernel
theorem dL_law_772 : decode cL_law 772 = .ok (.iconst 3, 1) := by decide +kernel
theorem dL_law_773 : decode cL_law 773 = .ok (.iadd, 1) := by decide +kernel
theorem dL_law_774 : decode cL_law 774 = .ok (.iaload, 1) := by decide +kernel
theorem dL_law_775 : decode cL_law 775 = .ok (.invokevirtual 80, 3) := by decide +kernel
theorem dL_law_778 : decode cL_law 778 = .ok (.if_icmp .eq 718, 3) := by decide +kernel
theorem dL_law_781 : decode cL_law 781 = .ok (.iconst 0, 1) := by decide +kernel
theorem dL_law_782 : decode cL_law 782 = .ok (.ireturn, 1) := by decide +kernel
theorem dL_law_783 : decode cL_law 783 = .ok (.aload_n 1, 1) := by decide +kernel
theorem dL_law_784 : decode cL_law 784 = .ok (.aload_n 0, 1) := by decide +kernel
theorem dL_law_785 : decode cL_law 785 = .ok (.iload_n 3, 1) := by decide +kernel
theorem dL_law_786 : decode cL_law 786 = .ok (.iconst 1, 1) := by decide +kernel
theorem dL_law_787 : decode cL_law 787 = .ok (.iadd, 1) := by decide +kernel
theorem dL_law_788 : decode cL_law 788 = .ok (.iaload, 1) := by decide +kernel
theorem dL_law_789 : decode cL_law 789 = .ok (.aload_n 0, 1) := by decide +kernel
theorem dL_law_790 : decode cL_law 790 = .ok (.iload_n 3, 1) := by decide +kernel
theorem dL_law_791 : decode cL_law 791 = .ok (.iconst 2, 1) := by decide +kernel
theorem dL_law_792 : decode cL_law 792 = .ok (.iadd, 1) := by decide +kernel
theorem dL_law_793 : decode cL_law 793 = .ok (.iaload, 1) := by decide +kernel
theorem dL_law_794 : decode cL_law 794 = .ok (.aload_n 0, 1) := by decide +kernel
theorem dL_law_795 : decode cL_law 795 = .ok (.iload_n 3, 1) := by decide +kernel
theorem dL_law_796 : decode cL_law 796 = .ok (.iconst 3, 1) := by decide +kernel
theorem dL_law_797 : decode cL_law 797 = .ok (.iadd, 1) := by decide +kernel
theorem dL_law_798 : decode cL_law 798 = .ok (.iaload, 1) := by decide +kernel
theorem dL_law_799 : decode cL_law 799 = .ok (.aload_n 0, 1) := by decide +kernel
theorem dL_law_800 : decode cL_law 800 = .ok (.iload_n 3, 1) := by decide +kernel
theorem dL_law_801 : decode cL_law 801 = .ok (.iconst 4, 1) := by decide +kernel
theorem dL_law_802 : decode cL_law 802 = .ok (.iadd, 1) := by decide +kernel
theorem dL_law_803 : decode cL_law 803 = .ok (.iaload, 1) := by decide +kernel
theorem dL_law_804 : decode cL_law 804 = .ok (.aload_n 0, 1) := by decide +kernel
theorem dL_law_805 : decode cL_law 805 = .ok (.iload_n 3, 1) := by decide +kernel
theorem dL_law_806 : decode cL_law 806 = .ok (.iconst 5, 1) := by decide +kernel
theorem dL_law_807 : decode cL_law 807 = .ok (.iadd, 1) := by decide +kernel
theorem dL_law_808 : decode cL_law 808 = .ok (.iaload, 1) := by decide +kernel
theorem dL_law_809 : decode cL_law 809 = .ok (.invokevirtual 81, 3) := by decide +kernel
theorem dL_law_812 : decode cL_law 812 = .ok (.aload_n 2, 1) := by decide +kernel
theorem dL_law_813 : decode cL_law 813 = .ok (.aload_n 0, 1) := by decide +kernel
theorem dL_law_814 : decode cL_law 814 = .ok (.iload_n 3, 1) := by decide +kernel
theorem dL_law_815 : decode cL_law 815 = .ok (.iconst 1, 1) := by decide +kernel
theorem dL_law_816 : decode cL_law 816 = .ok (.iadd, 1) := by decide +kernel
theorem dL_law_817 : decode cL_law 817 = .ok (.iaload, 1) := by decide +kernel
theorem dL_law_818 : decode cL_law 818 = .ok (.aload_n 0, 1) := by decide +kernel
theorem dL_law_819 : decode cL_law 819 = .ok (.iload_n 3, 1) := by decide +kernel
theorem dL_law_820 : decode cL_law 820 = .ok (.iconst 2, 1) := by decide +kernel
theorem dL_law_821 : decode cL_law 821 = .ok (.iadd, 1) := by decide +kernel
theorem dL_law_822 : decode cL_law 822 = .ok (.iaload, 1) := by decide +kernel
theorem dL_law_823 : decode cL_law 823 = .ok (.aload_n 0, 1) := by decide +kernel
theorem dL_law_824 : decode cL_law 824 = .ok (.iload_n 3, 1) := by decide +kernel
theorem dL_law_825 : decode cL_law 825 = .ok (.iconst 3, 1) := by decide +kernel
theorem dL_law_826 : decode cL_law 826 = .ok (.iadd, 1) := by decide +kernel
theorem dL_law_827 : decode cL_law 827 = .ok (.iaload, 1) := by decide +kernel
theorem dL_law_828 : decode cL_law 828 = .ok (.aload_n 0, 1) := by decide +kernel
theorem dL_law_829 : decode cL_law 829 = .ok (.iload_n 3, 1) := by decide +kernel
theorem dL_law_830 : decode cL_law 830 = .ok (.iconst 4, 1) := by decide +kernel
theorem dL_law_831 : decode cL_law 831 = .ok (.iadd, 1) := by decide +kernel
theorem dL_law_832 : decode cL_law 832 = .ok (.iaload, 1) := by decide +kernel
theorem dL_law_833 : decode cL_law 833 = .ok (.aload_n 0, 1) := by decide +kernel
theorem dL_law_834 : decode cL_law 834 = .ok (.iload_n 3, 1) := by decide +kernel
theorem dL_law_835 : decode cL_law 835 = .ok (.iconst 5, 1) := by decide +kernel
theorem dL_law_836 : decode cL_law 836 = .ok (.iadd, 1) := by decide +kernel
theorem dL_law_837 : decode cL_law 837 = .ok (.iaload, 1) := by decide +kernel
theorem dL_law_838 : decode cL_law 838 = .ok (.invokevirtual 84, 3) := by decide +kernel
theorem dL_law_841 : decode cL_law 841 = .ok (.if_icmp .eq 655, 3) := by decide +kernel
theorem dL_law_844 : decode cL_law 844 = .ok (.iconst 0, 1) := by decide +kernel
theorem dL_law_845 : decode cL_law 845 = .ok (.ireturn, 1) := by decide +kernel
theorem dL_law_846 : decode cL_law 846 = .ok (.aload_n 1, 1) := by decide +kernel
theorem dL_law_847 : decode cL_law 847 = .ok (.aload_n 0, 1) := by decide +kernel
theorem dL_law_848 : decode cL_law 848 = .ok (.iload_n 3, 1) := by decide +kernel
theorem dL_law_849 : decode cL_law 849 = .ok (.iconst 1, 1) := by decide +kernel
theorem dL_law_850 : decode cL_law 850 = .ok (.iadd, 1) := by decide +kernel
theorem dL_law_851 : decode cL_law 851 = .ok (.iaload, 1) := by decide +kernel
theorem dL_law_852 : decode cL_law 852 = .ok (.aload_n 0, 1) := by decide +kernel
theorem dL_law_853 : decode cL_law 853 = .ok (.iload_n 3, 1) := by decide +kernel
theorem dL_law_854 : decode cL_law 854 = .ok (.iconst 2, 1) := by decide +kernel
theorem dL_law_855 : decode cL_law 855 = .ok (.iadd, 1) := by decide +kernel
theorem dL_law_856 : decode cL_law 856 = .ok (.iaload, 1) := by decide +kernel
theorem dL_law_857 : decode cL_law 857 = .ok (.invokevirtual 85, 3) := by decide +kernel
theorem dL_law_860 : decode cL_law 860 = .ok (.aload_n 2, 1) := by decide +kernel
theorem dL_law_861 : decode cL_law 861 = .ok (.aload_n 0, 1) := by decide +kernel
theorem dL_law_862 : decode cL_law 862 = .ok (.iload_n 3, 1) := by decide +kernel
theorem dL_law_863 : decode cL_law 863 = .ok (.iconst 1, 1) := by decide +kernel
theorem dL_law_864 : decode cL_law 864 = .ok (.iadd, 1) := by decide +kernel
theorem dL_law_865 : decode cL_law 865 = .ok (.iaload, 1) := by decide +kernel
theorem dL_law_866 : decode cL_law 866 = .ok (.aload_n 0, 1) := by decide +kernel
theorem dL_law_867 : decode cL_law 867 = .ok (.iload_n 3, 1) := by decide +kernel
theorem dL_law_868 : decode cL_law 868 = .ok (.iconst 2, 1) := by decide +kernel
theorem dL_law_869 : decode cL_law 869 = .ok (.iadd, 1) := by decide +kernel
theorem dL_law_870 : decode cL_law 870 = .ok (.iaload, 1) := by decide +kernel
theorem dL_law_871 : decode cL_law 871 = .ok (.invokevirtual 88, 3) := by decide +kernel
theorem dL_law_874 : decode cL_law 874 = .ok (.if_icmp .eq 622, 3) := by decide +kernel
theorem dL_law_877 : decode cL_law 877 = .ok (.iconst 0, 1) := by decide +kernel
theorem dL_law_878 : decode cL_law 878 = .ok (.ireturn, 1) := by decide +kernel
theorem dL_law_879 : decode cL_law 879 = .ok (.aload_n 1, 1) := by decide +kernel
theorem dL_law_880 : decode cL_law 880 = .ok (.aload_n 0, 1) := by decide +kernel
theorem dL_law_881 : decode cL_law 881 = .ok (.iload_n 3, 1) := by decide +kernel
theorem dL_law_882 : decode cL_law 882 = .ok (.iconst 1, 1) := by decide +kernel
theorem dL_law_883 : decode cL_law 883 = .ok (.iadd, 1) := by decide +kernel
theorem dL_law_884 : decode cL_law 884 = .ok (.iaload, 1) := by decide +kernel
theorem dL_law_885 : decode cL_law 885 = .ok (.aload_n 0, 1) := by decide +kernel
theorem dL_law_886 : decode cL_law 886 = .ok (.iload_n 3, 1) := by decide +kernel
theorem dL_law_887 : decode cL_law 887 = .ok (.iconst 2, 1) := by decide +kernel
theorem dL_law_888 : decode cL_law 888 = .ok (.iadd, 1) := by decide +kernel
theorem dL_law_889 : decode cL_law 889 = .ok (.iaload, 1) := by decide +kernel
theorem dL_law_890 : decode cL_law 890 = .ok (.invokevirtual 89, 3) := by decide +kernel
theorem dL_law_893 : decode cL_law 893 = .ok (.aload_n 2, 1) := by decide +kernel
theorem dL_law_894 : decode cL_law 894 = .ok (.aload_n 0, 1) := by decide +kernel
theorem dL_law_895 : decode cL_law 895 = .ok (.iload_n 3, 1) := by decide +kernel
theorem dL_law_896 : decode cL_law 896 = .ok (.iconst 1, 1) := by decide +kernel
theorem dL_law_897 : decode cL_law 897 = .ok (.iadd, 1) := by decide +kernel
theorem dL_law_898 : decode cL_law 898 = .ok (.iaload, 1) := by decide +kernel
theorem dL_law_899 : decode cL_law 899 = .ok (.aload_n 0, 1) := by decide +kernel
theorem dL_law_900 : decode cL_law 900 = .ok (.iload_n 3, 1) := by decide +kernel
theorem dL_law_901 : decode cL_law 901 = .ok (.iconst 2, 1) := by decide +kernel
theorem dL_law_902 : decode cL_law 902 = .ok (.iadd, 1) := by decide +kernel
theorem dL_law_903 : decode cL_law 903 = .ok (.iaload, 1) := by decide +kernel
theorem dL_law_904 : decode cL_law 904 = .ok (.invokevirtual 92, 3) := by decide +kernel
theorem dL_law_907 : decode cL_law 907 = .ok (.if_icmp .eq 589, 3) := by decide +kernel
theorem dL_law_910 : decode cL_law 910 = .ok (.iconst 0, 1) := by decide +kernel
theorem dL_law_911 : decode cL_law 911 = .ok (.ireturn, 1) := by decide +kernel
theorem dL_law_912 : decode cL_law 912 = .ok (.aload_n 1, 1) := by decide +kernel
theorem dL_law_913 : decode cL_law 913 = .ok (.aload_n 0, 1) := by decide +kernel
theorem dL_law_914 : decode cL_law 914 = .ok (.iload_n 3, 1) := by decide +kernel
theorem dL_law_915 : decode cL_law 915 = .ok (.iconst 1, 1) := by decide +kernel
theorem dL_law_916 : decode cL_law 916 = .ok (.iadd, 1) := by decide +kernel
theorem dL_law_917 : decode cL_law 917 = .ok (.iaload, 1) := by decide +kernel
theorem dL_law_918 : decode cL_law 918 = .ok (.invokevirtual 93, 3) := by decide +kernel
theorem dL_law_921 : decode cL_law 921 = .ok (.aload_n 2, 1) := by decide +kernel
theorem dL_law_922 : decode cL_law 922 = .ok (.aload_n 0, 1) := by decide +kernel
theorem dL_law_923 : decode cL_law 923 = .ok (.iload_n 3, 1) := by decide +kernel
theorem dL_law_924 : decode cL_law 924 = .ok (.iconst 1, 1) := by decide +kernel
theorem dL_law_925 : decode cL_law 925 = .ok (.iadd, 1) := by decide +kernel
theorem dL_law_926 : decode cL_law 926 = .ok (.iaload, 1) := by decide +kernel
theorem dL_law_927 : decode cL_law 927 = .ok (.invokevirtual 96, 3) := by decide +kernel
theorem dL_law_930 : decode cL_law 930 = .ok (.if_icmp .eq 566, 3) := by decide +kernel
theorem dL_law_933 : decode cL_law 933 = .ok (.iconst 0, 1) := by decide +kernel
theorem dL_law_934 : decode cL_law 934 = .ok (.ireturn, 1) := by decide +kernel
theorem dL_law_935 : decode cL_law 935 = .ok (.aload_n 1, 1) := by decide +kernel
theorem dL_law_936 : decode cL_law 936 = .ok (.aload_n 0, 1) := by decide +kernel
theorem dL_law_937 : decode cL_law 937 = .ok (.iload_n 3, 1) := by decide +kernel
theorem dL_law_938 : decode cL_law 938 = .ok (.iconst 1, 1) := by decide +kernel
theorem dL_law_939 : decode cL_law 939 = .ok (.iadd, 1) := by decide +kernel
theorem dL_law_940 : decode cL_law 940 = .ok (.iaload, 1) := by decide +kernel
theorem dL_law_941 : decode cL_law 941 = .ok (.aload_n 0, 1) := by decide +kernel
theorem dL_law_942 : decode cL_law 942 = .ok (.iload_n 3, 1) := by decide +kernel
theorem dL_law_943 : decode cL_law 943 = .ok (.iconst 2, 1) := by decide +kernel
theorem dL_law_944 : decode cL_law 944 = .ok (.iadd, 1) := by decide +kernel
theorem dL_law_945 : decode cL_law 945 = .ok (.iaload, 1) := by decide +kernel
theorem dL_law_946 : decode cL_law 946 = .ok (.invokevirtual 97, 3) := by decide +kernel
theorem dL_law_949 : decode cL_law 949 = .ok (.aload_n 2, 1) := by decide +kernel
theorem dL_law_950 : decode cL_law 950 = .ok (.aload_n 0, 1) := by decide +kernel
theorem dL_law_951 : decode cL_law 951 = .ok (.iload_n 3, 1) := by decide +kernel
theorem dL_law_952 : decode cL_law 952 = .ok (.iconst 1, 1) := by decide +kernel
theorem dL_law_953 : decode cL_law 953 = .ok (.iadd, 1) := by decide +kernel
theorem dL_law_954 : decode cL_law 954 = .ok (.iaload, 1) := by decide +kernel
theorem dL_law_955 : decode cL_law 955 = .ok (.aload_n 0, 1) := by decide +kernel
theorem dL_law_956 : decode cL_law 956 = .ok (.iload_n 3, 1) := by decide +kernel
theorem dL_law_957 : decode cL_law 957 = .ok (.iconst 2, 1) := by decide +kernel
theorem dL_law_958 : decode cL_law 958 = .ok (.iadd, 1) := by decide +kernel
theorem dL_law_959 : decode cL_law 959 = .ok (.iaload, 1) := by decide +kernel
theorem dL_law_960 : decode cL_law 960 = .ok (.invokevirtual 101, 3) := by decide +kernel
theorem dL_law_963 : decode cL_law 963 = .ok (.lcmp, 1) := by decide +kernel
theorem dL_law_964 : decode cL_law 964 = .ok (.ifCond .eq 532, 3) := by decide +kernel
theorem dL_law_967 : decode cL_law 967 = .ok (.iconst 0, 1) := by decide +kernel
theorem dL_law_968 : decode cL_law 968 = .ok (.ireturn, 1) := by decide +kernel
theorem dL_law_969 : decode cL_law 969 = .ok (.aload_n 1, 1) := by decide +kernel
theorem dL_law_970 : decode cL_law 970 = .ok (.aload_n 0, 1) := by decide +kernel
theorem dL_law_971 : decode cL_law 971 = .ok (.iload_n 3, 1) := by decide +kernel
theorem dL_law_972 : decode cL_law 972 = .ok (.iconst 1, 1) := by decide +kernel
theorem dL_law_973 : decode cL_law 973 = .ok (.iadd, 1) := by decide +kernel
theorem dL_law_974 : decode cL_law 974 = .ok (.iaload, 1) := by decide +kernel
theorem dL_law_975 : decode cL_law 975 = .ok (.aload_n 0, 1) := by decide +kernel
theorem dL_law_976 : decode cL_law 976 = .ok (.iload_n 3, 1) := by decide +kernel
theorem dL_law_977 : decode cL_law 977 = .ok (.iconst 2, 1) := by decide +kernel
theorem dL_law_978 : decode cL_law 978 = .ok (.iadd, 1) := by decide +kernel
theorem dL_law_979 : decode cL_law 979 = .ok (.iaload, 1) := by decide +kernel
theorem dL_law_980 : decode cL_law 980 = .ok (.invokevirtual 102, 3) := by decide +kernel
theorem dL_law_983 : decode cL_law 983 = .ok (.aload_n 2, 1) := by decide +kernel
theorem dL_law_984 : decode cL_law 984 = .ok (.aload_n 0, 1) := by decide +kernel
theorem dL_law_985 : decode cL_law 985 = .ok (.iload_n 3, 1) := by decide +kernel
theorem dL_law_986 : decode cL_law 986 = .ok (.iconst 1, 1) := by decide +kernel
theorem dL_law_987 : decode cL_law 987 = .ok (.iadd, 1) := by decide +kernel
theorem dL_law_988 : decode cL_law 988 = .ok (.iaload, 1) := by decide +kernel
theorem dL_law_989 : decode cL_law 989 = .ok (.aload_n 0, 1) := by decide +kernel
theorem dL_law_990 : decode cL_law 990 = .ok (.iload_n 3, 1) := by decide +kernel
theorem dL_law_991 : decode cL_law 991 = .ok (.iconst 2, 1) := by decide +kernel
theorem dL_law_992 : decode cL_law 992 = .ok (.iadd, 1) := by decide +kernel
theorem dL_law_993 : decode cL_law 993 = .ok (.iaload, 1) := by decide +kernel
theorem dL_law_994 : decode cL_law 994 = .ok (.invokevirtual 105, 3) := by decide +kernel
theorem dL_law_997 : decode cL_law 997 = .ok (.if_icmp .eq 499, 3) := by decide +kernel
theorem dL_law_1000 : decode cL_law 1000 = .ok (.iconst 0, 1) := by decide +kernel
theorem dL_law_1001 : decode cL_law 1001 = .ok (.ireturn, 1) := by decide +kernel
theorem dL_law_1002 : decode cL_law 1002 = .ok (.aload_n 1, 1) := by decide +kernel
theorem dL_law_1003 : decode cL_law 1003 = .ok (.aload_n 0, 1) := by decide +kernel
theorem dL_law_1004 : decode cL_law 1004 = .ok (.iload_n 3, 1) := by decide +kernel
theorem dL_law_1005 : decode cL_law 1005 = .ok (.iconst 1, 1) := by decide +kernel
theorem dL_law_1006 : decode cL_law 1006 = .ok (.iadd, 1) := by decide +kernel
theorem dL_law_1007 : decode cL_law 1007 = .ok (.iaload, 1) := by decide +kernel
theorem dL_law_1008 : decode cL_law 1008 = .ok (.invokevirtual 106, 3) := by decide +kernel
theorem dL_law_1011 : decode cL_law 1011 = .ok (.aload_n 2, 1) := by decide +kernel
theorem dL_law_1012 : decode cL_law 1012 = .ok (.aload_n 0, 1) := by decide +kernel
theorem dL_law_1013 : decode cL_law 1013 = .ok (.iload_n 3, 1) := by decide +kernel
theorem dL_law_1014 : decode cL_law 1014 = .ok (.iconst 1, 1) := by decide +kernel
theorem dL_law_1015 : decode cL_law 1015 = .ok (.iadd, 1) := by decide +kernel
theorem dL_law_1016 : decode cL_law 1016 = .ok (.iaload, 1) := by decide +kernel
theorem dL_law_1017 : decode cL_law 1017 = .ok (.invokevirtual 109, 3) := by decide +kernel
theorem dL_law_1020 : decode cL_law 1020 = .ok (.if_icmp .eq 476, 3) := by decide +kernel
theorem dL_law_1023 : decode cL_law 1023 = .ok (.iconst 0, 1) := by decide +kernel
theorem dL_law_1024 : decode cL_law 1024 = .ok (.ireturn, 1) := by decide +kernel
theorem dL_law_1025 : decode cL_law 1025 = .ok (.aload_n 1, 1) := by decide +kernel
theorem dL_law_1026 : decode cL_law 1026 = .ok (.aload_n 0, 1) := by decide +kernel
theorem dL_law_1027 : decode cL_law 1027 = .ok (.iload_n 3, 1) := by decide +kernel
theorem dL_law_1028 : decode cL_law 1028 = .ok (.iconst 1, 1) := by decide +kernel
theorem dL_law_1029 : decode cL_law 1029 = .ok (.iadd, 1) := by decide +kernel
theorem dL_law_1030 : decode cL_law 1030 = .ok (.iaload, 1) := by decide +kernel
theorem dL_law_1031 : decode cL_law 1031 = .ok (.aload_n 0, 1) := by decide +kernel
theorem dL_law_1032 : decode cL_law 1032 = .ok (.iload_n 3, 1) := by decide +kernel
theorem dL_law_1033 : decode cL_law 1033 = .ok (.iconst 2, 1) := by decide +kernel
theorem dL_law_1034 : decode cL_law 1034 = .ok (.iadd, 1) := by decide +kernel
theorem dL_law_1035 : decode cL_law 1035 = .ok (.iaload, 1) := by decide +kernel
theorem dL_law_1036 : decode cL_law 1036 = .ok (.aload_n 0, 1) := by decide +kernel
theorem dL_law_1037 : decode cL_law 1037 = .ok (.iload_n 3, 1) := by decide +kernel
theorem dL_law_1038 : decode cL_law 1038 = .ok (.iconst 3, 1) := by decide +kernel
theorem dL_law_1039 : decode cL_law 1039 = .ok (.iadd, 1) := by decide +kernel
theorem dL_law_1040 : decode cL_law 1040 = .ok (.iaload, 1) := by decide +kernel
theorem dL_law_1041 : decode cL_law 1041 = .ok (.invokevirtual 110, 3) := by decide +kernel
theorem dL_law_1044 : decode cL_law 1044 = .ok (.aload_n 2, 1) := by decide +kernel
theorem dL_law_1045 : decode cL_law 1045 = .ok (.aload_n 0, 1) := by decide +kernel
theorem dL_law_1046 : decode cL_law 1046 = .ok (.iload_n 3, 1) := by decide +kernel
theorem dL_law_1047 : decode cL_law 1047 = .ok (.iconst 1, 1) := by decide +kernel
theorem dL_law_1048 : decode cL_law 1048 = .ok (.iadd, 1) := by decide +kernel
theorem dL_law_1049 : decode cL_law 1049 = .ok (.iaload, 1) := by decide +kernel
theorem dL_law_1050 : decode cL_law 1050 = .ok (.aload_n 0, 1) := by decide +kernel
theorem dL_law_1051 : decode cL_law 1051 = .ok (.iload_n 3, 1) := by decide +kernel
theorem dL_law_1052 : decode cL_law 1052 = .ok (.iconst 2, 1) := by decide +kernel
theorem dL_law_1053 : decode cL_law 1053 = .ok (.iadd, 1) := by decide +kernel
theorem dL_law_1054 : decode cL_law 1054 = .ok (.iaload, 1) := by decide +kernel
theorem dL_law_1055 : decode cL_law 1055 = .ok (.aload_n 0, 1) := by decide +kernel
theorem dL_law_1056 : decode cL_law 1056 = .ok (.iload_n 3, 1) := by decide +kernel
theorem dL_law_1057 : decode cL_law 1057 = .ok (.iconst 3, 1) := by decide +kernel
theorem dL_law_1058 : decode cL_law 1058 = .ok (.iadd, 1) := by decide +kernel
theorem dL_law_1059 : decode cL_law 1059 = .ok (.iaload, 1) := by decide +kernel
theorem dL_law_1060 : decode cL_law 1060 = .ok (.invokevirtual 113, 3) := by decide +kernel
theorem dL_law_1063 : decode cL_law 1063 = .ok (.if_icmp .eq 433, 3) := by decide +kernel
theorem dL_law_1066 : decode cL_law 1066 = .ok (.iconst 0, 1) := by decide +kernel
theorem dL_law_1067 : decode cL_law 1067 = .ok (.ireturn, 1) := by decide +kernel
theorem dL_law_1068 : decode cL_law 1068 = .ok (.aload_n 1, 1) := by decide +kernel
theorem dL_law_1069 : decode cL_law 1069 = .ok (.aload_n 0, 1) := by decide +kernel
theorem dL_law_1070 : decode cL_law 1070 = .ok (.iload_n 3, 1) := by decide +kernel
theorem dL_law_1071 : decode cL_law 1071 = .ok (.iconst 1, 1) := by decide +kernel
theorem dL_law_1072 : decode cL_law 1072 = .ok (.iadd, 1) := by decide +kernel
theorem dL_law_1073 : decode cL_law 1073 = .ok (.iaload, 1) := by decide +kernel
theorem dL_law_1074 : decode cL_law 1074 = .ok (.aload_n 0, 1) := by decide +kernel
theorem dL_law_1075 : decode cL_law 1075 = .ok (.iload_n 3, 1) := by decide +kernel
theorem dL_law_1076 : decode cL_law 1076 = .ok (.iconst 2, 1) := by decide +kernel
theorem dL_law_1077 : decode cL_law 1077 = .ok (.iadd, 1) := by decide +kernel
theorem dL_law_1078 : decode cL_law 1078 = .ok (.iaload, 1) := by decide +kernel
theorem dL_law_1079 : decode cL_law 1079 = .ok (.invokevirtual 114, 3) := by decide +kernel
theorem dL_law_1082 : decode cL_law 1082 = .ok (.aload_n 2, 1) := by decide +kernel
theorem dL_law_1083 : decode cL_law 1083 = .ok (.aload_n 0, 1) := by decide +kernel
theorem dL_law_1084 : decode cL_law 1084 = .ok (.iload_n 3, 1) := by decide +kernel
theorem dL_law_1085 : decode cL_law 1085 = .ok (.iconst 1, 1) := by decide +kernel
theorem dL_law_1086 : decode cL_law 1086 = .ok (.iadd, 1) := by decide +kernel
theorem dL_law_1087 : decode cL_law 1087 = .ok (.iaload, 1) := by decide +kernel
theorem dL_law_1088 : decode cL_law 1088 = .ok (.aload_n 0, 1) := by decide +kernel
theorem dL_law_1089 : decode cL_law 1089 = .ok (.iload_n 3, 1) := by decide +kernel
theorem dL_law_1090 : decode cL_law 1090 = .ok (.iconst 2, 1) := by decide +kernel
theorem dL_law_1091 : decode cL_law 1091 = .ok (.iadd, 1) := by decide +kernel
theorem dL_law_1092 : decode cL_law 1092 = .ok (.iaload, 1) := by decide +kernel
theorem dL_law_1093 : decode cL_law 1093 = .ok (.invokevirtual 117, 3) := by decide +kernel
theorem dL_law_1096 : decode cL_law 1096 = .ok (.if_icmp .eq 400, 3) := by decide +kernel
theorem dL_law_1099 : decode cL_law 1099 = .ok (.iconst 0, 1) := by decide +kernel
theorem dL_law_1100 : decode cL_law 1100 = .ok (.ireturn, 1) := by decide +kernel
theorem dL_law_1101 : decode cL_law 1101 = .ok (.aload_n 1, 1) := by decide +kernel
theorem dL_law_1102 : decode cL_law 1102 = .ok (.aload_n 0, 1) := by decide +kernel
theorem dL_law_1103 : decode cL_law 1103 = .ok (.iload_n 3, 1) := by decide +kernel
theorem dL_law_1104 : decode cL_law 1104 = .ok (.iconst 1, 1) := by decide +kernel
theorem dL_law_1105 : decode cL_law 1105 = .ok (.iadd, 1) := by decide +kernel
theorem dL_law_1106 : decode cL_law 1106 = .ok (.iaload, 1) := by decide +kernel
theorem dL_law_1107 : decode cL_law 1107 = .ok (.aload_n 0, 1) := by decide +kernel
theorem dL_law_1108 : decode cL_law 1108 = .ok (.iload_n 3, 1) := by decide +kernel
theorem dL_law_1109 : decode cL_law 1109 = .ok (.iconst 2, 1) := by decide +kernel
theorem dL_law_1110 : decode cL_law 1110 = .ok (.iadd, 1) := by decide +kernel
theorem dL_law_1111 : decode cL_law 1111 = .ok (.iaload, 1) := by decide +kernel
theorem dL_law_1112 : decode cL_law 1112 = .ok (.invokevirtual 118, 3) := by decide +kernel
theorem dL_law_1115 : decode cL_law 1115 = .ok (.aload_n 2, 1) := by decide +kernel
theorem dL_law_1116 : decode cL_law 1116 = .ok (.aload_n 0, 1) := by decide +kernel
theorem dL_law_1117 : decode cL_law 1117 = .ok (.iload_n 3, 1) := by decide +kernel
theorem dL_law_1118 : decode cL_law 1118 = .ok (.iconst 1, 1) := by decide +kernel
theorem dL_law_1119 : decode cL_law 1119 = .ok (.iadd, 1) := by decide +kernel
theorem dL_law_1120 : decode cL_law 1120 = .ok (.iaload, 1) := by decide +kernel
theorem dL_law_1121 : decode cL_law 1121 = .ok (.aload_n 0, 1) := by decide +kernel
theorem dL_law_1122 : decode cL_law 1122 = .ok (.iload_n 3, 1) := by decide +kernel
theorem dL_law_1123 : decode cL_law 1123 = .ok (.iconst 2, 1) := by decide +kernel
theorem dL_law_1124 : decode cL_law 1124 = .ok (.iadd, 1) := by decide +kernel
theorem dL_law_1125 : decode cL_law 1125 = .ok (.iaload, 1) := by decide +kernel
theorem dL_law_1126 : decode cL_law 1126 = .ok (.invokevirtual 121, 3) := by decide +kernel
theorem dL_law_1129 : decode cL_law 1129 = .ok (.if_icmp .eq 367, 3) := by decide +kernel
theorem dL_law_1132 : decode cL_law 1132 = .ok (.iconst 0, 1) := by decide +kernel
theorem dL_law_1133 : decode cL_law 1133 = .ok (.ireturn, 1) := by decide +kernel
theorem dL_law_1134 : decode cL_law 1134 = .ok (.aload_n 1, 1) := by decide +kernel
theorem dL_law_1135 : decode cL_law 1135 = .ok (.aload_n 0, 1) := by decide +kernel
theorem dL_law_1136 : decode cL_law 1136 = .ok (.iload_n 3, 1) := by decide +kernel
theorem dL_law_1137 : decode cL_law 1137 = .ok (.iconst 1, 1) := by decide +kernel
theorem dL_law_1138 : decode cL_law 1138 = .ok (.iadd, 1) := by decide +kernel
theorem dL_law_1139 : decode cL_law 1139 = .ok (.iaload, 1) := by decide +kernel
theorem dL_law_1140 : decode cL_law 1140 = .ok (.aload_n 0, 1) := by decide +kernel
theorem dL_law_1141 : decode cL_law 1141 = .ok (.iload_n 3, 1) := by decide +kernel
theorem dL_law_1142 : decode cL_law 1142 = .ok (.iconst 2, 1) := by decide +kernel
theorem dL_law_1143 : decode cL_law 1143 = .ok (.iadd, 1) := by decide +kernel
theorem dL_law_1144 : decode cL_law 1144 = .ok (.iaload, 1) := by decide +kernel
theorem dL_law_1145 : decode cL_law 1145 = .ok (.aload_n 0, 1) := by decide +kernel
theorem dL_law_1146 : decode cL_law 1146 = .ok (.iload_n 3, 1) := by decide +kernel
theorem dL_law_1147 : decode cL_law 1147 = .ok (.iconst 3, 1) := by decide +kernel
theorem dL_law_1148 : decode cL_law 1148 = .ok (.iadd, 1) := by decide +kernel
theorem dL_law_1149 : decode cL_law 1149 = .ok (.iaload, 1) := by decide +kernel
theorem dL_law_1150 : decode cL_law 1150 = .ok (.invokevirtual 122, 3) := by decide +kernel
theorem dL_law_1153 : decode cL_law 1153 = .ok (.aload_n 2, 1) := by decide +kernel
theorem dL_law_1154 : decode cL_law 1154 = .ok (.aload_n 0, 1) := by decide +kernel
theorem dL_law_1155 : decode cL_law 1155 = .ok (.iload_n 3, 1) := by decide +kernel
theorem dL_law_1156 : decode cL_law 1156 = .ok (.iconst 1, 1) := by decide +kernel
theorem dL_law_1157 : decode cL_law 1157 = .ok (.iadd, 1) := by decide +kernel
theorem dL_law_1158 : decode cL_law 1158 = .ok (.iaload, 1) := by decide +kernel
theorem dL_law_1159 : decode cL_law 1159 = .ok (.aload_n 0, 1) := by decide +kernel
theorem dL_law_1160 : decode cL_law 1160 = .ok (.iload_n 3, 1) := by decide +kernel
theorem dL_law_1161 : decode cL_law 1161 = .ok (.iconst 2, 1) := by decide +kernel
theorem dL_law_1162 : decode cL_law 1162 = .ok (.iadd, 1) := by decide +kernel
theorem dL_law_1163 : decode cL_law 1163 = .ok (.iaload, 1) := by decide +kernel
theorem dL_law_1164 : decode cL_law 1164 = .ok (.aload_n 0, 1) := by decide +kernel
theorem dL_law_1165 : decode cL_law 1165 = .ok (.iload_n 3, 1) := by decide +kernel
theorem dL_law_1166 : decode cL_law 1166 = .ok (.iconst 3, 1) := by decide +kernel
theorem dL_law_1167 : decode cL_law 1167 = .ok (.iadd, 1) := by decide +kernel
theorem dL_law_1168 : decode cL_law 1168 = .ok (.iaload, 1) := by decide +kernel
theorem dL_law_1169 : decode cL_law 1169 = .ok (.invokevirtual 125, 3) := by decide +kernel
theorem dL_law_1172 : decode cL_law 1172 = .ok (.if_icmp .eq 324, 3) := by decide +kernel
theorem dL_law_1175 : decode cL_law 1175 = .ok (.iconst 0, 1) := by decide +kernel
theorem dL_law_1176 : decode cL_law 1176 = .ok (.ireturn, 1) := by decide +kernel
theorem dL_law_1177 : decode cL_law 1177 = .ok (.aload_n 1, 1) := by decide +kernel
theorem dL_law_1178 : decode cL_law 1178 = .ok (.aload_n 0, 1) := by decide +kernel
theorem dL_law_1179 : decode cL_law 1179 = .ok (.iload_n 3, 1) := by decide +kernel
theorem dL_law_1180 : decode cL_law 1180 = .ok (.iconst 1, 1) := by decide +kernel
theorem dL_law_1181 : decode cL_law 1181 = .ok (.iadd, 1) := by decide +kernel
theorem dL_law_1182 : decode cL_law 1182 = .ok (.iaload, 1) := by decide +kernel
theorem dL_law_1183 : decode cL_law 1183 = .ok (.aload_n 0, 1) := by decide +kernel
theorem dL_law_1184 : decode cL_law 1184 = .ok (.iload_n 3, 1) := by decide +kernel
theorem dL_law_1185 : decode cL_law 1185 = .ok (.iconst 2, 1) := by decide +kernel
theorem dL_law_1186 : decode cL_law 1186 = .ok (.iadd, 1) := by decide +kernel
theorem dL_law_1187 : decode cL_law 1187 = .ok (.iaload, 1) := by decide +kernel
theorem dL_law_1188 : decode cL_law 1188 = .ok (.aload_n 0, 1) := by decide +kernel
theorem dL_law_1189 : decode cL_law 1189 = .ok (.iload_n 3, 1) := by decide +kernel
theorem dL_law_1190 : decode cL_law 1190 = .ok (.iconst 3, 1) := by decide +kernel
theorem dL_law_1191 : decode cL_law 1191 = .ok (.iadd, 1) := by decide +kernel
theorem dL_law_1192 : decode cL_law 1192 = .ok (.iaload, 1) := by decide +kernel
theorem dL_law_1193 : decode cL_law 1193 = .ok (.invokevirtual 126, 3) := by decide +kernel
theorem dL_law_1196 : decode cL_law 1196 = .ok (.aload_n 2, 1) := by decide +kernel
theorem dL_law_1197 : decode cL_law 1197 = .ok (.aload_n 0, 1) := by decide +kernel
theorem dL_law_1198 : decode cL_law 1198 = .ok (.iload_n 3, 1) := by decide +kernel
theorem dL_law_1199 : decode cL_law 1199 = .ok (.iconst 1, 1) := by decide +kernel
theorem dL_law_1200 : decode cL_law 1200 = .ok (.iadd, 1) := by decide +kernel
theorem dL_law_1201 : decode cL_law 1201 = .ok (.iaload, 1) := by decide +kernel
theorem dL_law_1202 : decode cL_law 1202 = .ok (.aload_n 0, 1) := by decide +kernel
theorem dL_law_1203 : decode cL_law 1203 = .ok (.iload_n 3, 1) := by decide +kernel
theorem dL_law_1204 : decode cL_law 1204 = .ok (.iconst 2, 1) := by decide +kernel
theorem dL_law_1205 : decode cL_law 1205 = .ok (.iadd, 1) := by decide +kernel
theorem dL_law_1206 : decode cL_law 1206 = .ok (.iaload, 1) := by decide +kernel
theorem dL_law_1207 : decode cL_law 1207 = .ok (.aload_n 0, 1) := by decide +kernel
theorem dL_law_1208 : decode cL_law 1208 = .ok (.iload_n 3, 1) := by decide +kernel
theorem dL_law_1209 : decode cL_law 1209 = .ok (.iconst 3, 1) := by decide +kernel
theorem dL_law_1210 : decode cL_law 1210 = .ok (.iadd, 1) := by decide +kernel
theorem dL_law_1211 : decode cL_law 1211 = .ok (.iaload, 1) := by decide +kernel
theorem dL_law_1212 : decode cL_law 1212 = .ok (.invokevirtual 129, 3) := by decide +kernel
theorem dL_law_1215 : decode cL_law 1215 = .ok (.if_icmp .eq 281, 3) := by decide +kernel
theorem dL_law_1218 : decode cL_law 1218 = .ok (.iconst 0, 1) := by decide +kernel
theorem dL_law_1219 : decode cL_law 1219 = .ok (.ireturn, 1) := by decide +kernel
theorem dL_law_1220 : decode cL_law 1220 = .ok (.aload_n 1, 1) := by decide +kernel
theorem dL_law_1221 : decode cL_law 1221 = .ok (.aload_n 0, 1) := by decide +kernel
theorem dL_law_1222 : decode cL_law 1222 = .ok (.iload_n 3, 1) := by decide +kernel
theorem dL_law_1223 : decode cL_law 1223 = .ok (.iconst 1, 1) := by decide +kernel
theorem dL_law_1224 : decode cL_law 1224 = .ok (.iadd, 1) := by decide +kernel
theorem dL_law_1225 : decode cL_law 1225 = .ok (.iaload, 1) := by decide +kernel
theorem dL_law_1226 : decode cL_law 1226 = .ok (.aload_n 0, 1) := by decide +kernel
theorem dL_law_1227 : decode cL_law 1227 = .ok (.iload_n 3, 1) := by decide +kernel
theorem dL_law_1228 : decode cL_law 1228 = .ok (.iconst 2, 1) := by decide +kernel
theorem dL_law_1229 : decode cL_law 1229 = .ok (.iadd, 1) := by decide +kernel
theorem dL_law_1230 : decode cL_law 1230 = .ok (.iaload, 1) := by decide +kernel
theorem dL_law_1231 : decode cL_law 1231 = .ok (.invokevirtual 130, 3) := by decide +kernel
theorem dL_law_1234 : decode cL_law 1234 = .ok (.aload_n 2, 1) := by decide +kernel
theorem dL_law_1235 : decode cL_law 1235 = .ok (.aload_n 0, 1) := by decide +kernel
theorem dL_law_1236 : decode cL_law 1236 = .ok (.iload_n 3, 1) := by decide +kernel
theorem dL_law_1237 : decode cL_law 1237 = .ok (.iconst 1, 1) := by decide +kernel
theorem dL_law_1238 : decode cL_law 1238 = .ok (.iadd, 1) := by decide +kernel
theorem dL_law_1239 : decode cL_law 1239 = .ok (.iaload, 1) := by decide +kernel
theorem dL_law_1240 : decode cL_law 1240 = .ok (.aload_n 0, 1) := by decide +kernel
theorem dL_law_1241 : decode cL_law 1241 = .ok (.iload_n 3, 1) := by decide +kernel
theorem dL_law_1242 : decode cL_law 1242 = .ok (.iconst 2, 1) := by decide +kernel
theorem dL_law_1243 : decode cL_law 1243 = .ok (.iadd, 1) := by decide +kernel
theorem dL_law_1244 : decode cL_law 1244 = .ok (.iaload, 1) := by decide +kernel
theorem dL_law_1245 : decode cL_law 1245 = .ok (.invokevirtual 133, 3) := by decide +kernel
theorem dL_law_1248 : decode cL_law 1248 = .ok (.if_icmp .eq 248, 3) := by decide +kernel
theorem dL_law_1251 : decode cL_law 1251 = .ok (.iconst 0, 1) := by decide +kernel
theorem dL_law_1252 : decode cL_law 1252 = .ok (.ireturn, 1) := by decide +kernel
theorem dL_law_1253 : decode cL_law 1253 = .ok (.aload_n 1, 1) := by decide +kernel
theorem dL_law_1254 : decode cL_law 1254 = .ok (.aload_n 0, 1) := by decide +kernel
theorem dL_law_1255 : decode cL_law 1255 = .ok (.iload_n 3, 1) := by decide +kernel
theorem dL_law_1256 : decode cL_law 1256 = .ok (.iconst 1, 1) := by decide +kernel
theorem dL_law_1257 : decode cL_law 1257 = .ok (.iadd, 1) := by decide +kernel
theorem dL_law_1258 : decode cL_law 1258 = .ok (.iaload, 1) := by decide +kernel
theorem dL_law_1259 : decode cL_law 1259 = .ok (.aload_n 0, 1) := by decide +kernel
theorem dL_law_1260 : decode cL_law 1260 = .ok (.iload_n 3, 1) := by decide +kernel
theorem dL_law_1261 : decode cL_law 1261 = .ok (.iconst 2, 1) := by decide +kernel
theorem dL_law_1262 : decode cL_law 1262 = .ok (.iadd, 1) := by decide +kernel
theorem dL_law_1263 : decode cL_law 1263 = .ok (.iaload, 1) := by decide +kernel
theorem dL_law_1264 : decode cL_law 1264 = .ok (.aload_n 0, 1) := by decide +kernel
theorem dL_law_1265 : decode cL_law 1265 = .ok (.iload_n 3, 1) := by decide +kernel
theorem dL_law_1266 : decode cL_law 1266 = .ok (.iconst 3, 1) := by decide +kernel
theorem dL_law_1267 : decode cL_law 1267 = .ok (.iadd, 1) := by decide +kernel
theorem dL_law_1268 : decode cL_law 1268 = .ok (.iaload, 1) := by decide +kernel
theorem dL_law_1269 : decode cL_law 1269 = .ok (.invokevirtual 134, 3) := by decide +kernel
theorem dL_law_1272 : decode cL_law 1272 = .ok (.aload_n 2, 1) := by decide +kernel
theorem dL_law_1273 : decode cL_law 1273 = .ok (.aload_n 0, 1) := by decide +kernel
theorem dL_law_1274 : decode cL_law 1274 = .ok (.iload_n 3, 1) := by decide +kernel
theorem dL_law_1275 : decode cL_law 1275 = .ok (.iconst 1, 1) := by decide +kernel
theorem dL_law_1276 : decode cL_law 1276 = .ok (.iadd, 1) := by decide +kernel
theorem dL_law_1277 : decode cL_law 1277 = .ok (.iaload, 1) := by decide +kernel
theorem dL_law_1278 : decode cL_law 1278 = .ok (.aload_n 0, 1) := by decide +kernel
theorem dL_law_1279 : decode cL_law 1279 = .ok (.iload_n 3, 1) := by decide +kernel
theorem dL_law_1280 : decode cL_law 1280 = .ok (.iconst 2, 1) := by decide +kernel
theorem dL_law_1281 : decode cL_law 1281 = .ok (.iadd, 1) := by decide +kernel
theorem dL_law_1282 : decode cL_law 1282 = .ok (.iaload, 1) := by decide +kernel
theorem dL_law_1283 : decode cL_law 1283 = .ok (.aload_n 0, 1) := by decide +kernel
theorem dL_law_1284 : decode cL_law 1284 = .ok (.iload_n 3, 1) := by decide +kernel
theorem dL_law_1285 : decode cL_law 1285 = .ok (.iconst 3, 1) := by decide +kernel
theorem dL_law_1286 : decode cL_law 1286 = .ok (.iadd, 1) := by decide +kernel
theorem dL_law_1287 : decode cL_law 1287 = .ok (.iaload, 1) := by decide +kernel
theorem dL_law_1288 : decode cL_law 1288 = .ok (.invokevirtual 137, 3) := by decide +kernel
theorem dL_law_1291 : decode cL_law 1291 = .ok (.if_icmp .eq 205, 3) := by decide +kernel
theorem dL_law_1294 : decode cL_law 1294 = .ok (.iconst 0, 1) := by decide +kernel
theorem dL_law_1295 : decode cL_law 1295 = .ok (.ireturn, 1) := by decide +kernel
theorem dL_law_1296 : decode cL_law 1296 = .ok (.aload_n 1, 1) := by decide +kernel
theorem dL_law_1297 : decode cL_law 1297 = .ok (.aload_n 0, 1) := by decide +kernel
theorem dL_law_1298 : decode cL_law 1298 = .ok (.iload_n 3, 1) := by decide +kernel
theorem dL_law_1299 : decode cL_law 1299 = .ok (.iconst 1, 1) := by decide +kernel
theorem dL_law_1300 : decode cL_law 1300 = .ok (.iadd, 1) := by decide +kernel
theorem dL_law_1301 : decode cL_law 1301 = .ok (.iaload, 1) := by decide +kernel
theorem dL_law_1302 : decode cL_law 1302 = .ok (.aload_n 0, 1) := by decide +kernel
theorem dL_law_1303 : decode cL_law 1303 = .ok (.iload_n 3, 1) := by decide +kernel
theorem dL_law_1304 : decode cL_law 1304 = .ok (.iconst 2, 1) := by decide +kernel
theorem dL_law_1305 : decode cL_law 1305 = .ok (.iadd, 1) := by decide +kernel
theorem dL_law_1306 : decode cL_law 1306 = .ok (.iaload, 1) := by decide +kernel
theorem dL_law_1307 : decode cL_law 1307 = .ok (.invokevirtual 138, 3) := by decide +kernel
theorem dL_law_1310 : decode cL_law 1310 = .ok (.aload_n 2, 1) := by decide +kernel
theorem dL_law_1311 : decode cL_law 1311 = .ok (.aload_n 0, 1) := by decide +kernel
theorem dL_law_1312 : decode cL_law 1312 = .ok (.iload_n 3, 1) := by decide +kernel
theorem dL_law_1313 : decode cL_law 1313 = .ok (.iconst 1, 1) := by decide +kernel
theorem dL_law_1314 : decode cL_law 1314 = .ok (.iadd, 1) := by decide +kernel
theorem dL_law_1315 : decode cL_law 1315 = .ok (.iaload, 1) := by decide +kernel
theorem dL_law_1316 : decode cL_law 1316 = .ok (.aload_n 0, 1) := by decide +kernel
theorem dL_law_1317 : decode cL_law 1317 = .ok (.iload_n 3, 1) := by decide +kernel
theorem dL_law_1318 : decode cL_law 1318 = .ok (.iconst 2, 1) := by decide +kernel
theorem dL_law_1319 : decode cL_law 1319 = .ok (.iadd, 1) := by decide +kernel
theorem dL_law_1320 : decode cL_law 1320 = .ok (.iaload, 1) := by decide +kernel
theorem dL_law_1321 : decode cL_law 1321 = .ok (.invokevirtual 141, 3) := by decide +kernel
theorem dL_law_1324 : decode cL_law 1324 = .ok (.if_icmp .eq 172, 3) := by decide +kernel
theorem dL_law_1327 : decode cL_law 1327 = .ok (.iconst 0, 1) := by decide +kernel
theorem dL_law_1328 : decode cL_law 1328 = .ok (.ireturn, 1) := by decide +kernel
theorem dL_law_1329 : decode cL_law 1329 = .ok (.aload_n 1, 1) := by decide +kernel
theorem dL_law_1330 : decode cL_law 1330 = .ok (.aload_n 0, 1) := by decide +kernel
theorem dL_law_1331 : decode cL_law 1331 = .ok (.iload_n 3, 1) := by decide +kernel
theorem dL_law_1332 : decode cL_law 1332 = .ok (.iconst 1, 1) := by decide +kernel
theorem dL_law_1333 : decode cL_law 1333 = .ok (.iadd, 1) := by decide +kernel
theorem dL_law_1334 : decode cL_law 1334 = .ok (.iaload, 1) := by decide +kernel
theorem dL_law_1335 : decode cL_law 1335 = .ok (.aload_n 0, 1) := by decide +kernel
theorem dL_law_1336 : decode cL_law 1336 = .ok (.iload_n 3, 1) := by decide +kernel
theorem dL_law_1337 : decode cL_law 1337 = .ok (.iconst 2, 1) := by decide +kernel
theorem dL_law_1338 : decode cL_law 1338 = .ok (.iadd, 1) := by decide +kernel
theorem dL_law_1339 : decode cL_law 1339 = .ok (.iaload, 1) := by decide +kernel
theorem dL_law_1340 : decode cL_law 1340 = .ok (.aload_n 0, 1) := by decide +kernel
theorem dL_law_1341 : decode cL_law 1341 = .ok (.iload_n 3, 1) := by decide +kernel
theorem dL_law_1342 : decode cL_law 1342 = .ok (.iconst 3, 1) := by decide +kernel
theorem dL_law_1343 : decode cL_law 1343 = .ok (.iadd, 1) := by decide +kernel
theorem dL_law_1344 : decode cL_law 1344 = .ok (.iaload, 1) := by decide +kernel
theorem dL_law_1345 : decode cL_law 1345 = .ok (.invokevirtual 142, 3) := by decide +kernel
theorem dL_law_1348 : decode cL_law 1348 = .ok (.aload_n 2, 1) := by decide +kernel
theorem dL_law_1349 : decode cL_law 1349 = .ok (.aload_n 0, 1) := by decide +kernel
theorem dL_law_1350 : decode cL_law 1350 = .ok (.iload_n 3, 1) := by decide +kernel
theorem dL_law_1351 : decode cL_law 1351 = .ok (.iconst 1, 1) := by decide +kernel
theorem dL_law_1352 : decode cL_law 1352 = .ok (.iadd, 1) := by decide +kernel
theorem dL_law_1353 : decode cL_law 1353 = .ok (.iaload, 1) := by decide +kernel
theorem dL_law_1354 : decode cL_law 1354 = .ok (.aload_n 0, 1) := by decide +kernel
theorem dL_law_1355 : decode cL_law 1355 = .ok (.iload_n 3, 1) := by decide +kernel
theorem dL_law_1356 : decode cL_law 1356 = .ok (.iconst 2, 1) := by decide +kernel
theorem dL_law_1357 : decode cL_law 1357 = .ok (.iadd, 1) := by decide +kernel
theorem dL_law_1358 : decode cL_law 1358 = .ok (.iaload, 1) := by decide +kernel
theorem dL_law_1359 : decode cL_law 1359 = .ok (.aload_n 0, 1) := by decide +kernel
theorem dL_law_1360 : decode cL_law 1360 = .ok (.iload_n 3, 1) := by decide +kernel
theorem dL_law_1361 : decode cL_law 1361 = .ok (.iconst 3, 1) := by decide +kernel
theorem dL_law_1362 : decode cL_law 1362 = .ok (.iadd, 1) := by decide +kernel
theorem dL_law_1363 : decode cL_law 1363 = .ok (.iaload, 1) := by decide +kernel
theorem dL_law_1364 : decode cL_law 1364 = .ok (.invokevirtual 146, 3) := by decide +kernel
theorem dL_law_1367 : decode cL_law 1367 = .ok (.lcmp, 1) := by decide +kernel
theorem dL_law_1368 : decode cL_law 1368 = .ok (.ifCond .eq 128, 3) := by decide +kernel
theorem dL_law_1371 : decode cL_law 1371 = .ok (.iconst 0, 1) := by decide +kernel
theorem dL_law_1372 : decode cL_law 1372 = .ok (.ireturn, 1) := by decide +kernel
theorem dL_law_1373 : decode cL_law 1373 = .ok (.aload_n 1, 1) := by decide +kernel
theorem dL_law_1374 : decode cL_law 1374 = .ok (.aload_n 0, 1) := by decide +kernel
theorem dL_law_1375 : decode cL_law 1375 = .ok (.iload_n 3, 1) := by decide +kernel
theorem dL_law_1376 : decode cL_law 1376 = .ok (.iconst 1, 1) := by decide +kernel
theorem dL_law_1377 : decode cL_law 1377 = .ok (.iadd, 1) := by decide +kernel
theorem dL_law_1378 : decode cL_law 1378 = .ok (.iaload, 1) := by decide +kernel
theorem dL_law_1379 : decode cL_law 1379 = .ok (.aload_n 0, 1) := by decide +kernel
theorem dL_law_1380 : decode cL_law 1380 = .ok (.iload_n 3, 1) := by decide +kernel
theorem dL_law_1381 : decode cL_law 1381 = .ok (.iconst 2, 1) := by decide +kernel
theorem dL_law_1382 : decode cL_law 1382 = .ok (.iadd, 1) := by decide +kernel
theorem dL_law_1383 : decode cL_law 1383 = .ok (.iaload, 1) := by decide +kernel
theorem dL_law_1384 : decode cL_law 1384 = .ok (.aload_n 0, 1) := by decide +kernel
theorem dL_law_1385 : decode cL_law 1385 = .ok (.iload_n 3, 1) := by decide +kernel
theorem dL_law_1386 : decode cL_law 1386 = .ok (.iconst 3, 1) := by decide +kernel
theorem dL_law_1387 : decode cL_law 1387 = .ok (.iadd, 1) := by decide +kernel
theorem dL_law_1388 : decode cL_law 1388 = .ok (.iaload, 1) := by decide +kernel
theorem dL_law_1389 : decode cL_law 1389 = .ok (.invokevirtual 147, 3) := by decide +kernel
theorem dL_law_1392 : decode cL_law 1392 = .ok (.aload_n 2, 1) := by decide +kernel
theorem dL_law_1393 : decode cL_law 1393 = .ok (.aload_n 0, 1) := by decide +kernel
theorem dL_law_1394 : decode cL_law 1394 = .ok (.iload_n 3, 1) := by decide +kernel
theorem dL_law_1395 : decode cL_law 1395 = .ok (.iconst 1, 1) := by decide +kernel
theorem dL_law_1396 : decode cL_law 1396 = .ok (.iadd, 1) := by decide +kernel
theorem dL_law_1397 : decode cL_law 1397 = .ok (.iaload, 1) := by decide +kernel
theorem dL_law_1398 : decode cL_law 1398 = .ok (.aload_n 0, 1) := by decide +kernel
theorem dL_law_1399 : decode cL_law 1399 = .ok (.iload_n 3, 1) := by decide +kernel
theorem dL_law_1400 : decode cL_law 1400 = .ok (.iconst 2, 1) := by decide +kernel
theorem dL_law_1401 : decode cL_law 1401 = .ok (.iadd, 1) := by decide +kernel
theorem dL_law_1402 : decode cL_law 1402 = .ok (.iaload, 1) := by decide +kernel
theorem dL_law_1403 : decode cL_law 1403 = .ok (.aload_n 0, 1) := by decide +kernel
theorem dL_law_1404 : decode cL_law 1404 = .ok (.iload_n 3, 1) := by decide +kernel
theorem dL_law_1405 : decode cL_law 1405 = .ok (.iconst 3, 1) := by decide +kernel
theorem dL_law_1406 : decode cL_law 1406 = .ok (.iadd, 1) := by decide +kernel
theorem dL_law_1407 : decode cL_law 1407 = .ok (.iaload, 1) := by decide +kernel
theorem dL_law_1408 : decode cL_law 1408 = .ok (.invokevirtual 150, 3) := by decide +kernel
theorem dL_law_1411 : decode cL_law 1411 = .ok (.if_icmp .eq 85, 3) := by decide +kernel
theorem dL_law_1414 : decode cL_law 1414 = .ok (.iconst 0, 1) := by decide +kernel
theorem dL_law_1415 : decode cL_law 1415 = .ok (.ireturn, 1) := by decide +kernel
theorem dL_law_1416 : decode cL_law 1416 = .ok (.aload_n 1, 1) := by decide +kernel
theorem dL_law_1417 : decode cL_law 1417 = .ok (.aload_n 0, 1) := by decide +kernel
theorem dL_law_1418 : decode cL_law 1418 = .ok (.iload_n 3, 1) := by decide +kernel
theorem dL_law_1419 : decode cL_law 1419 = .ok (.iconst 1, 1) := by decide +kernel
theorem dL_law_1420 : decode cL_law 1420 = .ok (.iadd, 1) := by decide +kernel
theorem dL_law_1421 : decode cL_law 1421 = .ok (.iaload, 1) := by decide +kernel
theorem dL_law_1422 : decode cL_law 1422 = .ok (.aload_n 0, 1) := by decide +kernel
theorem dL_law_1423 : decode cL_law 1423 = .ok (.iload_n 3, 1) := by decide +kernel
theorem dL_law_1424 : decode cL_law 1424 = .ok (.iconst 2, 1) := by decide +kernel
theorem dL_law_1425 : decode cL_law 1425 = .ok (.iadd, 1) := by decide +kernel
theorem dL_law_1426 : decode cL_law 1426 = .ok (.iaload, 1) := by decide +kernel
theorem dL_law_1427 : decode cL_law 1427 = .ok (.invokevirtual 151, 3) := by decide +kernel
theorem dL_law_1430 : decode cL_law 1430 = .ok (.aload_n 2, 1) := by decide +kernel
theorem dL_law_1431 : decode cL_law 1431 = .ok (.aload_n 0, 1) := by decide +kernel
theorem dL_law_1432 : decode cL_law 1432 = .ok (.iload_n 3, 1) := by decide +kernel
theorem dL_law_1433 : decode cL_law 1433 = .ok (.iconst 1, 1) := by decide +kernel
theorem dL_law_1434 : decode cL_law 1434 = .ok (.iadd, 1) := by decide +kernel
theorem dL_law_1435 : decode cL_law 1435 = .ok (.iaload, 1) := by decide +kernel
theorem dL_law_1436 : decode cL_law 1436 = .ok (.aload_n 0, 1) := by decide +kernel
theorem dL_law_1437 : decode cL_law 1437 = .ok (.iload_n 3, 1) := by decide +kernel
theorem dL_law_1438 : decode cL_law 1438 = .ok (.iconst 2, 1) := by decide +kernel
theorem dL_law_1439 : decode cL_law 1439 = .ok (.iadd, 1) := by decide +kernel
theorem dL_law_1440 : decode cL_law 1440 = .ok (.iaload, 1) := by decide +kernel
theorem dL_law_1441 : decode cL_law 1441 = .ok (.invokevirtual 154, 3) := by decide +kernel
theorem dL_law_1444 : decode cL_law 1444 = .ok (.if_icmp .eq 52, 3) := by decide +kernel
theorem dL_law_1447 : decode cL_law 1447 = .ok (.iconst 0, 1) := by decide +kernel
theorem dL_law_1448 : decode cL_law 1448 = .ok (.ireturn, 1) := by decide +kernel
theorem dL_law_1449 : decode cL_law 1449 = .ok (.aload_n 1, 1) := by decide +kernel
theorem dL_law_1450 : decode cL_law 1450 = .ok (.aload_n 0, 1) := by decide +kernel
theorem dL_law_1451 : decode cL_law 1451 = .ok (.iload_n 3, 1) := by decide +kernel
theorem dL_law_1452 : decode cL_law 1452 = .ok (.iconst 1, 1) := by decide +kernel
theorem dL_law_1453 : decode cL_law 1453 = .ok (.iadd, 1) := by decide +kernel
theorem dL_law_1454 : decode cL_law 1454 = .ok (.iaload, 1) := by decide +kernel
theorem dL_law_1455 : decode cL_law 1455 = .ok (.invokevirtual 155, 3) := by decide +kernel
theorem dL_law_1458 : decode cL_law 1458 = .ok (.aload_n 2, 1) := by decide +kernel
theorem dL_law_1459 : decode cL_law 1459 = .ok (.aload_n 0, 1) := by decide +kernel
theorem dL_law_1460 : decode cL_law 1460 = .ok (.iload_n 3, 1) := by decide +kernel
theorem dL_law_1461 : decode cL_law 1461 = .ok (.iconst 1, 1) := by decide +kernel
theorem dL_law_1462 : decode cL_law 1462 = .ok (.iadd, 1) := by decide +kernel
theorem dL_law_1463 : decode cL_law 1463 = .ok (.iaload, 1) := by decide +kernel
theorem dL_law_1464 : decode cL_law 1464 = .ok (.invokevirtual 158, 3) := by decide +kernel
theorem dL_law_1467 : decode cL_law 1467 = .ok (.if_icmp .eq 29, 3) := by decide +kernel
theorem dL_law_1470 : decode cL_law 1470 = .ok (.iconst 0, 1) := by decide +kernel
theorem dL_law_1471 : decode cL_law 1471 = .ok (.ireturn, 1) := by decide +kernel
theorem dL_law_1472 : decode cL_law 1472 = .ok (.aload_n 1, 1) := by decide +kernel
theorem dL_law_1473 : decode cL_law 1473 = .ok (.aload_n 0, 1) := by decide +kernel
theorem dL_law_1474 : decode cL_law 1474 = .ok (.iload_n 3, 1) := by decide +kernel
theorem dL_law_1475 : decode cL_law 1475 = .ok (.iconst 1, 1) := by decide +kernel
theorem dL_law_1476 : decode cL_law 1476 = .ok (.iadd, 1) := by decide +kernel
theorem dL_law_1477 : decode cL_law 1477 = .ok (.iaload, 1) := by decide +kernel
theorem dL_law_1478 : decode cL_law 1478 = .ok (.invokevirtual 159, 3) := by decide +kernel
theorem dL_law_1481 : decode cL_law 1481 = .ok (.aload_n 2, 1) := by decide +kernel
theorem dL_law_1482 : decode cL_law 1482 = .ok (.aload_n 0, 1) := by decide +kernel
theorem dL_law_1483 : decode cL_law 1483 = .ok (.iload_n 3, 1) := by decide +kernel
theorem dL_law_1484 : decode cL_law 1484 = .ok (.iconst 1, 1) := by decide +kernel
theorem dL_law_1485 : decode cL_law 1485 = .ok (.iadd, 1) := by decide +kernel
theorem dL_law_1486 : decode cL_law 1486 = .ok (.iaload, 1) := by decide +kernel
theorem dL_law_1487 : decode cL_law 1487 = .ok (.invokevirtual 163, 3) := by decide +kernel
theorem dL_law_1490 : decode cL_law 1490 = .ok (.lcmp, 1) := by decide +kernel
theorem dL_law_1491 : decode cL_law 1491 = .ok (.ifCond .eq 5, 3) := by decide +kernel
theorem dL_law_1494 : decode cL_law 1494 = .ok (.iconst 0, 1) := by decide +kernel
theorem dL_law_1495 : decode cL_law 1495 = .ok (.ireturn, 1) := by decide +kernel
theorem dL_law_1496 : decode cL_law 1496 = .ok (.iinc 3 6, 3) := by decide +kernel
theorem dL_law_1499 : decode cL_law 1499 = .ok (.goto (-1481), 3) := by decide +kernel
theorem dL_law_1502 : decode cL_law 1502 = .ok (.iconst 1, 1) := by decide +kernel
theorem dL_law_1503 : decode cL_law 1503 = .ok (.ireturn, 1) := by decide +kernel