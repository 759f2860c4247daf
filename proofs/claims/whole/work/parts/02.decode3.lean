theorem dX8_give_7 : decode cX8_give 7 = .ok (.putfield 164, 3) := by decide +kernel
theorem dX8_give_10 : decode cX8_give 10 = .ok (.aload_n 0, 1) := by decide +kernel
theorem dX8_give_11 : decode cX8_give 11 = .ok (.getfield 164, 3) := by decide +kernel
theorem dX8_give_14 : decode cX8_give 14 = .ok (.ifCond .ne 9, 3) := by decide +kernel
theorem dX8_give_17 : decode cX8_give 17 = .ok (.aload_n 0, 1) := by decide +kernel
theorem dX8_give_18 : decode cX8_give 18 = .ok (.dload_n 1, 1) := by decide +kernel
theorem dX8_give_19 : decode cX8_give 19 = .ok (.putfield 192, 3) := by decide +kernel
theorem dX8_give_22 : decode cX8_give 22 = .ok (.return_, 1) := by decide +kernel
theorem dX8_give_23 : decode cX8_give 23 = .ok (.aload_n 0, 1) := by decide +kernel
theorem dX8_give_24 : decode cX8_give 24 = .ok (.getfield 164, 3) := by decide +kernel
theorem dX8_give_27 : decode cX8_give 27 = .ok (.iconst 1, 1) := by decide +kernel
theorem dX8_give_28 : decode cX8_give 28 = .ok (.isub, 1) := by decide +kernel
theorem dX8_give_29 : decode cX8_give 29 = .ok (.istore_n 3, 1) := by decide +kernel
theorem dX8_give_30 : decode cX8_give 30 = .ok (.aload_n 0, 1) := by decide +kernel
theorem dX8_give_31 : decode cX8_give 31 = .ok (.getfield 27, 3) := by decide +kernel
theorem dX8_give_34 : decode cX8_give 34 = .ok (.aload_n 0, 1) := by decide +kernel
theorem dX8_give_35 : decode cX8_give 35 = .ok (.getfield 60, 3) := by decide +kernel
theorem dX8_give_38 : decode cX8_give 38 = .ok (.iload_n 3, 1) := by decide +kernel
theorem dX8_give_39 : decode cX8_give 39 = .ok (.iaload, 1) := by decide +kernel
theorem dX8_give_40 : decode cX8_give 40 = .ok (.iaload, 1) := by decide +kernel
theorem dX8_give_41 : decode cX8_give 41 = .ok (.istore 4, 2) := by decide +kernel
theorem dX8_give_43 : decode cX8_give 43 = .ok (.aload_n 0, 1) := by decide +kernel
theorem dX8_give_44 : decode cX8_give 44 = .ok (.getfield 69, 3) := by decide +kernel
theorem dX8_give_47 : decode cX8_give 47 = .ok (.iload_n 3, 1) := by decide +kernel
theorem dX8_give_48 : decode cX8_give 48 = .ok (.aload_n 0, 1) := by decide +kernel
theorem dX8_give_49 : decode cX8_give 49 = .ok (.getfield 63, 3) := by decide +kernel
theorem dX8_give_52 : decode cX8_give 52 = .ok (.iload_n 3, 1) := by decide +kernel
theorem dX8_give_53 : decode cX8_give 53 = .ok (.iaload, 1) := by decide +kernel
theorem dX8_give_54 : decode cX8_give 54 = .ok (.ifCond .ne 7, 3) := by decide +kernel
theorem dX8_give_57 : decode cX8_give 57 = .ok (.dload_n 1, 1) := by decide +kernel
theorem dX8_give_58 : decode cX8_give 58 = .ok (.goto 13, 3) := by decide +kernel
theorem dX8_give_61 : decode cX8_give 61 = .ok (.aload_n 0, 1) := by decide +kernel
theorem dX8_give_62 : decode cX8_give 62 = .ok (.getfield 69, 3) := by decide +kernel
theorem dX8_give_65 : decode cX8_give 65 = .ok (.iload_n 3, 1) := by decide +kernel
theorem dX8_give_66 : decode cX8_give 66 = .ok (.daload, 1) := by decide +kernel
theorem dX8_give_67 : decode cX8_give 67 = .ok (.dload_n 1, 1) := by decide +kernel
theorem dX8_give_68 : decode cX8_give 68 = .ok (.invokestatic 186, 3) := by decide +kernel
theorem dX8_give_71 : decode cX8_give 71 = .ok (.dastore, 1) := by decide +kernel
theorem dX8_give_72 : decode cX8_give 72 = .ok (.aload_n 0, 1) := by decide +kernel
theorem dX8_give_73 : decode cX8_give 73 = .ok (.getfield 66, 3) := by decide +kernel
theorem dX8_give_76 : decode cX8_give 76 = .ok (.iload_n 3, 1) := by decide +kernel
theorem dX8_give_77 : decode cX8_give 77 = .ok (.iload 4, 2) := by decide +kernel
theorem dX8_give_79 : decode cX8_give 79 = .ok (.bipush 7, 2) := by decide +kernel
theorem dX8_give_81 : decode cX8_give 81 = .ok (.if_icmp .ne 16, 3) := by decide +kernel
theorem dX8_give_84 : decode cX8_give 84 = .ok (.aload_n 0, 1) := by decide +kernel
theorem dX8_give_85 : decode cX8_give 85 = .ok (.getfield 66, 3) := by decide +kernel
theorem dX8_give_88 : decode cX8_give 88 = .ok (.iload_n 3, 1) := by decide +kernel
theorem dX8_give_89 : decode cX8_give 89 = .ok (.daload, 1) := by decide +kernel
theorem dX8_give_90 : decode cX8_give 90 = .ok (.dload_n 1, 1) := by decide +kernel
theorem dX8_give_91 : decode cX8_give 91 = .ok (.invokestatic 183, 3) := by decide +kernel
theorem dX8_give_94 : decode cX8_give 94 = .ok (.goto 24, 3) := by decide +kernel
theorem dX8_give_97 : decode cX8_give 97 = .ok (.iload 4, 2) := by decide +kernel
theorem dX8_give_99 : decode cX8_give 99 = .ok (.bipush 9, 2) := by decide +kernel
theorem dX8_give_101 : decode cX8_give 101 = .ok (.if_icmp .ge 16, 3) := by decide +kernel
theorem dX8_give_104 : decode cX8_give 104 = .ok (.aload_n 0, 1) := by decide +kernel
theorem dX8_give_105 : decode cX8_give 105 = .ok (.getfield 66, 3) := by decide +kernel
theorem dX8_give_108 : decode cX8_give 108 = .ok (.iload_n 3, 1) := by decide +kernel
theorem dX8_give_109 : decode cX8_give 109 = .ok (.daload, 1) := by decide +kernel
theorem dX8_give_110 : decode cX8_give 110 = .ok (.dload_n 1, 1) := by decide +kernel
theorem dX8_give_111 : decode cX8_give 111 = .ok (.invokestatic 177, 3) := by decide +kernel
theorem dX8_give_114 : decode cX8_give 114 = .ok (.goto 4, 3) := by decide +kernel
theorem dX8_give_117 : decode cX8_give 117 = .ok (.dload_n 1, 1) := by decide +kernel
theorem dX8_give_118 : decode cX8_give 118 = .ok (.dastore, 1) := by decide +kernel
theorem dX8_give_119 : decode cX8_give 119 = .ok (.aload_n 0, 1) := by decide +kernel
theorem dX8_give_120 : decode cX8_give 120 = .ok (.getfield 63, 3) := by decide +kernel
theorem dX8_give_123 : decode cX8_give 123 = .ok (.iload_n 3, 1) := by decide +kernel
theorem dX8_give_124 : decode cX8_give 124 = .ok (.dup2, 1) := by decide +kernel
theorem dX8_give_125 : decode cX8_give 125 = .ok (.iaload, 1) := by decide +kernel
theorem dX8_give_126 : decode cX8_give 126 = .ok (.iconst 1, 1) := by decide +kernel
theorem dX8_give_127 : decode cX8_give 127 = .ok (.iadd, 1) := by decide +kernel
theorem dX8_give_128 : decode cX8_give 128 = .ok (.iastore, 1) := by decide +kernel
theorem dX8_give_129 : decode cX8_give 129 = .ok (.iload 4, 2) := by decide +kernel
theorem dX8_give_131 : decode cX8_give 131 = .ok (.bipush 13, 2) := by decide +kernel
theorem dX8_give_133 : decode cX8_give 133 = .ok (.if_icmp .ne 10, 3) := by decide +kernel
theorem dX8_give_136 : decode cX8_give 136 = .ok (.aload_n 0, 1) := by decide +kernel
theorem dX8_give_137 : decode cX8_give 137 = .ok (.getfield 63, 3) := by decide +kernel
theorem dX8_give_140 : decode cX8_give 140 = .ok (.iload_n 3, 1) := by decide +kernel
theorem dX8_give_141 : decode cX8_give 141 = .ok (.iconst 2, 1) := by decide +kernel
theorem dX8_give_142 : decode cX8_give 142 = .ok (.iastore, 1) := by decide +kernel
theorem dX8_give_143 : decode cX8_give 143 = .ok (.return_, 1) := by decide +kernel
theorem dX8_fail_0 : decode cX8_fail 0 = .ok (.aload_n 0, 1) := by decide +kernel
theorem dX8_fail_1 : decode cX8_fail 1 = .ok (.aload_n 0, 1) := by decide +kernel
theorem dX8_fail_2 : decode cX8_fail 2 = .ok (.getfield 60, 3) := by decide +kernel
theorem dX8_fail_5 : decode cX8_fail 5 = .ok (.aload_n 0, 1) := by decide +kernel
theorem dX8_fail_6 : decode cX8_fail 6 = .ok (.getfield 164, 3) := by decide +kernel
theorem dX8_fail_9 : decode cX8_fail 9 = .ok (.iconst 1, 1) := by decide +kernel
theorem dX8_fail_10 : decode cX8_fail 10 = .ok (.isub, 1) := by decide +kernel
theorem dX8_fail_11 : decode cX8_fail 11 = .ok (.iaload, 1) := by decide +kernel
theorem dX8_fail_12 : decode cX8_fail 12 = .ok (.putfield 196, 3) := by decide +kernel
theorem dX8_fail_15 : decode cX8_fail 15 = .ok (.aload_n 0, 1) := by decide +kernel
theorem dX8_fail_16 : decode cX8_fail 16 = .ok (.dup, 1) := by decide +kernel
theorem dX8_fail_17 : decode cX8_fail 17 = .ok (.getfield 164, 3) := by decide +kernel
theorem dX8_fail_20 : decode cX8_fail 20 = .ok (.iconst 1, 1) := by decide +kernel
theorem dX8_fail_21 : decode cX8_fail 21 = .ok (.isub, 1) := by decide +kernel
theorem dX8_fail_22 : decode cX8_fail 22 = .ok (.putfield 164, 3) := by decide +kernel
theorem dX8_fail_25 : decode cX8_fail 25 = .ok (.aload_n 0, 1) := by decide +kernel
theorem dX8_fail_26 : decode cX8_fail 26 = .ok (.getfield 164, 3) := by decide +kernel
theorem dX8_fail_29 : decode cX8_fail 29 = .ok (.ifCond .le 51, 3) := by decide +kernel
theorem dX8_fail_32 : decode cX8_fail 32 = .ok (.aload_n 0, 1) := by decide +kernel
theorem dX8_fail_33 : decode cX8_fail 33 = .ok (.getfield 27, 3) := by decide +kernel
theorem dX8_fail_36 : decode cX8_fail 36 = .ok (.aload_n 0, 1) := by decide +kernel
theorem dX8_fail_37 : decode cX8_fail 37 = .ok (.getfield 60, 3) := by decide +kernel
theorem dX8_fail_40 : decode cX8_fail 40 = .ok (.aload_n 0, 1) := by decide +kernel
theorem dX8_fail_41 : decode cX8_fail 41 = .ok (.getfield 164, 3) := by decide +kernel
theorem dX8_fail_44 : decode cX8_fail 44 = .ok (.iconst 1, 1) := by decide +kernel
theorem dX8_fail_45 : decode cX8_fail 45 = .ok (.isub, 1) := by decide +kernel
theorem dX8_fail_46 : decode cX8_fail 46 = .ok (.iaload, 1) := by decide +kernel
theorem dX8_fail_47 : decode cX8_fail 47 = .ok (.iaload, 1) := by decide +kernel
theorem dX8_fail_48 : decode cX8_fail 48 = .ok (.bipush 13, 2) := by decide +kernel
theorem dX8_fail_50 : decode cX8_fail 50 = .ok (.if_icmp .ne 17, 3) := by decide +kernel
theorem dX8_fail_53 : decode cX8_fail 53 = .ok (.aload_n 0, 1) := by decide +kernel
theorem dX8_fail_54 : decode cX8_fail 54 = .ok (.getfield 63, 3) := by decide +kernel
theorem dX8_fail_57 : decode cX8_fail 57 = .ok (.aload_n 0, 1) := by decide +kernel
theorem dX8_fail_58 : decode cX8_fail 58 = .ok (.getfield 164, 3) := by decide +kernel
theorem dX8_fail_61 : decode cX8_fail 61 = .ok (.iconst 1, 1) := by decide +kernel
theorem dX8_fail_62 : decode cX8_fail 62 = .ok (.isub, 1) := by decide +kernel
theorem dX8_fail_63 : decode cX8_fail 63 = .ok (.iaload, 1) := by decide +kernel
theorem dX8_fail_64 : decode cX8_fail 64 = .ok (.ifCond .eq 16, 3) := by decide +kernel
theorem dX8_fail_67 : decode cX8_fail 67 = .ok (.aload_n 0, 1) := by decide +kernel
theorem dX8_fail_68 : decode cX8_fail 68 = .ok (.dup, 1) := by decide +kernel
theorem dX8_fail_69 : decode cX8_fail 69 = .ok (.getfield 164, 3) := by decide +kernel
theorem dX8_fail_72 : decode cX8_fail 72 = .ok (.iconst 1, 1) := by decide +kernel
theorem dX8_fail_73 : decode cX8_fail 73 = .ok (.isub, 1) := by decide +kernel
theorem dX8_fail_74 : decode cX8_fail 74 = .ok (.putfield 164, 3) := by decide +kernel
theorem dX8_fail_77 : decode cX8_fail 77 = .ok (.goto (-52), 3) := by decide +kernel
theorem dX8_fail_80 : decode cX8_fail 80 = .ok (.aload_n 0, 1) := by decide +kernel
theorem dX8_fail_81 : decode cX8_fail 81 = .ok (.getfield 164, 3) := by decide +kernel
theorem dX8_fail_84 : decode cX8_fail 84 = .ok (.ifCond .ne 11, 3) := by decide +kernel
theorem dX8_fail_87 : decode cX8_fail 87 = .ok (.aload_n 0, 1) := by decide +kernel
theorem dX8_fail_88 : decode cX8_fail 88 = .ok (.iload_n 1, 1) := by decide +kernel
theorem dX8_fail_89 : decode cX8_fail 89 = .ok (.putfield 199, 3) := by decide +kernel
theorem dX8_fail_92 : decode cX8_fail 92 = .ok (.goto 50, 3) := by decide +kernel
theorem dX8_fail_95 : decode cX8_fail 95 = .ok (.aload_n 0, 1) := by decide +kernel
theorem dX8_fail_96 : decode cX8_fail 96 = .ok (.dup, 1) := by decide +kernel
theorem dX8_fail_97 : decode cX8_fail 97 = .ok (.getfield 202, 3) := by decide +kernel
theorem dX8_fail_100 : decode cX8_fail 100 = .ok (.iconst 1, 1) := by decide +kernel
theorem dX8_fail_101 : decode cX8_fail 101 = .ok (.iadd, 1) := by decide +kernel
theorem dX8_fail_102 : decode cX8_fail 102 = .ok (.putfield 202, 3) := by decide +kernel
theorem dX8_fail_105 : decode cX8_fail 105 = .ok (.aload_n 0, 1) := by decide +kernel
theorem dX8_fail_106 : decode cX8_fail 106 = .ok (.getfield 63, 3) := by decide +kernel
theorem dX8_fail_109 : decode cX8_fail 109 = .ok (.aload_n 0, 1) := by decide +kernel
theorem dX8_fail_110 : decode cX8_fail 110 = .ok (.getfield 164, 3) := by decide +kernel
theorem dX8_fail_113 : decode cX8_fail 113 = .ok (.iconst 1, 1) := by decide +kernel
theorem dX8_fail_114 : decode cX8_fail 114 = .ok (.isub, 1) := by decide +kernel
theorem dX8_fail_115 : decode cX8_fail 115 = .ok (.iconst 1, 1) := by decide +kernel
theorem dX8_fail_116 : decode cX8_fail 116 = .ok (.iastore, 1) := by decide +kernel
theorem dX8_fail_117 : decode cX8_fail 117 = .ok (.aload_n 0, 1) := by decide +kernel
theorem dX8_fail_118 : decode cX8_fail 118 = .ok (.aload_n 0, 1) := by decide +kernel
theorem dX8_fail_119 : decode cX8_fail 119 = .ok (.getfield 42, 3) := by decide +kernel
theorem dX8_fail_122 : decode cX8_fail 122 = .ok (.bipush 8, 2) := by decide +kernel
theorem dX8_fail_124 : decode cX8_fail 124 = .ok (.aload_n 0, 1) := by decide +kernel
theorem dX8_fail_125 : decode cX8_fail 125 = .ok (.getfield 60, 3) := by decide +kernel
theorem dX8_fail_128 : decode cX8_fail 128 = .ok (.aload_n 0, 1) := by decide +kernel
theorem dX8_fail_129 : decode cX8_fail 129 = .ok (.getfield 164, 3) := by decide +kernel
theorem dX8_fail_132 : decode cX8_fail 132 = .ok (.iconst 1, 1) := by decide +kernel
theorem dX8_fail_133 : decode cX8_fail 133 = .ok (.isub, 1) := by decide +kernel
theorem dX8_fail_134 : decode cX8_fail 134 = .ok (.iaload, 1) := by decide +kernel
theorem dX8_fail_135 : decode cX8_fail 135 = .ok (.imul, 1) := by decide +kernel
theorem dX8_fail_136 : decode cX8_fail 136 = .ok (.iconst 1, 1) := by decide +kernel
theorem dX8_fail_137 : decode cX8_fail 137 = .ok (.iadd, 1) := by decide +kernel
theorem dX8_fail_138 : decode cX8_fail 138 = .ok (.iaload, 1) := by decide +kernel
theorem dX8_fail_139 : decode cX8_fail 139 = .ok (.invokevirtual 205, 3) := by decide +kernel
theorem dX8_fail_142 : decode cX8_fail 142 = .ok (.return_, 1) := by decide +kernel
theorem dX8_work_0 : decode cX8_work 0 = .ok (.aload_n 0, 1) := by decide +kernel
theorem dX8_work_1 : decode cX8_work 1 = .ok (.iconst 0, 1) := by decide +kernel
theorem dX8_work_2 : decode cX8_work 2 = .ok (.putfield 164, 3) := by decide +kernel
theorem dX8_work_5 : decode cX8_work 5 = .ok (.aload_n 0, 1) := by decide +kernel
theorem dX8_work_6 : decode cX8_work 6 = .ok (.iconst 0, 1) := by decide +kernel
theorem dX8_work_7 : decode cX8_work 7 = .ok (.putfield 199, 3) := by decide +kernel
theorem dX8_work_10 : decode cX8_work 10 = .ok (.aload_n 0, 1) := by decide +kernel
theorem dX8_work_11 : decode cX8_work 11 = .ok (.bipush (-9), 2) := by decide +kernel
theorem dX8_work_13 : decode cX8_work 13 = .ok (.putfield 196, 3) := by decide +kernel
theorem dX8_work_16 : decode cX8_work 16 = .ok (.aload_n 0, 1) := by decide +kernel
theorem dX8_work_17 : decode cX8_work 17 = .ok (.iconst 0, 1) := by decide +kernel
theorem dX8_work_18 : decode cX8_work 18 = .ok (.putfield 167, 3) := by decide +kernel
theorem dX8_work_21 : decode cX8_work 21 = .ok (.aload_n 0, 1) := by decide +kernel
theorem dX8_work_22 : decode cX8_work 22 = .ok (.iconst 0, 1) := by decide +kernel
theorem dX8_work_23 : decode cX8_work 23 = .ok (.putfield 202, 3) := by decide +kernel
theorem dX8_work_26 : decode cX8_work 26 = .ok (.aload_n 0, 1) := by decide +kernel
theorem dX8_work_27 : decode cX8_work 27 = .ok (.iconst 0, 1) := by decide +kernel
theorem dX8_work_28 : decode cX8_work 28 = .ok (.putfield 170, 3) := by decide +kernel
theorem dX8_work_31 : decode cX8_work 31 = .ok (.aload_n 0, 1) := by decide +kernel
theorem dX8_work_32 : decode cX8_work 32 = .ok (.dconst 0, 1) := by decide +kernel
theorem dX8_work_33 : decode cX8_work 33 = .ok (.putfield 192, 3) := by decide +kernel
theorem dX8_work_36 : decode cX8_work 36 = .ok (.aload_n 0, 1) := by decide +kernel
theorem dX8_work_37 : decode cX8_work 37 = .ok (.iload_n 1, 1) := by decide +kernel
theorem dX8_work_38 : decode cX8_work 38 = .ok (.invokevirtual 205, 3) := by decide +kernel
theorem dX8_work_41 : decode cX8_work 41 = .ok (.aload_n 0, 1) := by decide +kernel
theorem dX8_work_42 : decode cX8_work 42 = .ok (.getfield 164, 3) := by decide +kernel
theorem dX8_work_45 : decode cX8_work 45 = .ok (.ifCond .le 151, 3) := by decide +kernel
theorem dX8_work_48 : decode cX8_work 48 = .ok (.aload_n 0, 1) := by decide +kernel
theorem dX8_work_49 : decode cX8_work 49 = .ok (.getfield 164, 3) := by decide +kernel
theorem dX8_work_52 : decode cX8_work 52 = .ok (.iconst 1, 1) := by decide +kernel
theorem dX8_work_53 : decode cX8_work 53 = .ok (.isub, 1) := by decide +kernel
theorem dX8_work_54 : decode cX8_work 54 = .ok (.istore_n 3, 1) := by decide +kernel
theorem dX8_work_55 : decode cX8_work 55 = .ok (.aload_n 0, 1) := by decide +kernel
theorem dX8_work_56 : decode cX8_work 56 = .ok (.getfield 60, 3) := by decide +kernel
theorem dX8_work_59 : decode cX8_work 59 = .ok (.iload_n 3, 1) := by decide +kernel
theorem dX8_work_60 : decode cX8_work 60 = .ok (.iaload, 1) := by decide +kernel
theorem dX8_work_61 : decode cX8_work 61 = .ok (.istore 4, 2) := by decide +kernel
theorem dX8_work_63 : decode cX8_work 63 = .ok (.aload_n 0, 1) := by decide +kernel
theorem dX8_work_64 : decode cX8_work 64 = .ok (.getfield 63, 3) := by decide +kernel
theorem dX8_work_67 : decode cX8_work 67 = .ok (.iload_n 3, 1) := by decide +kernel
theorem dX8_work_68 : decode cX8_work 68 = .ok (.iaload, 1) := by decide +kernel
theorem dX8_work_69 : decode cX8_work 69 = .ok (.aload_n 0, 1) := by decide +kernel
theorem dX8_work_70 : decode cX8_work 70 = .ok (.getfield 39, 3) := by decide +kernel
theorem dX8_work_73 : decode cX8_work 73 = .ok (.iload 4, 2) := by decide +kernel
theorem dX8_work_75 : decode cX8_work 75 = .ok (.iaload, 1) := by decide +kernel
theorem dX8_work_76 : decode cX8_work 76 = .ok (.if_icmp .ge 27, 3) := by decide +kernel
theorem dX8_work_79 : decode cX8_work 79 = .ok (.aload_n 0, 1) := by decide +kernel
theorem dX8_work_80 : decode cX8_work 80 = .ok (.aload_n 0, 1) := by decide +kernel
theorem dX8_work_81 : decode cX8_work 81 = .ok (.getfield 42, 3) := by decide +kernel
theorem dX8_work_84 : decode cX8_work 84 = .ok (.bipush 8, 2) := by decide +kernel
theorem dX8_work_86 : decode cX8_work 86 = .ok (.iload 4, 2) := by decide +kernel
theorem dX8_work_88 : decode cX8_work 88 = .ok (.imul, 1) := by decide +kernel
theorem dX8_work_89 : decode cX8_work 89 = .ok (.aload_n 0, 1) := by decide +kernel
theorem dX8_work_90 : decode cX8_work 90 = .ok (.getfield 63, 3) := by decide +kernel
theorem dX8_work_93 : decode cX8_work 93 = .ok (.iload_n 3, 1) := by decide +kernel
theorem dX8_work_94 : decode cX8_work 94 = .ok (.iaload, 1) := by decide +kernel
theorem dX8_work_95 : decode cX8_work 95 = .ok (.iadd, 1) := by decide +kernel
theorem dX8_work_96 : decode cX8_work 96 = .ok (.iaload, 1) := by decide +kernel
theorem dX8_work_97 : decode cX8_work 97 = .ok (.invokevirtual 205, 3) := by decide +kernel
theorem dX8_work_100 : decode cX8_work 100 = .ok (.goto 93, 3) := by decide +kernel
theorem dX8_work_103 : decode cX8_work 103 = .ok (.aload_n 0, 1) := by decide +kernel
theorem dX8_work_104 : decode cX8_work 104 = .ok (.iload_n 2, 1) := by decide +kernel
theorem dX8_work_105 : decode cX8_work 105 = .ok (.iload 4, 2) := by decide +kernel
theorem dX8_work_107 : decode cX8_work 107 = .ok (.aload_n 0, 1) := by decide +kernel
theorem dX8_work_108 : decode cX8_work 108 = .ok (.getfield 66, 3) := by decide +kernel
theorem dX8_work_111 : decode cX8_work 111 = .ok (.iload_n 3, 1) := by decide +kernel
theorem dX8_work_112 : decode cX8_work 112 = .ok (.daload, 1) := by decide +kernel
theorem dX8_work_113 : decode cX8_work 113 = .ok (.aload_n 0, 1) := by decide +kernel
theorem dX8_work_114 : decode cX8_work 114 = .ok (.getfield 69, 3) := by decide +kernel
theorem dX8_work_117 : decode cX8_work 117 = .ok (.iload_n 3, 1) := by decide +kernel
theorem dX8_work_118 : decode cX8_work 118 = .ok (.daload, 1) := by decide +kernel
theorem dX8_work_119 : decode cX8_work 119 = .ok (.invokevirtual 208, 3) := by decide +kernel
theorem dX8_work_122 : decode cX8_work 122 = .ok (.dstore 5, 2) := by decide +kernel
theorem dX8_work_124 : decode cX8_work 124 = .ok (.dload 5, 2) := by decide +kernel
theorem dX8_work_126 : decode cX8_work 126 = .ok (.dload 5, 2) := by decide +kernel
theorem dX8_work_128 : decode cX8_work 128 = .ok (.dcmp .l, 1) := by decide +kernel
theorem dX8_work_129 : decode cX8_work 129 = .ok (.ifCond .eq 26, 3) := by decide +kernel
theorem dX8_work_132 : decode cX8_work 132 = .ok (.aload_n 0, 1) := by decide +kernel
theorem dX8_work_133 : decode cX8_work 133 = .ok (.aload_n 0, 1) := by decide +kernel
theorem dX8_work_134 : decode cX8_work 134 = .ok (.getfield 27, 3) := by decide +kernel
theorem dX8_work_137 : decode cX8_work 137 = .ok (.iload 4, 2) := by decide +kernel
theorem dX8_work_139 : decode cX8_work 139 = .ok (.iaload, 1) := by decide +kernel
theorem dX8_work_140 : decode cX8_work 140 = .ok (.iconst 5, 1) := by decide +kernel
theorem dX8_work_141 : decode cX8_work 141 = .ok (.if_icmp .ne 7, 3) := by decide +kernel
theorem dX8_work_144 : decode cX8_work 144 = .ok (.iconst 1, 1) := by decide +kernel
theorem dX8_work_145 : decode cX8_work 145 = .ok (.goto 4, 3) := by decide +kernel
theorem dX8_work_148 : decode cX8_work 148 = .ok (.iconst 2, 1) := by decide +kernel
theorem dX8_work_149 : decode cX8_work 149 = .ok (.invokevirtual 212, 3) := by decide +kernel
theorem dX8_work_152 : decode cX8_work 152 = .ok (.goto 41, 3) := by decide +kernel
theorem dX8_work_155 : decode cX8_work 155 = .ok (.aload_n 0, 1) := by decide +kernel
theorem dX8_work_156 : decode cX8_work 156 = .ok (.getfield 27, 3) := by decide +kernel
theorem dX8_work_159 : decode cX8_work 159 = .ok (.iload 4, 2) := by decide +kernel
theorem dX8_work_161 : decode cX8_work 161 = .ok (.iaload, 1) := by decide +kernel
theorem dX8_work_162 : decode cX8_work 162 = .ok (.bipush 6, 2) := by decide +kernel
theorem dX8_work_164 : decode cX8_work 164 = .ok (.bipush 9, 2) := by decide +kernel
theorem dX8_work_166 : decode cX8_work 166 = .ok (.invokestatic 89, 3) := by decide +kernel
theorem dX8_work_169 : decode cX8_work 169 = .ok (.ifCond .eq 18, 3) := by decide +kernel
theorem dX8_work_172 : decode cX8_work 172 = .ok (.dload 5, 2) := by decide +kernel
theorem dX8_work_174 : decode cX8_work 174 = .ok (.dconst 0, 1) := by decide +kernel
theorem dX8_work_175 : decode cX8_work 175 = .ok (.dcmp .g, 1) := by decide +kernel
theorem dX8_work_176 : decode cX8_work 176 = .ok (.ifCond .ge 11, 3) := by decide +kernel
theorem dX8_work_179 : decode cX8_work 179 = .ok (.aload_n 0, 1) := by decide +kernel
theorem dX8_work_180 : decode cX8_work 180 = .ok (.iconst 3, 1) := by decide +kernel
theorem dX8_work_181 : decode cX8_work 181 = .ok (.invokevirtual 212, 3) := by decide +kernel
theorem dX8_work_184 : decode cX8_work 184 = .ok (.goto 9, 3) := by decide +kernel
theorem dX8_work_187 : decode cX8_work 187 = .ok (.aload_n 0, 1) := by decide +kernel
theorem dX8_work_188 : decode cX8_work 188 = .ok (.dload 5, 2) := by decide +kernel
theorem dX8_work_190 : decode cX8_work 190 = .ok (.invokevirtual 215, 3) := by decide +kernel
theorem dX8_work_193 : decode cX8_work 193 = .ok (.goto (-152), 3) := by decide +kernel
theorem dX8_work_196 : decode cX8_work 196 = .ok (.return_, 1) := by decide +kernel
theorem dX8_score_0 : decode cX8_score 0 = .ok (.aload_n 0, 1) := by decide +kernel
theorem dX8_score_1 : decode cX8_score 1 = .ok (.iload_n 1, 1) := by decide +kernel
theorem dX8_score_2 : decode cX8_score 2 = .ok (.invokevirtual 127, 3) := by decide +kernel
theorem dX8_score_5 : decode cX8_score 5 = .ok (.ifCond .eq 13, 3) := by decide +kernel
theorem dX8_score_8 : decode cX8_score 8 = .ok (.iload_n 2, 1) := by decide +kernel
theorem dX8_score_9 : decode cX8_score 9 = .ok (.iconst 0, 1) := by decide +kernel
theorem dX8_score_10 : decode cX8_score 10 = .ok (.bipush 39, 2) := by decide +kernel
theorem dX8_score_12 : decode cX8_score 12 = .ok (.invokestatic 89, 3) := by decide +kernel
theorem dX8_score_15 : decode cX8_score 15 = .ok (.ifCond .ne 5, 3) := by decide +kernel
theorem dX8_score_18 : decode cX8_score 18 = .ok (.lconst 0, 1) := by decide +kernel
theorem dX8_score_19 : decode cX8_score 19 = .ok (.lreturn, 1) := by decide +kernel
theorem dX8_score_20 : decode cX8_score 20 = .ok (.aload_n 0, 1) := by decide +kernel
theorem dX8_score_21 : decode cX8_score 21 = .ok (.iload_n 1, 1) := by decide +kernel
theorem dX8_score_22 : decode cX8_score 22 = .ok (.iload_n 2, 1) := by decide +kernel
theorem dX8_score_23 : decode cX8_score 23 = .ok (.invokevirtual 219, 3) := by decide +kernel
theorem dX8_score_26 : decode cX8_score 26 = .ok (.aload_n 0, 1) := by decide +kernel
theorem dX8_score_27 : decode cX8_score 27 = .ok (.iconst 1, 1) := by decide +kernel
theorem dX8_score_28 : decode cX8_score 28 = .ok (.putfield 223, 3) := by decide +kernel
theorem dX8_score_31 : decode cX8_score 31 = .ok (.aload_n 0, 1) := by decide +kernel
theorem dX8_score_32 : decode cX8_score 32 = .ok (.getfield 72, 3) := by decide +kernel
theorem dX8_score_35 : decode cX8_score 35 = .ok (.iconst 0, 1) := by decide +kernel
theorem dX8_score_36 : decode cX8_score 36 = .ok (.aload_n 0, 1) := by decide +kernel
theorem dX8_score_37 : decode cX8_score 37 = .ok (.getfield 199, 3) := by decide +kernel
theorem dX8_score_40 : decode cX8_score 40 = .ok (.iastore, 1) := by decide +kernel
theorem dX8_score_41 : decode cX8_score 41 = .ok (.aload_n 0, 1) := by decide +kernel
theorem dX8_score_42 : decode cX8_score 42 = .ok (.getfield 72, 3) := by decide +kernel
theorem dX8_score_45 : decode cX8_score 45 = .ok (.iconst 1, 1) := by decide +kernel
theorem dX8_score_46 : decode cX8_score 46 = .ok (.aload_n 0, 1) := by decide +kernel
theorem dX8_score_47 : decode cX8_score 47 = .ok (.getfield 199, 3) := by decide +kernel
theorem dX8_score_50 : decode cX8_score 50 = .ok (.ifCond .ne 8, 3) := by decide +kernel
theorem dX8_score_53 : decode cX8_score 53 = .ok (.bipush (-9), 2) := by decide +kernel
theorem dX8_score_55 : decode cX8_score 55 = .ok (.goto 7, 3) := by decide +kernel
theorem dX8_score_58 : decode cX8_score 58 = .ok (.aload_n 0, 1) := by decide +kernel
theorem dX8_score_59 : decode cX8_score 59 = .ok (.getfield 196, 3) := by decide +kernel
theorem dX8_score_62 : decode cX8_score 62 = .ok (.iastore, 1) := by decide +kernel
theorem dX8_score_63 : decode cX8_score 63 = .ok (.aload_n 0, 1) := by decide +kernel
theorem dX8_score_64 : decode cX8_score 64 = .ok (.getfield 72, 3) := by decide +kernel
theorem dX8_score_67 : decode cX8_score 67 = .ok (.iconst 2, 1) := by decide +kernel
theorem dX8_score_68 : decode cX8_score 68 = .ok (.aload_n 0, 1) := by decide +kernel
theorem dX8_score_69 : decode cX8_score 69 = .ok (.getfield 167, 3) := by decide +kernel
theorem dX8_score_72 : decode cX8_score 72 = .ok (.iastore, 1) := by decide +kernel
theorem dX8_score_73 : decode cX8_score 73 = .ok (.aload_n 0, 1) := by decide +kernel
theorem dX8_score_74 : decode cX8_score 74 = .ok (.getfield 72, 3) := by decide +kernel
theorem dX8_score_77 : decode cX8_score 77 = .ok (.iconst 3, 1) := by decide +kernel
theorem dX8_score_78 : decode cX8_score 78 = .ok (.aload_n 0, 1) := by decide +kernel
theorem dX8_score_79 : decode cX8_score 79 = .ok (.getfield 202, 3) := by decide +kernel
theorem dX8_score_82 : decode cX8_score 82 = .ok (.iastore, 1) := by decide +kernel
theorem dX8_score_83 : decode cX8_score 83 = .ok (.aload_n 0, 1) := by decide +kernel
theorem dX8_score_84 : decode cX8_score 84 = .ok (.getfield 72, 3) := by decide +kernel
theorem dX8_score_87 : decode cX8_score 87 = .ok (.iconst 4, 1) := by decide +kernel
theorem dX8_score_88 : decode cX8_score 88 = .ok (.aload_n 0, 1) := by decide +kernel
theorem dX8_score_89 : decode cX8_score 89 = .ok (.getfield 170, 3) := by decide +kernel
theorem dX8_score_92 : decode cX8_score 92 = .ok (.iastore, 1) := by decide +kernel
theorem dX8_score_93 : decode cX8_score 93 = .ok (.aload_n 0, 1) := by decide +kernel
theorem dX8_score_94 : decode cX8_score 94 = .ok (.getfield 199, 3) := by decide +kernel
theorem dX8_score_97 : decode cX8_score 97 = .ok (.ifCond .ne 13, 3) := by decide +kernel
theorem dX8_score_100 : decode cX8_score 100 = .ok (.aload_n 0, 1) := by decide +kernel
theorem dX8_score_101 : decode cX8_score 101 = .ok (.getfield 192, 3) := by decide +kernel
theorem dX8_score_104 : decode cX8_score 104 = .ok (.invokestatic 113, 3) := by decide +kernel
theorem dX8_score_107 : decode cX8_score 107 = .ok (.goto 4, 3) := by decide +kernel
theorem dX8_score_110 : decode cX8_score 110 = .ok (.lconst 0, 1) := by decide +kernel
theorem dX8_score_111 : decode cX8_score 111 = .ok (.lreturn, 1) := by decide +kernel
theorem dX8_told_0 : decode cX8_told 0 = .ok (.iload_n 1, 1) := by decide +kernel
theorem dX8_told_1 : decode cX8_told 1 = .ok (.iconst 0, 1) := by decide +kernel
theorem dX8_told_2 : decode cX8_told 2 = .ok (.iconst 4, 1) := by decide +kernel
theorem dX8_told_3 : decode cX8_told 3 = .ok (.invokestatic 89, 3) := by decide +kernel
theorem dX8_told_6 : decode cX8_told 6 = .ok (.ifCond .ne 5, 3) := by decide +kernel
theorem dX8_told_9 : decode cX8_told 9 = .ok (.iconst (-1), 1) := by decide +kernel
theorem dX8_told_10 : decode cX8_told 10 = .ok (.ireturn, 1) := by decide +kernel
theorem dX8_told_11 : decode cX8_told 11 = .ok (.aload_n 0, 1) := by decide +kernel
theorem dX8_told_12 : decode cX8_told 12 = .ok (.getfield 223, 3) := by decide +kernel
theorem dX8_told_15 : decode cX8_told 15 = .ok (.ifCond .eq 12, 3) := by decide +kernel
theorem dX8_told_18 : decode cX8_told 18 = .ok (.aload_n 0, 1) := by decide +kernel
theorem dX8_told_19 : decode cX8_told 19 = .ok (.getfield 72, 3) := by decide +kernel
theorem dX8_told_22 : decode cX8_told 22 = .ok (.iload_n 1, 1) := by decide +kernel
theorem dX8_told_23 : decode cX8_told 23 = .ok (.iaload, 1) := by decide +kernel
theorem dX8_told_24 : decode cX8_told 24 = .ok (.goto 14, 3) := by decide +kernel
theorem dX8_told_27 : decode cX8_told 27 = .ok (.iload_n 1, 1) := by decide +kernel
theorem dX8_told_28 : decode cX8_told 28 = .ok (.iconst 1, 1) := by decide +kernel
theorem dX8_told_29 : decode cX8_told 29 = .ok (.if_icmp .ne 8, 3) := by decide +kernel
theorem dX8_told_32 : decode cX8_told 32 = .ok (.bipush (-9), 2) := by decide +kernel
theorem dX8_told_34 : decode cX8_told 34 = .ok (.goto 4, 3) := by decide +kernel
theorem dX8_told_37 : decode cX8_told 37 = .ok (.iconst 0, 1) := by decide +kernel
theorem dX8_told_38 : decode cX8_told 38 = .ok (.ireturn, 1) := by decide +kernel
theorem dX8_about_0 : decode cX8_about 0 = .ok (.aload_n 0, 1) := by decide +kernel
theorem dX8_about_1 : decode cX8_about 1 = .ok (.iload_n 1, 1) := by decide +kernel
theorem dX8_about_2 : decode cX8_about 2 = .ok (.invokevirtual 127, 3) := by decide +kernel
theorem dX8_about_5 : decode cX8_about 5 = .ok (.ifCond .eq 13, 3) := by decide +kernel
theorem dX8_about_8 : decode cX8_about 8 = .ok (.iload_n 2, 1) := by decide +kernel
theorem dX8_about_9 : decode cX8_about 9 = .ok (.iconst 0, 1) := by decide +kernel
theorem dX8_about_10 : decode cX8_about 10 = .ok (.bipush 11, 2) := by decide +kernel
theorem dX8_about_12 : decode cX8_about 12 = .ok (.invokestatic 89, 3) := by decide +kernel
theorem dX8_about_15 : decode cX8_about 15 = .ok (.ifCond .ne 5, 3) := by decide +kernel
theorem dX8_about_18 : decode cX8_about 18 = .ok (.iconst (-1), 1) := by decide +kernel
theorem dX8_about_19 : decode cX8_about 19 = .ok (.ireturn, 1) := by decide +kernel
theorem dX8_about_20 : decode cX8_about 20 = .ok (.iload_n 2, 1) := by decide +kernel
theorem dX8_about_21 : decode cX8_about 21 = .ok (.iconst 3, 1) := by decide +kernel
theorem dX8_about_22 : decode cX8_about 22 = .ok (.if_icmp .ge 37, 3) := by decide +kernel
theorem dX8_about_25 : decode cX8_about 25 = .ok (.iload_n 2, 1) := by decide +kernel
theorem dX8_about_26 : decode cX8_about 26 = .ok (.ifCond .ne 12, 3) := by decide +kernel
theorem dX8_about_29 : decode cX8_about 29 = .ok (.aload_n 0, 1) := by decide +kernel
theorem dX8_about_30 : decode cX8_about 30 = .ok (.getfield 27, 3) := by decide +kernel
theorem dX8_about_33 : decode cX8_about 33 = .ok (.iload_n 1, 1) := by decide +kernel
theorem dX8_about_34 : decode cX8_about 34 = .ok (.iaload, 1) := by decide +kernel
theorem dX8_about_35 : decode cX8_about 35 = .ok (.goto 23, 3) := by decide +kernel
theorem dX8_about_38 : decode cX8_about 38 = .ok (.iload_n 2, 1) := by decide +kernel
theorem dX8_about_39 : decode cX8_about 39 = .ok (.iconst 1, 1) := by decide +kernel
theorem dX8_about_40 : decode cX8_about 40 = .ok (.if_icmp .ne 12, 3) := by decide +kernel
theorem dX8_about_43 : decode cX8_about 43 = .ok (.aload_n 0, 1) := by decide +kernel
theorem dX8_about_44 : decode cX8_about 44 = .ok (.getfield 39, 3) := by decide +kernel
theorem dX8_about_47 : decode cX8_about 47 = .ok (.iload_n 1, 1) := by decide +kernel
theorem dX8_about_48 : decode cX8_about 48 = .ok (.iaload, 1) := by decide +kernel
theorem dX8_about_49 : decode cX8_about 49 = .ok (.goto 9, 3) := by decide +kernel
theorem dX8_about_52 : decode cX8_about 52 = .ok (.aload_n 0, 1) := by decide +kernel
theorem dX8_about_53 : decode cX8_about 53 = .ok (.getfield 48, 3) := by decide +kernel
theorem dX8_about_56 : decode cX8_about 56 = .ok (.iload_n 1, 1) := by decide +kernel
theorem dX8_about_57 : decode cX8_about 57 = .ok (.iaload, 1) := by decide +kernel
theorem dX8_about_58 : decode cX8_about 58 = .ok (.ireturn, 1) := by decide +kernel
theorem dX8_about_59 : decode cX8_about 59 = .ok (.iload_n 2, 1) := by decide +kernel
theorem dX8_about_60 : decode cX8_about 60 = .ok (.iconst 3, 1) := by decide +kernel
theorem dX8_about_61 : decode cX8_about 61 = .ok (.if_icmp .ne 18, 3) := by decide +kernel
theorem dX8_about_64 : decode cX8_about 64 = .ok (.aload_n 0, 1) := by decide +kernel
theorem dX8_about_65 : decode cX8_about 65 = .ok (.getfield 57, 3) := by decide +kernel
theorem dX8_about_68 : decode cX8_about 68 = .ok (.iload_n 1, 1) := by decide +kernel
theorem dX8_about_69 : decode cX8_about 69 = .ok (.baload, 1) := by decide +kernel
theorem dX8_about_70 : decode cX8_about 70 = .ok (.ifCond .eq 7, 3) := by decide +kernel
theorem dX8_about_73 : decode cX8_about 73 = .ok (.iconst 1, 1) := by decide +kernel
theorem dX8_about_74 : decode cX8_about 74 = .ok (.goto 4, 3) := by decide +kernel
theorem dX8_about_77 : decode cX8_about 77 = .ok (.iconst 0, 1) := by decide +kernel
theorem dX8_about_78 : decode cX8_about 78 = .ok (.ireturn, 1) := by decide +kernel
theorem dX8_about_79 : decode cX8_about 79 = .ok (.iload_n 2, 1) := by decide +kernel
theorem dX8_about_80 : decode cX8_about 80 = .ok (.bipush 8, 2) := by decide +kernel
theorem dX8_about_82 : decode cX8_about 82 = .ok (.if_icmp .ge 18, 3) := by decide +kernel
theorem dX8_about_85 : decode cX8_about 85 = .ok (.aload_n 0, 1) := by decide +kernel
theorem dX8_about_86 : decode cX8_about 86 = .ok (.getfield 51, 3) := by decide +kernel
theorem dX8_about_89 : decode cX8_about 89 = .ok (.iload_n 1, 1) := by decide +kernel
theorem dX8_about_90 : decode cX8_about 90 = .ok (.iaload, 1) := by decide +kernel
theorem dX8_about_91 : decode cX8_about 91 = .ok (.iload_n 2, 1) := by decide +kernel
theorem dX8_about_92 : decode cX8_about 92 = .ok (.iconst 4, 1) := by decide +kernel
theorem dX8_about_93 : decode cX8_about 93 = .ok (.isub, 1) := by decide +kernel
theorem dX8_about_94 : decode cX8_about 94 = .ok (.ishr, 1) := by decide +kernel
theorem dX8_about_95 : decode cX8_about 95 = .ok (.iconst 1, 1) := by decide +kernel
theorem dX8_about_96 : decode cX8_about 96 = .ok (.iand, 1) := by decide +kernel
theorem dX8_about_97 : decode cX8_about 97 = .ok (.goto 16, 3) := by decide +kernel
theorem dX8_about_100 : decode cX8_about 100 = .ok (.aload_n 0, 1) := by decide +kernel
theorem dX8_about_101 : decode cX8_about 101 = .ok (.getfield 54, 3) := by decide +kernel
theorem dX8_about_104 : decode cX8_about 104 = .ok (.iload_n 1, 1) := by decide +kernel
theorem dX8_about_105 : decode cX8_about 105 = .ok (.iaload, 1) := by decide +kernel
theorem dX8_about_106 : decode cX8_about 106 = .ok (.iload_n 2, 1) := by decide +kernel
theorem dX8_about_107 : decode cX8_about 107 = .ok (.bipush 8, 2) := by decide +kernel
theorem dX8_about_109 : decode cX8_about 109 = .ok (.isub, 1) := by decide +kernel
theorem dX8_about_110 : decode cX8_about 110 = .ok (.ishr, 1) := by decide +kernel
theorem dX8_about_111 : decode cX8_about 111 = .ok (.iconst 1, 1) := by decide +kernel
theorem dX8_about_112 : decode cX8_about 112 = .ok (.iand, 1) := by decide +kernel
theorem dX8_about_113 : decode cX8_about 113 = .ok (.ireturn, 1) := by decide +kernel
theorem dX8_partOf_0 : decode cX8_partOf 0 = .ok (.aload_n 0, 1) := by decide +kernel
theorem dX8_partOf_1 : decode cX8_partOf 1 = .ok (.iload_n 1, 1) := by decide +kernel
theorem dX8_partOf_2 : decode cX8_partOf 2 = .ok (.invokevirtual 127, 3) := by decide +kernel
theorem dX8_partOf_5 : decode cX8_partOf 5 = .ok (.ifCond .eq 33, 3) := by decide +kernel
theorem dX8_partOf_8 : decode cX8_partOf 8 = .ok (.iload_n 2, 1) := by decide +kernel
theorem dX8_partOf_9 : decode cX8_partOf 9 = .ok (.iconst 0, 1) := by decide +kernel
theorem dX8_partOf_10 : decode cX8_partOf 10 = .ok (.aload_n 0, 1) := by decide +kernel
theorem dX8_partOf_11 : decode cX8_partOf 11 = .ok (.getfield 39, 3) := by decide +kernel
theorem dX8_partOf_14 : decode cX8_partOf 14 = .ok (.iload_n 1, 1) := by decide +kernel
theorem dX8_partOf_15 : decode cX8_partOf 15 = .ok (.iaload, 1) := by decide +kernel
theorem dX8_partOf_16 : decode cX8_partOf 16 = .ok (.iconst 1, 1) := by decide +kernel
theorem dX8_partOf_17 : decode cX8_partOf 17 = .ok (.isub, 1) := by decide +kernel
theorem dX8_partOf_18 : decode cX8_partOf 18 = .ok (.invokestatic 89, 3) := by decide +kernel
theorem dX8_partOf_21 : decode cX8_partOf 21 = .ok (.ifCond .eq 17, 3) := by decide +kernel
theorem dX8_partOf_24 : decode cX8_partOf 24 = .ok (.aload_n 0, 1) := by decide +kernel
theorem dX8_partOf_25 : decode cX8_partOf 25 = .ok (.getfield 42, 3) := by decide +kernel
theorem dX8_partOf_28 : decode cX8_partOf 28 = .ok (.bipush 8, 2) := by decide +kernel
theorem dX8_partOf_30 : decode cX8_partOf 30 = .ok (.iload_n 1, 1) := by decide +kernel
theorem dX8_partOf_31 : decode cX8_partOf 31 = .ok (.imul, 1) := by decide +kernel
theorem dX8_partOf_32 : decode cX8_partOf 32 = .ok (.iload_n 2, 1) := by decide +kernel
theorem dX8_partOf_33 : decode cX8_partOf 33 = .ok (.iadd, 1) := by decide +kernel
theorem dX8_partOf_34 : decode cX8_partOf 34 = .ok (.iaload, 1) := by decide +kernel
theorem dX8_partOf_35 : decode cX8_partOf 35 = .ok (.goto 4, 3) := by decide +kernel
theorem dX8_partOf_38 : decode cX8_partOf 38 = .ok (.iconst (-1), 1) := by decide +kernel
theorem dX8_partOf_39 : decode cX8_partOf 39 = .ok (.ireturn, 1) := by decide +kernel
theorem dX8_top_0 : decode cX8_top 0 = .ok (.aload_n 0, 1) := by decide +kernel
theorem dX8_top_1 : decode cX8_top 1 = .ok (.iload_n 1, 1) := by decide +kernel
theorem dX8_top_2 : decode cX8_top 2 = .ok (.invokevirtual 127, 3) := by decide +kernel
theorem dX8_top_5 : decode cX8_top 5 = .ok (.ifCond .eq 13, 3) := by decide +kernel
theorem dX8_top_8 : decode cX8_top 8 = .ok (.iload_n 2, 1) := by decide +kernel
theorem dX8_top_9 : decode cX8_top 9 = .ok (.iconst 0, 1) := by decide +kernel
theorem dX8_top_10 : decode cX8_top 10 = .ok (.bipush 39, 2) := by decide +kernel
theorem dX8_top_12 : decode cX8_top 12 = .ok (.invokestatic 89, 3) := by decide +kernel
theorem dX8_top_15 : decode cX8_top 15 = .ok (.ifCond .ne 5, 3) := by decide +kernel
theorem dX8_top_18 : decode cX8_top 18 = .ok (.iconst (-1), 1) := by decide +kernel
theorem dX8_top_19 : decode cX8_top 19 = .ok (.ireturn, 1) := by decide +kernel
theorem dX8_top_20 : decode cX8_top 20 = .ok (.iconst 0, 1) := by decide +kernel
theorem dX8_top_21 : decode cX8_top 21 = .ok (.istore_n 3, 1) := by decide +kernel
theorem dX8_top_22 : decode cX8_top 22 = .ok (.iload_n 3, 1) := by decide +kernel
theorem dX8_top_23 : decode cX8_top 23 = .ok (.bipush 40, 2) := by decide +kernel
theorem dX8_top_25 : decode cX8_top 25 = .ok (.if_icmp .ge 43, 3) := by decide +kernel
theorem dX8_top_28 : decode cX8_top 28 = .ok (.aload_n 0, 1) := by decide +kernel
theorem dX8_top_29 : decode cX8_top 29 = .ok (.iload_n 1, 1) := by decide +kernel
theorem dX8_top_30 : decode cX8_top 30 = .ok (.iload_n 3, 1) := by decide +kernel
theorem dX8_top_31 : decode cX8_top 31 = .ok (.invokevirtual 219, 3) := by decide +kernel
theorem dX8_top_34 : decode cX8_top 34 = .ok (.aload_n 0, 1) := by decide +kernel
theorem dX8_top_35 : decode cX8_top 35 = .ok (.getfield 75, 3) := by decide +kernel
theorem dX8_top_38 : decode cX8_top 38 = .ok (.iload_n 3, 1) := by decide +kernel
theorem dX8_top_39 : decode cX8_top 39 = .ok (.aload_n 0, 1) := by decide +kernel
theorem dX8_top_40 : decode cX8_top 40 = .ok (.getfield 199, 3) := by decide +kernel
theorem dX8_top_43 : decode cX8_top 43 = .ok (.ifCond .eq 7, 3) := by decide +kernel
theorem dX8_top_46 : decode cX8_top 46 = .ok (.iconst 1, 1) := by decide +kernel
theorem dX8_top_47 : decode cX8_top 47 = .ok (.goto 4, 3) := by decide +kernel
theorem dX8_top_50 : decode cX8_top 50 = .ok (.iconst 0, 1) := by decide +kernel
theorem dX8_top_51 : decode cX8_top 51 = .ok (.bastore, 1) := by decide +kernel
theorem dX8_top_52 : decode cX8_top 52 = .ok (.aload_n 0, 1) := by decide +kernel
theorem dX8_top_53 : decode cX8_top 53 = .ok (.getfield 78, 3) := by decide +kernel
theorem dX8_top_56 : decode cX8_top 56 = .ok (.iload_n 3, 1) := by decide +kernel
theorem dX8_top_57 : decode cX8_top 57 = .ok (.aload_n 0, 1) := by decide +kernel
theorem dX8_top_58 : decode cX8_top 58 = .ok (.getfield 192, 3) := by decide +kernel
theorem dX8_top_61 : decode cX8_top 61 = .ok (.dastore, 1) := by decide +kernel
theorem dX8_top_62 : decode cX8_top 62 = .ok (.iinc 3 1, 3) := by decide +kernel
theorem dX8_top_65 : decode cX8_top 65 = .ok (.goto (-43), 3) := by decide +kernel
theorem dX8_top_68 : decode cX8_top 68 = .ok (.iconst 0, 1) := by decide +kernel
theorem dX8_top_69 : decode cX8_top 69 = .ok (.istore_n 3, 1) := by decide +kernel
theorem dX8_top_70 : decode cX8_top 70 = .ok (.iload_n 3, 1) := by decide +kernel
theorem dX8_top_71 : decode cX8_top 71 = .ok (.bipush 40, 2) := by decide +kernel
theorem dX8_top_73 : decode cX8_top 73 = .ok (.if_icmp .ge 194, 3) := by decide +kernel
theorem dX8_top_76 : decode cX8_top 76 = .ok (.iconst 0, 1) := by decide +kernel
theorem dX8_top_77 : decode cX8_top 77 = .ok (.istore 4, 2) := by decide +kernel
theorem dX8_top_79 : decode cX8_top 79 = .ok (.iconst 0, 1) := by decide +kernel
theorem dX8_top_80 : decode cX8_top 80 = .ok (.istore 5, 2) := by decide +kernel
theorem dX8_top_82 : decode cX8_top 82 = .ok (.iload 5, 2) := by decide +kernel
theorem dX8_top_84 : decode cX8_top 84 = .ok (.bipush 40, 2) := by decide +kernel
theorem dX8_top_86 : decode cX8_top 86 = .ok (.if_icmp .ge 167, 3) := by decide +kernel
theorem dX8_top_89 : decode cX8_top 89 = .ok (.aload_n 0, 1) := by decide +kernel
theorem dX8_top_90 : decode cX8_top 90 = .ok (.getfield 75, 3) := by decide +kernel
theorem dX8_top_93 : decode cX8_top 93 = .ok (.iload_n 3, 1) := by decide +kernel
theorem dX8_top_94 : decode cX8_top 94 = .ok (.baload, 1) := by decide +kernel
theorem dX8_top_95 : decode cX8_top 95 = .ok (.ifCond .eq 13, 3) := by decide +kernel
theorem dX8_top_98 : decode cX8_top 98 = .ok (.aload_n 0, 1) := by decide +kernel
theorem dX8_top_99 : decode cX8_top 99 = .ok (.getfield 75, 3) := by decide +kernel
theorem dX8_top_102 : decode cX8_top 102 = .ok (.iload 5, 2) := by decide +kernel
theorem dX8_top_104 : decode cX8_top 104 = .ok (.baload, 1) := by decide +kernel
theorem dX8_top_105 : decode cX8_top 105 = .ok (.ifCond .ne 39, 3) := by decide +kernel
theorem dX8_top_108 : decode cX8_top 108 = .ok (.aload_n 0, 1) := by decide +kernel
theorem dX8_top_109 : decode cX8_top 109 = .ok (.getfield 75, 3) := by decide +kernel
theorem dX8_top_112 : decode cX8_top 112 = .ok (.iload_n 3, 1) := by decide +kernel
theorem dX8_top_113 : decode cX8_top 113 = .ok (.baload, 1) := by decide +kernel
theorem dX8_top_114 : decode cX8_top 114 = .ok (.ifCond .ne 34, 3) := by decide +kernel
theorem dX8_top_117 : decode cX8_top 117 = .ok (.aload_n 0, 1) := by decide +kernel
theorem dX8_top_118 : decode cX8_top 118 = .ok (.getfield 75, 3) := by decide +kernel
theorem dX8_top_121 : decode cX8_top 121 = .ok (.iload 5, 2) := by decide +kernel
theorem dX8_top_123 : decode cX8_top 123 = .ok (.baload, 1) := by decide +kernel
theorem dX8_top_124 : decode cX8_top 124 = .ok (.ifCond .ne 24, 3) := by decide +kernel
theorem dX8_top_127 : decode cX8_top 127 = .ok (.aload_n 0, 1) := by decide +kernel
theorem dX8_top_128 : decode cX8_top 128 = .ok (.getfield 78, 3) := by decide +kernel
theorem dX8_top_131 : decode cX8_top 131 = .ok (.iload 5, 2) := by decide +kernel
theorem dX8_top_133 : decode cX8_top 133 = .ok (.daload, 1) := by decide +kernel
theorem dX8_top_134 : decode cX8_top 134 = .ok (.aload_n 0, 1) := by decide +kernel
theorem dX8_top_135 : decode cX8_top 135 = .ok (.getfield 78, 3) := by decide +kernel
theorem dX8_top_138 : decode cX8_top 138 = .ok (.iload_n 3, 1) := by decide +kernel
theorem dX8_top_139 : decode cX8_top 139 = .ok (.daload, 1) := by decide +kernel
theorem dX8_top_140 : decode cX8_top 140 = .ok (.dcmp .l, 1) := by decide +kernel
theorem dX8_top_141 : decode cX8_top 141 = .ok (.ifCond .ne 7, 3) := by decide +kernel
theorem dX8_top_144 : decode cX8_top 144 = .ok (.iconst 1, 1) := by decide +kernel
theorem dX8_top_145 : decode cX8_top 145 = .ok (.goto 4, 3) := by decide +kernel
theorem dX8_top_148 : decode cX8_top 148 = .ok (.iconst 0, 1) := by decide +kernel
theorem dX8_top_149 : decode cX8_top 149 = .ok (.istore 6, 2) := by decide +kernel
theorem dX8_top_151 : decode cX8_top 151 = .ok (.iload 6, 2) := by decide +kernel
theorem dX8_top_153 : decode cX8_top 153 = .ok (.ifCond .eq 17, 3) := by decide +kernel
theorem dX8_top_156 : decode cX8_top 156 = .ok (.iload 5, 2) := by decide +kernel
theorem dX8_top_158 : decode cX8_top 158 = .ok (.iload_n 3, 1) := by decide +kernel
theorem dX8_top_159 : decode cX8_top 159 = .ok (.if_icmp .ge 7, 3) := by decide +kernel
theorem dX8_top_162 : decode cX8_top 162 = .ok (.iconst 1, 1) := by decide +kernel
theorem dX8_top_163 : decode cX8_top 163 = .ok (.goto 67, 3) := by decide +kernel
theorem dX8_top_166 : decode cX8_top 166 = .ok (.iconst 0, 1) := by decide +kernel
theorem dX8_top_167 : decode cX8_top 167 = .ok (.goto 63, 3) := by decide +kernel
theorem dX8_top_170 : decode cX8_top 170 = .ok (.aload_n 0, 1) := by decide +kernel
theorem dX8_top_171 : decode cX8_top 171 = .ok (.getfield 75, 3) := by decide +kernel
theorem dX8_top_174 : decode cX8_top 174 = .ok (.iload_n 3, 1) := by decide +kernel
theorem dX8_top_175 : decode cX8_top 175 = .ok (.baload, 1) := by decide +kernel
theorem dX8_top_176 : decode cX8_top 176 = .ok (.ifCond .eq 13, 3) := by decide +kernel
theorem dX8_top_179 : decode cX8_top 179 = .ok (.aload_n 0, 1) := by decide +kernel
theorem dX8_top_180 : decode cX8_top 180 = .ok (.getfield 75, 3) := by decide +kernel
theorem dX8_top_183 : decode cX8_top 183 = .ok (.iload 5, 2) := by decide +kernel
theorem dX8_top_185 : decode cX8_top 185 = .ok (.baload, 1) := by decide +kernel
theorem dX8_top_186 : decode cX8_top 186 = .ok (.ifCond .eq 39, 3) := by decide +kernel
theorem dX8_top_189 : decode cX8_top 189 = .ok (.aload_n 0, 1) := by decide +kernel
theorem dX8_top_190 : decode cX8_top 190 = .ok (.getfield 75, 3) := by decide +kernel
theorem dX8_top_193 : decode cX8_top 193 = .ok (.iload_n 3, 1) := by decide +kernel
theorem dX8_top_194 : decode cX8_top 194 = .ok (.baload, 1) := by decide +kernel
theorem dX8_top_195 : decode cX8_top 195 = .ok (.ifCond .ne 34, 3) := by decide +kernel
theorem dX8_top_198 : decode cX8_top 198 = .ok (.aload_n 0, 1) := by decide +kernel
theorem dX8_top_199 : decode cX8_top 199 = .ok (.getfield 75, 3) := by decide +kernel
theorem dX8_top_202 : decode cX8_top 202 = .ok (.iload 5, 2) := by decide +kernel
theorem dX8_top_204 : decode cX8_top 204 = .ok (.baload, 1) := by decide +kernel
theorem dX8_top_205 : decode cX8_top 205 = .ok (.ifCond .ne 24, 3) := by decide +kernel
theorem dX8_top_208 : decode cX8_top 208 = .ok (.aload_n 0, 1) := by decide +kernel
theorem dX8_top_209 : decode cX8_top 209 = .ok (.getfield 78, 3) := by decide +kernel
theorem dX8_top_212 : decode cX8_top 212 = .ok (.iload 5, 2) := by decide +kernel
theorem dX8_top_214 : decode cX8_top 214 = .ok (.daload, 1) := by decide +kernel
theorem dX8_top_215 : decode cX8_top 215 = .ok (.aload_n 0, 1) := by decide +kernel
theorem dX8_top_216 : decode cX8_top 216 = .ok (.getfield 78, 3) := by decide +kernel
theorem dX8_top_219 : decode cX8_top 219 = .ok (.iload_n 3, 1) := by decide +kernel
theorem dX8_top_220 : decode cX8_top 220 = .ok (.daload, 1) := by decide +kernel
theorem dX8_top_221 : decode cX8_top 221 = .ok (.dcmp .l, 1) := by decide +kernel
theorem dX8_top_222 : decode cX8_top 222 = .ok (.ifCond .le 7, 3) := by decide +kernel
theorem dX8_top_225 : decode cX8_top 225 = .ok (.iconst 1, 1) := by decide +kernel
theorem dX8_top_226 : decode cX8_top 226 = .ok (.goto 4, 3) := by decide +kernel
theorem dX8_top_229 : decode cX8_top 229 = .ok (.iconst 0, 1) := by decide +kernel
theorem dX8_top_230 : decode cX8_top 230 = .ok (.istore 7, 2) := by decide +kernel
theorem dX8_top_232 : decode cX8_top 232 = .ok (.iload 4, 2) := by decide +kernel
theorem dX8_top_234 : decode cX8_top 234 = .ok (.iload 7, 2) := by decide +kernel
theorem dX8_top_236 : decode cX8_top 236 = .ok (.ifCond .eq 7, 3) := by decide +kernel
theorem dX8_top_239 : decode cX8_top 239 = .ok (.iconst 1, 1) := by decide +kernel
theorem dX8_top_240 : decode cX8_top 240 = .ok (.goto 4, 3) := by decide +kernel
theorem dX8_top_243 : decode cX8_top 243 = .ok (.iconst 0, 1) := by decide +kernel
theorem dX8_top_244 : decode cX8_top 244 = .ok (.iadd, 1) := by decide +kernel
theorem dX8_top_245 : decode cX8_top 245 = .ok (.istore 4, 2) := by decide +kernel
theorem dX8_top_247 : decode cX8_top 247 = .ok (.iinc 5 1, 3) := by decide +kernel
theorem dX8_top_250 : decode cX8_top 250 = .ok (.goto (-168), 3) := by decide +kernel
theorem dX8_top_253 : decode cX8_top 253 = .ok (.iload 4, 2) := by decide +kernel
theorem dX8_top_255 : decode cX8_top 255 = .ok (.iload_n 2, 1) := by decide +kernel
theorem dX8_top_256 : decode cX8_top 256 = .ok (.if_icmp .ne 5, 3) := by decide +kernel
theorem dX8_top_259 : decode cX8_top 259 = .ok (.iload_n 3, 1) := by decide +kernel
theorem dX8_top_260 : decode cX8_top 260 = .ok (.ireturn, 1) := by decide +kernel
theorem dX8_top_261 : decode cX8_top 261 = .ok (.iinc 3 1, 3) := by decide +kernel
theorem dX8_top_264 : decode cX8_top 264 = .ok (.goto (-194), 3) := by decide +kernel
theorem dX8_top_267 : decode cX8_top 267 = .ok (.iconst (-1), 1) := by decide +kernel
theorem dX8_top_268 : decode cX8_top 268 = .ok (.ireturn, 1) := by decide +kernel
theorem dX8_forget_0 : decode cX8_forget 0 = .ok (.aload_n 0, 1) := by decide +kernel
theorem dX8_forget_1 : decode cX8_forget 1 = .ok (.getfield 119, 3) := by decide +kernel
theorem dX8_forget_4 : decode cX8_forget 4 = .ok (.istore_n 1, 1) := by decide +kernel
theorem dX8_forget_5 : decode cX8_forget 5 = .ok (.aload_n 0, 1) := by decide +kernel
theorem dX8_forget_6 : decode cX8_forget 6 = .ok (.iconst 0, 1) := by decide +kernel
theorem dX8_forget_7 : decode cX8_forget 7 = .ok (.putfield 119, 3) := by decide +kernel
theorem dX8_forget_10 : decode cX8_forget 10 = .ok (.iload_n 1, 1) := by decide +kernel
theorem dX8_forget_11 : decode cX8_forget 11 = .ok (.ireturn, 1) := by decide +kernel
theorem dJxe99ae_isNaN_b9ae7_0 : decode cJxe99ae_isNaN_b9ae7 0 = .ok (.dload_n 0, 1) := by decide +kernel
theorem dJxe99ae_isNaN_b9ae7_1 : decode cJxe99ae_isNaN_b9ae7 1 = .ok (.dload_n 0, 1) := by decide +kernel
theorem dJxe99ae_isNaN_b9ae7_2 : decode cJxe99ae_isNaN_b9ae7 2 = .ok (.dcmp .l, 1) := by decide +kernel
theorem dJxe99ae_isNaN_b9ae7_3 : decode cJxe99ae_isNaN_b9ae7 3 = .ok (.ifCond .eq 7, 3) := by decide +kernel
theorem dJxe99ae_isNaN_b9ae7_6 : decode cJxe99ae_isNaN_b9ae7 6 = .ok (.iconst 1, 1) := by decide +kernel
theorem dJxe99ae_isNaN_b9ae7_7 : decode cJxe99ae_isNaN_b9ae7 7 = .ok (.goto 4, 3) := by decide +kernel
theorem dJxe99ae_isNaN_b9ae7_10 : decode cJxe99ae_isNaN_b9ae7 10 = .ok (.iconst 0, 1) := by decide +kernel
theorem dJxe99ae_isNaN_b9ae7_11 : decode cJxe99ae_isNaN_b9ae7 11 = .ok (.ireturn, 1) := by decide +kernel
theorem dJxe99ae_doubleToLongBits_ccdee_0 : decode cJxe99ae_doubleToLongBits_ccdee 0 = .ok (.dload_n 0, 1) := by decide +kernel
theorem dJxe99ae_doubleToLongBits_ccdee_1 : decode cJxe99ae_doubleToLongBits_ccdee 1 = .ok (.invokestatic 122, 3) := by decide +kernel
theorem dJxe99ae_doubleToLongBits_ccdee_4 : decode cJxe99ae_doubleToLongBits_ccdee 4 = .ok (.ifCond .ne 8, 3) := by decide +kernel
theorem dJxe99ae_doubleToLongBits_ccdee_7 : decode cJxe99ae_doubleToLongBits_ccdee 7 = .ok (.dload_n 0, 1) := by decide +kernel
theorem dJxe99ae_doubleToLongBits_ccdee_8 : decode cJxe99ae_doubleToLongBits_ccdee 8 = .ok (.invokestatic 134, 3) := by decide +kernel
theorem dJxe99ae_doubleToLongBits_ccdee_11 : decode cJxe99ae_doubleToLongBits_ccdee 11 = .ok (.lreturn, 1) := by decide +kernel
theorem dJxe99ae_doubleToLongBits_ccdee_12 : decode cJxe99ae_doubleToLongBits_ccdee 12 = .ok (.ldc2_w 137, 3) := by decide +kernel
theorem dJxe99ae_doubleToLongBits_ccdee_15 : decode cJxe99ae_doubleToLongBits_ccdee 15 = .ok (.lreturn, 1) := by decide +kernel
theorem dL_law_0 : decode cL_law 0 = .ok (.new 7, 3) := by decide +kernel
theorem dL_law_3 : decode cL_law 3 = .ok (.dup, 1) := by decide +kernel
theorem dL_law_4 : decode cL_law 4 = .ok (.invokespecial 9, 3) := by decide +kernel
theorem dL_law_7 : decode cL_law 7 = .ok (.astore_n 1, 1) := by decide +kernel
theorem dL_law_8 : decode cL_law 8 = .ok (.new 10, 3) := by decide +kernel
theorem dL_law_11 : decode cL_law 11 = .ok (.dup, 1) := by decide +kernel
theorem dL_law_12 : decode cL_law 12 = .ok (.invokespecial 12, 3) := by decide +kernel
theorem dL_law_15 : decode cL_law 15 = .ok (.astore_n 2, 1) := by decide +kernel
theorem dL_law_16 : decode cL_law 16 = .ok (.iconst 0, 1) := by decide +kernel
theorem dL_law_17 : decode cL_law 17 = .ok (.istore_n 3, 1) := by decide +kernel
theorem dL_law_18 : decode cL_law 18 = .ok (.iload_n 3, 1) := by decide +kernel
theorem dL_law_19 : decode cL_law 19 = .ok (.aload_n 0, 1) := by decide +kernel
theorem dL_law_20 : decode cL_law 20 = .ok (.arraylength, 1) := by decide +kernel
theorem dL_law_21 : decode cL_law 21 = .ok (.bipush 8, 2) := by decide +kernel
theorem dL_law_23 : decode cL_law 23 = .ok (.isub, 1) := by decide +kernel
theorem dL_law_24 : decode cL_law 24 = .ok (.if_icmp .gt 674, 3) := by decide +kernel
theorem dL_law_27 : decode cL_law 27 = .ok (.aload_n 0, 1) := by decide +kernel
theorem dL_law_28 : decode cL_law 28 = .ok (.iload_n 3, 1) := by decide +kernel
theorem dL_law_29 : decode cL_law 29 = .ok (.iaload, 1) := by decide +kernel
theorem dL_law_30 : decode cL_law 30 = .ok (.bipush 15, 2) := by decide +kernel
theorem dL_law_32 : decode cL_law 32 = .ok (.iand, 1) := by decide +kernel
theorem dL_law_33 : decode cL_law 33 = .ok (.tableswitch 659 0 13 #[71, 124, 197, 260, 284, 317, 444, 477, 511, 534, 567, 600, 633, 646], 71) := by decide +kernel
theorem dL_law_104 : decode cL_law 104 = .ok (.aload_n 1, 1) := by decide +kernel
theorem dL_law_105 : decode cL_law 105 = .ok (.aload_n 0, 1) := by decide +kernel
theorem dL_law_106 : decode cL_law 106 = .ok (.iload_n 3, 1) := by decide +kernel
theorem dL_law_107 : decode cL_law 107 = .ok (.iconst 1, 1) := by decide +kernel
theorem dL_law_108 : decode cL_law 108 = .ok (.iadd, 1) := by decide +kernel
theorem dL_law_109 : decode cL_law 109 = .ok (.iaload, 1) := by decide +kernel
theorem dL_law_110 : decode cL_law 110 = .ok (.aload_n 0, 1) := by decide +kernel
theorem dL_law_111 : decode cL_law 111 = .ok (.iload_n 3, 1) := by decide +kernel
theorem dL_law_112 : decode cL_law 112 = .ok (.iconst 2, 1) := by decide +kernel
theorem dL_law_113 : decode cL_law 113 = .ok (.iadd, 1) := by decide +kernel
theorem dL_law_114 : decode cL_law 114 = .ok (.iaload, 1) := by decide +kernel
theorem dL_law_115 : decode cL_law 115 = .ok (.aload_n 0, 1) := by decide +kernel
theorem dL_law_116 : decode cL_law 116 = .ok (.iload_n 3, 1) := by decide +kernel
theorem dL_law_117 : decode cL_law 117 = .ok (.iconst 3, 1) := by decide +kernel
theorem dL_law_118 : decode cL_law 118 = .ok (.iadd, 1) := by decide +kernel
theorem dL_law_119 : decode cL_law 119 = .ok (.iaload, 1) := by decide +kernel
theorem dL_law_120 : decode cL_law 120 = .ok (.aload_n 0, 1) := by decide +kernel
theorem dL_law_121 : decode cL_law 121 = .ok (.iload_n 3, 1) := by decide +kernel
theorem dL_law_122 : decode cL_law 122 = .ok (.iconst 4, 1) := by decide +kernel
theorem dL_law_123 : decode cL_law 123 = .ok (.iadd, 1) := by decide +kernel
theorem dL_law_124 : decode cL_law 124 = .ok (.iaload, 1) := by decide +kernel
theorem dL_law_125 : decode cL_law 125 = .ok (.invokevirtual 13, 3) := by decide +kernel
theorem dL_law_128 : decode cL_law 128 = .ok (.aload_n 2, 1) := by decide +kernel
theorem dL_law_129 : decode cL_law 129 = .ok (.aload_n 0, 1) := by decide +kernel
theorem dL_law_130 : decode cL_law 130 = .ok (.iload_n 3, 1) := by decide +kernel
theorem dL_law_131 : decode cL_law 131 = .ok (.iconst 1, 1) := by decide +kernel
theorem dL_law_132 : decode cL_law 132 = .ok (.iadd, 1) := by decide +kernel
theorem dL_law_133 : decode cL_law 133 = .ok (.iaload, 1) := by decide +kernel
theorem dL_law_134 : decode cL_law 134 = .ok (.aload_n 0, 1) := by decide +kernel
theorem dL_law_135 : decode cL_law 135 = .ok (.iload_n 3, 1) := by decide +kernel
theorem dL_law_136 : decode cL_law 136 = .ok (.iconst 2, 1) := by decide +kernel
theorem dL_law_137 : decode cL_law 137 = .ok (.iadd, 1) := by decide +kernel
theorem dL_law_138 : decode cL_law 138 = .ok (.iaload, 1) := by decide +kernel
theorem dL_law_139 : decode cL_law 139 = .ok (.aload_n 0, 1) := by decide +kernel
theorem dL_law_140 : decode cL_law 140 = .ok (.iload_n 3, 1) := by decide +kernel
theorem dL_law_141 : decode cL_law 141 = .ok (.iconst 3, 1) := by decide +kernel
theorem dL_law_142 : decode cL_law 142 = .ok (.iadd, 1) := by decide +kernel
theorem dL_law_143 : decode cL_law 143 = .ok (.iaload, 1) := by decide +kernel
theorem dL_law_144 : decode cL_law 144 = .ok (.aload_n 0, 1) := by decide +kernel
theorem dL_law_145 : decode cL_law 145 = .ok (.iload_n 3, 1) := by decide +kernel
theorem dL_law_146 : decode cL_law 146 = .ok (.iconst 4, 1) := by decide +kernel
theorem dL_law_147 : decode cL_law 147 = .ok (.iadd, 1) := by decide +kernel
theorem dL_law_148 : decode cL_law 148 = .ok (.iaload, 1) := by decide +kernel
theorem dL_law_149 : decode cL_law 149 = .ok (.invokevirtual 17, 3) := by decide +kernel
theorem dL_law_152 : decode cL_law 152 = .ok (.if_icmp .eq 540, 3) := by decide +kernel
theorem dL_law_155 : decode cL_law 155 = .ok (.iconst 0, 1) := by decide +kernel
theorem dL_law_156 : decode cL_law 156 = .ok (.ireturn, 1) := by decide +kernel
theorem dL_law_157 : decode cL_law 157 = .ok (.aload_n 1, 1) := by decide +kernel
theorem dL_law_158 : decode cL_law 158 = .ok (.aload_n 0, 1) := by decide +kernel
theorem dL_law_159 : decode cL_law 159 = .ok (.iload_n 3, 1) := by decide +kernel
theorem dL_law_160 : decode cL_law 160 = .ok (.iconst 1, 1) := by decide +kernel
theorem dL_law_161 : decode cL_law 161 = .ok (.iadd, 1) := by decide +kernel
theorem dL_law_162 : decode cL_law 162 = .ok (.iaload, 1) := by decide +kernel
theorem dL_law_163 : decode cL_law 163 = .ok (.aload_n 0, 1) := by decide +kernel
theorem dL_law_164 : decode cL_law 164 = .ok (.iload_n 3, 1) := by decide +kernel
theorem dL_law_165 : decode cL_law 165 = .ok (.iconst 2, 1) := by decide +kernel
theorem dL_law_166 : decode cL_law 166 = .ok (.iadd, 1) := by decide +kernel
theorem dL_law_167 : decode cL_law 167 = .ok (.iaload, 1) := by decide +kernel
theorem dL_law_168 : decode cL_law 168 = .ok (.aload_n 0, 1) := by decide +kernel
theorem dL_law_169 : decode cL_law 169 = .ok (.iload_n 3, 1) := by decide +kernel
theorem dL_law_170 : decode cL_law 170 = .ok (.iconst 3, 1) := by decide +kernel
theorem dL_law_171 : decode cL_law 171 = .ok (.iadd, 1) := by decide +kernel
theorem dL_law_172 : decode cL_law 172 = .ok (.iaload, 1) := by decide +kernel
theorem dL_law_173 : decode cL_law 173 = .ok (.i2l, 1) := by decide +kernel
theorem dL_law_174 : decode cL_law 174 = .ok (.bipush 32, 2) := by decide +kernel
theorem dL_law_176 : decode cL_law 176 = .ok (.lshl, 1) := by decide +kernel
theorem dL_law_177 : decode cL_law 177 = .ok (.aload_n 0, 1) := by decide +kernel
theorem dL_law_178 : decode cL_law 178 = .ok (.iload_n 3, 1) := by decide +kernel
theorem dL_law_179 : decode cL_law 179 = .ok (.iconst 4, 1) := by decide +kernel
theorem dL_law_180 : decode cL_law 180 = .ok (.iadd, 1) := by decide +kernel
theorem dL_law_181 : decode cL_law 181 = .ok (.iaload, 1) := by decide +kernel
theorem dL_law_182 : decode cL_law 182 = .ok (.i2l, 1) := by decide +kernel
theorem dL_law_183 : decode cL_law 183 = .ok (.ldc2_w 18, 3) := by decide +kernel
theorem dL_law_186 : decode cL_law 186 = .ok (.land, 1) := by decide +kernel
theorem dL_law_187 : decode cL_law 187 = .ok (.lor, 1) := by decide +kernel
theorem dL_law_188 : decode cL_law 188 = .ok (.invokevirtual 20, 3) := by decide +kernel
theorem dL_law_191 : decode cL_law 191 = .ok (.aload_n 2, 1) := by decide +kernel
theorem dL_law_192 : decode cL_law 192 = .ok (.aload_n 0, 1) := by decide +kernel
theorem dL_law_193 : decode cL_law 193 = .ok (.iload_n 3, 1) := by decide +kernel
theorem dL_law_194 : decode cL_law 194 = .ok (.iconst 1, 1) := by decide +kernel
theorem dL_law_195 : decode cL_law 195 = .ok (.iadd, 1) := by decide +kernel
theorem dL_law_196 : decode cL_law 196 = .ok (.iaload, 1) := by decide +kernel
theorem dL_law_197 : decode cL_law 197 = .ok (.aload_n 0, 1) := by decide +kernel
theorem dL_law_198 : decode cL_law 198 = .ok (.iload_n 3, 1) := by decide +kernel
theorem dL_law_199 : decode cL_law 199 = .ok (.iconst 2, 1) := by decide +kernel
theorem dL_law_200 : decode cL_law 200 = .ok (.iadd, 1) := by decide +kernel
theorem dL_law_201 : decode cL_law 201 = .ok (.iaload, 1) := by decide +kernel
theorem dL_law_202 : decode cL_law 202 = .ok (.aload_n 0, 1) := by decide +kernel
theorem dL_law_203 : decode cL_law 203 = .ok (.iload_n 3, 1) := by decide +kernel
theorem dL_law_204 : decode cL_law 204 = .ok (.iconst 3, 1) := by decide +kernel
theorem dL_law_205 : decode cL_law 205 = .ok (.iadd, 1) := by decide +kernel
theorem dL_law_206 : decode cL_law 206 = .ok (.iaload, 1) := by decide +kernel
theorem dL_law_207 : decode cL_law 207 = .ok (.i2l, 1) := by decide +kernel
theorem dL_law_208 : decode cL_law 208 = .ok (.bipush 32, 2) := by decide +kernel
theorem dL_law_210 : decode cL_law 210 = .ok (.lshl, 1) := by decide +kernel
theorem dL_law_211 : decode cL_law 211 = .ok (.aload_n 0, 1) := by decide +kernel
theorem dL_law_212 : decode cL_law 212 = .ok (.iload_n 3, 1) := by decide +kernel
theorem dL_law_213 : decode cL_law 213 = .ok (.iconst 4, 1) := by decide +kernel
theorem dL_law_214 : decode cL_law 214 = .ok (.iadd, 1) := by decide +kernel
theorem dL_law_215 : decode cL_law 215 = .ok (.iaload, 1) := by decide +kernel
theorem dL_law_216 : decode cL_law 216 = .ok (.i2l, 1) := by decide +kernel
theorem dL_law_217 : decode cL_law 217 = .ok (.ldc2_w 18, 3) := by decide +kernel
theorem dL_law_220 : decode cL_law 220 = .ok (.land, 1) := by decide +kernel
theorem dL_law_221 : decode cL_law 221 = .ok (.lor, 1) := by decide +kernel
theorem dL_law_222 : decode cL_law 222 = .ok (.invokevirtual 24, 3) := by decide +kernel
theorem dL_law_225 : decode cL_law 225 = .ok (.if_icmp .eq 467, 3) := by decide +kernel
theorem dL_law_228 : decode cL_law 228 = .ok (.iconst 0, 1) := by decide +kernel
theorem dL_law_229 : decode cL_law 229 = .ok (.ireturn, 1) := by decide +kernel
theorem dL_law_230 : decode cL_law 230 = .ok (.aload_n 1, 1) := by decide +kernel
theorem dL_law_231 : decode cL_law 231 = .ok (.aload_n 0, 1) := by decide +kernel
theorem dL_law_232 : decode cL_law 232 = .ok (.iload_n 3, 1) := by decide +kernel
theorem dL_law_233 : decode cL_law 233 = .ok (.iconst 1, 1) := by decide +kernel
theorem dL_law_234 : decode cL_law 234 = .ok (.iadd, 1) := by decide +kernel
theorem dL_law_235 : decode cL_law 235 = .ok (.iaload, 1) := by decide +kernel
theorem dL_law_236 : decode cL_law 236 = .ok (.aload_n 0, 1) := by decide +kernel
theorem dL_law_237 : decode cL_law 237 = .ok (.iload_n 3, 1) := by decide +kernel
theorem dL_law_238 : decode cL_law 238 = .ok (.iconst 2, 1) := by decide +kernel
theorem dL_law_239 : decode cL_law 239 = .ok (.iadd, 1) := by decide +kernel
theorem dL_law_240 : decode cL_law 240 = .ok (.iaload, 1) := by decide +kernel
theorem dL_law_241 : decode cL_law 241 = .ok (.i2l, 1) := by decide +kernel
theorem dL_law_242 : decode cL_law 242 = .ok (.bipush 32, 2) := by decide +kernel
theorem dL_law_244 : decode cL_law 244 = .ok (.lshl, 1) := by decide +kernel
theorem dL_law_245 : decode cL_law 245 = .ok (.aload_n 0, 1) := by decide +kernel
theorem dL_law_246 : decode cL_law 246 = .ok (.iload_n 3, 1) := by decide +kernel
theorem dL_law_247 : decode cL_law 247 = .ok (.iconst 3, 1) := by decide +kernel
theorem dL_law_248 : decode cL_law 248 = .ok (.iadd, 1) := by decide +kernel
theorem dL_law_249 : decode cL_law 249 = .ok (.iaload, 1) := by decide +kernel
theorem dL_law_250 : decode cL_law 250 = .ok (.i2l, 1) := by decide +kernel
theorem dL_law_251 : decode cL_law 251 = .ok (.ldc2_w 18, 3) := by decide +kernel
theorem dL_law_254 : decode cL_law 254 = .ok (.land, 1) := by decide +kernel
theorem dL_law_255 : decode cL_law 255 = .ok (.lor, 1) := by decide +kernel
theorem dL_law_256 : decode cL_law 256 = .ok (.invokevirtual 25, 3) := by decide +kernel
theorem dL_law_259 : decode cL_law 259 = .ok (.aload_n 2, 1) := by decide +kernel
theorem dL_law_260 : decode cL_law 260 = .ok (.aload_n 0, 1) := by decide +kernel
theorem dL_law_261 : decode cL_law 261 = .ok (.iload_n 3, 1) := by decide +kernel
theorem dL_law_262 : decode cL_law 262 = .ok (.iconst 1, 1) := by decide +kernel
theorem dL_law_263 : decode cL_law 263 = .ok (.iadd, 1) := by decide +kernel
theorem dL_law_264 : decode cL_law 264 = .ok (.iaload, 1) := by decide +kernel
theorem dL_law_265 : decode cL_law 265 = .ok (.aload_n 0, 1) := by decide +kernel
theorem dL_law_266 : decode cL_law 266 = .ok (.iload_n 3, 1) := by decide +kernel
theorem dL_law_267 : decode cL_law 267 = .ok (.iconst 2, 1) := by decide +kernel
theorem dL_law_268 : decode cL_law 268 = .ok (.iadd, 1) := by decide +kernel
theorem dL_law_269 : decode cL_law 269 = .ok (.iaload, 1) := by decide +kernel
theorem dL_law_270 : decode cL_law 270 = .ok (.i2l, 1) := by decide +kernel
theorem dL_law_271 : decode cL_law 271 = .ok (.bipush 32, 2) := by decide +kernel
theorem dL_law_273 : decode cL_law 273 = .ok (.lshl, 1) := by decide +kernel
theorem dL_law_274 : decode cL_law 274 = .ok (.aload_n 0, 1) := by decide +kernel
theorem dL_law_275 : decode cL_law 275 = .ok (.iload_n 3, 1) := by decide +kernel
theorem dL_law_276 : decode cL_law 276 = .ok (.iconst 3, 1) := by decide +kernel
theorem dL_law_277 : decode cL_law 277 = .ok (.iadd, 1) := by decide +kernel
theorem dL_law_278 : decode cL_law 278 = .ok (.iaload, 1) := by decide +kernel
theorem dL_law_279 : decode cL_law 279 = .ok (.i2l, 1) := by decide +kernel
theorem dL_law_280 : decode cL_law 280 = .ok (.ldc2_w 18, 3) := by decide +kernel
theorem dL_law_283 : decode cL_law 283 = .ok (.land, 1) := by decide +kernel
theorem dL_law_284 : decode cL_law 284 = .ok (.lor, 1) := by decide +kernel
theorem dL_law_285 : decode cL_law 285 = .ok (.invokevirtual 29, 3) := by decide +kernel
theorem dL_law_288 : decode cL_law 288 = .ok (.if_icmp .eq 404, 3) := by decide +kernel
theorem dL_law_291 : decode cL_law 291 = .ok (.iconst 0, 1) := by decide +kernel
theorem dL_law_292 : decode cL_law 292 = .ok (.ireturn, 1) := by decide +kernel
theorem dL_law_293 : decode cL_law 293 = .ok (.aload_n 1, 1) := by decide +kernel
theorem dL_law_294 : decode cL_law 294 = .ok (.aload_n 0, 1) := by decide +kernel
theorem dL_law_295 : decode cL_law 295 = .ok (.iload_n 3, 1) := by decide +kernel
theorem dL_law_296 : decode cL_law 296 = .ok (.iconst 1, 1) := by decide +kernel
theorem dL_law_297 : decode cL_law 297 = .ok (.iadd, 1) := by decide +kernel
theorem dL_law_298 : decode cL_law 298 = .ok (.iaload, 1) := by decide +kernel
theorem dL_law_299 : decode cL_law 299 = .ok (.invokevirtual 30, 3) := by decide +kernel
theorem dL_law_302 : decode cL_law 302 = .ok (.aload_n 2, 1) := by decide +kernel
theorem dL_law_303 : decode cL_law 303 = .ok (.aload_n 0, 1) := by decide +kernel
theorem dL_law_304 : decode cL_law 304 = .ok (.iload_n 3, 1) := by decide +kernel
theorem dL_law_305 : decode cL_law 305 = .ok (.iconst 1, 1) := by decide +kernel
theorem dL_law_306 : decode cL_law 306 = .ok (.iadd, 1) := by decide +kernel
theorem dL_law_307 : decode cL_law 307 = .ok (.iaload, 1) := by decide +kernel
theorem dL_law_308 : decode cL_law 308 = .ok (.invokevirtual 34, 3) := by decide +kernel
theorem dL_law_311 : decode cL_law 311 = .ok (.lcmp, 1) := by decide +kernel
theorem dL_law_312 : decode cL_law 312 = .ok (.ifCond .eq 380, 3) := by decide +kernel
theorem dL_law_315 : decode cL_law 315 = .ok (.iconst 0, 1) := by decide +kernel
theorem dL_law_316 : decode cL_law 316 = .ok (.ireturn, 1) := by decide +kernel
theorem dL_law_317 : decode cL_law 317 = .ok (.aload_n 1, 1) := by decide +kernel
theorem dL_law_318 : decode cL_law 318 = .ok (.aload_n 0, 1) := by decide +kernel
theorem dL_law_319 : decode cL_law 319 = .ok (.iload_n 3, 1) := by decide +kernel
theorem dL_law_320 : decode cL_law 320 = .ok (.iconst 1, 1) := by decide +kernel
theorem dL_law_321 : decode cL_law 321 = .ok (.iadd, 1) := by decide +kernel
theorem dL_law_322 : decode cL_law 322 = .ok (.iaload, 1) := by decide +kernel
theorem dL_law_323 : decode cL_law 323 = .ok (.aload_n 0, 1) := by decide +kernel
theorem dL_law_324 : decode cL_law 324 = .ok (.iload_n 3, 1) := by decide +kernel
theorem dL_law_325 : decode cL_law 325 = .ok (.iconst 2, 1) := by decide +kernel
theorem dL_law_326 : decode cL_law 326 = .ok (.iadd, 1) := by decide +kernel
theorem dL_law_327 : decode cL_law 327 = .ok (.iaload, 1) := by decide +kernel
theorem dL_law_328 : decode cL_law 328 = .ok (.invokevirtual 35, 3) := by decide +kernel
theorem dL_law_331 : decode cL_law 331 = .ok (.aload_n 2, 1) := by decide +kernel
theorem dL_law_332 : decode cL_law 332 = .ok (.aload_n 0, 1) := by decide +kernel
theorem dL_law_333 : decode cL_law 333 = .ok (.iload_n 3, 1) := by decide +kernel
theorem dL_law_334 : decode cL_law 334 = .ok (.iconst 1, 1) := by decide +kernel
theorem dL_law_335 : decode cL_law 335 = .ok (.iadd, 1) := by decide +kernel
theorem dL_law_336 : decode cL_law 336 = .ok (.iaload, 1) := by decide +kernel
theorem dL_law_337 : decode cL_law 337 = .ok (.aload_n 0, 1) := by decide +kernel
theorem dL_law_338 : decode cL_law 338 = .ok (.iload_n 3, 1) := by decide +kernel
theorem dL_law_339 : decode cL_law 339 = .ok (.iconst 2, 1) := by decide +kernel
theorem dL_law_340 : decode cL_law 340 = .ok (.iadd, 1) := by decide +kernel
theorem dL_law_341 : decode cL_law 341 = .ok (.iaload, 1) := by decide +kernel
theorem dL_law_342 : decode cL_law 342 = .ok (.invokevirtual 39, 3) := by decide +kernel
theorem dL_law_345 : decode cL_law 345 = .ok (.if_icmp .eq 347, 3) := by decide +kernel
theorem dL_law_348 : decode cL_law 348 = .ok (.iconst 0, 1) := by decide +kernel
theorem dL_law_349 : decode cL_law 349 = .ok (.ireturn, 1) := by decide +kernel
theorem dL_law_350 : decode cL_law 350 = .ok (.aload_n 1, 1) := by decide +kernel
theorem dL_law_351 : decode cL_law 351 = .ok (.aload_n 0, 1) := by decide +kernel
theorem dL_law_352 : decode cL_law 352 = .ok (.iload_n 3, 1) := by decide +kernel
theorem dL_law_353 : decode cL_law 353 = .ok (.iconst 1, 1) := by decide +kernel
theorem dL_law_354 : decode cL_law 354 = .ok (.iadd, 1) := by decide +kernel
theorem dL_law_355 : decode cL_law 355 = .ok (.iaload, 1) := by decide +kernel
theorem dL_law_356 : decode cL_law 356 = .ok (.aload_n 0, 1) := by decide +kernel
theorem dL_law_357 : decode cL_law 357 = .ok (.iload_n 3, 1) := by decide +kernel
theorem dL_law_358 : decode cL_law 358 = .ok (.iconst 2, 1) := by decide +kernel
theorem dL_law_359 : decode cL_law 359 = .ok (.iadd, 1) := by decide +kernel
theorem dL_law_360 : decode cL_law 360 = .ok (.iaload, 1) := by decide +kernel
theorem dL_law_361 : decode cL_law 361 = .ok (.aload_n 0, 1) := by decide +kernel
theorem dL_law_362 : decode cL_law 362 = .ok (.iload_n 3, 1) := by decide +kernel
theorem dL_law_363 : decode cL_law 363 = .ok (.iconst 3, 1) := by decide +kernel
theorem dL_law_364 : decode cL_law 364 = .ok (.iadd, 1) := by decide +kernel
theorem dL_law_365 : decode cL_law 365 = .ok (.iaload, 1) := by decide +kernel
theorem dL_law_366 : decode cL_law 366 = .ok (.aload_n 0, 1) := by decide +kernel
theorem dL_law_367 : decode cL_law 367 = .ok (.iload_n 3, 1) := by decide +kernel
theorem dL_law_368 : decode cL_law 368 = .ok (.iconst 4, 1) := by decide +kernel
theorem dL_law_369 : decode cL_law 369 = .ok (.iadd, 1) := by decide +kernel
theorem dL_law_370 : decode cL_law 370 = .ok (.iaload, 1) := by decide +kernel
theorem dL_law_371 : decode cL_law 371 = .ok (.i2l, 1) := by decide +kernel
theorem dL_law_372 : decode cL_law 372 = .ok (.bipush 32, 2) := by decide +kernel
theorem dL_law_374 : decode cL_law 374 = .ok (.lshl, 1) := by decide +kernel
theorem dL_law_375 : decode cL_law 375 = .ok (.aload_n 0, 1) := by decide +kernel
theorem dL_law_376 : decode cL_law 376 = .ok (.iload_n 3, 1) := by decide +kernel
theorem dL_law_377 : decode cL_law 377 = .ok (.iconst 5, 1) := by decide +kernel
theorem dL_law_378 : decode cL_law 378 = .ok (.iadd, 1) := by decide +kernel
theorem dL_law_379 : decode cL_law 379 = .ok (.iaload, 1) := by decide +kernel
theorem dL_law_380 : decode cL_law 380 = .ok (.i2l, 1) := by decide +kernel
theorem dL_law_381 : decode cL_law 381 = .ok (.ldc2_w 18, 3) := by decide +kernel
theorem dL_law_384 : decode cL_law 384 = .ok (.land, 1) := by decide +kernel
theorem dL_law_385 : decode cL_law 385 = .ok (.lor, 1) := by decide +kernel
theorem dL_law_386 : decode cL_law 386 = .ok (.aload_n 0, 1) := by decide +kernel
theorem dL_law_387 : decode cL_law 387 = .ok (.iload_n 3, 1) := by decide +kernel
theorem dL_law_388 : decode cL_law 388 = .ok (.bipush 6, 2) := by decide +kernel
theorem dL_law_390 : decode cL_law 390 = .ok (.iadd, 1) := by decide +kernel
theorem dL_law_391 : decode cL_law 391 = .ok (.iaload, 1) := by decide +kernel
theorem dL_law_392 : decode cL_law 392 = .ok (.i2l, 1) := by decide +kernel
theorem dL_law_393 : decode cL_law 393 = .ok (.bipush 32, 2) := by decide +kernel
theorem dL_law_395 : decode cL_law 395 = .ok (.lshl, 1) := by decide +kernel
theorem dL_law_396 : decode cL_law 396 = .ok (.aload_n 0, 1) := by decide +kernel
theorem dL_law_397 : decode cL_law 397 = .ok (.iload_n 3, 1) := by decide +kernel
theorem dL_law_398 : decode cL_law 398 = .ok (.bipush 7, 2) := by decide +kernel
theorem dL_law_400 : decode cL_law 400 = .ok (.iadd, 1) := by decide +kernel
theorem dL_law_401 : decode cL_law 401 = .ok (.iaload, 1) := by decide +kernel
theorem dL_law_402 : decode cL_law 402 = .ok (.i2l, 1) := by decide +kernel
theorem dL_law_403 : decode cL_law 403 = .ok (.ldc2_w 18, 3) := by decide +kernel
theorem dL_law_406 : decode cL_law 406 = .ok (.land, 1) := by decide +kernel
theorem dL_law_407 : decode cL_law 407 = .ok (.lor, 1) := by decide +kernel
theorem dL_law_408 : decode cL_law 408 = .ok (.invokevirtual 40, 3) := by decide +kernel
theorem dL_law_411 : decode cL_law 411 = .ok (.aload_n 2, 1) := by decide +kernel
theorem dL_law_412 : decode cL_law 412 = .ok (.aload_n 0, 1) := by decide +kernel
theorem dL_law_413 : decode cL_law 413 = .ok (.iload_n 3, 1) := by decide +kernel
theorem dL_law_414 : decode cL_law 414 = .ok (.iconst 1, 1) := by decide +kernel
theorem dL_law_415 : decode cL_law 415 = .ok (.iadd, 1) := by decide +kernel
theorem dL_law_416 : decode cL_law 416 = .ok (.iaload, 1) := by decide +kernel
theorem dL_law_417 : decode cL_law 417 = .ok (.aload_n 0, 1) := by decide +kernel
theorem dL_law_418 : decode cL_law 418 = .ok (.iload_n 3, 1) := by decide +kernel
theorem dL_law_419 : decode cL_law 419 = .ok (.iconst 2, 1) := by decide +kernel
theorem dL_law_420 : decode cL_law 420 = .ok (.iadd, 1) := by decide +kernel
theorem dL_law_421 : decode cL_law 421 = .ok (.iaload, 1) := by decide +kernel
theorem dL_law_422 : decode cL_law 422 = .ok (.aload_n 0, 1) := by decide +kernel
theorem dL_law_423 : decode cL_law 423 = .ok (.iload_n 3, 1) := by decide +kernel
theorem dL_law_424 : decode cL_law 424 = .ok (.iconst 3, 1) := by decide +kernel
theorem dL_law_425 : decode cL_law 425 = .ok (.iadd, 1) := by decide +kernel
theorem dL_law_426 : decode cL_law 426 = .ok (.iaload, 1) := by decide +kernel
theorem dL_law_427 : decode cL_law 427 = .ok (.aload_n 0, 1) := by decide +kernel
theorem dL_law_428 : decode cL_law 428 = .ok (.iload_n 3, 1) := by decide +kernel
theorem dL_law_429 : decode cL_law 429 = .ok (.iconst 4, 1) := by decide +kernel
theorem dL_law_430 : decode cL_law 430 = .ok (.iadd, 1) := by decide +kernel
theorem dL_law_431 : decode cL_law 431 = .ok (.iaload, 1) := by decide +kernel
theorem dL_law_432 : decode cL_law 432 = .ok (.i2l, 1) := by decide +kernel
theorem dL_law_433 : decode cL_law 433 = .ok (.bipush 32, 2) := by decide +kernel
theorem dL_law_435 : decode cL_law 435 = .ok (.lshl, 1) := by decide +kernel
theorem dL_law_436 : decode cL_law 436 = .ok (.aload_n 0, 1) := by decide +kernel
theorem dL_law_437 : decode cL_law 437 = .ok (.iload_n 3, 1) := by decide +kernel
theorem dL_law_438 : decode cL_law 438 = .ok (.iconst 5, 1) := by decide +kernel
theorem dL_law_439 : decode cL_law 439 = .ok (.iadd, 1) := by decide +kernel
theorem dL_law_440 : decode cL_law 440 = .ok (.iaload, 1) := by decide +kernel
theorem dL_law_441 : decode cL_law 441 = .ok (.i2l, 1) := by decide +kernel
theorem dL_law_442 : decode cL_law 442 = .ok (.ldc2_w 18, 3) := by decide +kernel
theorem dL_law_445 : decode cL_law 445 = .ok (.land, 1) := by decide +kernel
theorem dL_law_446 : decode cL_law 446 = .ok (.lor, 1) := by decide +kernel
theorem dL_law_447 : decode cL_law 447 = .ok (.aload_n 0, 1) := by decide +kernel
theorem dL_law_448 : decode cL_law 448 = .ok (.iload_n 3, 1) := by decide +kernel
theorem dL_law_449 : decode cL_law 449 = .ok (.bipush 6, 2) := by decide +kernel
theorem dL_law_451 : decode cL_law 451 = .ok (.iadd, 1) := by decide +kernel
theorem dL_law_452 : decode cL_law 452 = .ok (.iaload, 1) := by decide +kernel
theorem dL_law_453 : decode cL_law 453 = .ok (.i2l, 1) := by decide +kernel
theorem dL_law_454 : decode cL_law 454 = .ok (.bipush 32, 2) := by decide +kernel
theorem dL_law_456 : decode cL_law 456 = .ok (.lshl, 1) := by decide +kernel
theorem dL_law_457 : decode cL_law 457 = .ok (.aload_n 0, 1) := by decide +kernel
theorem dL_law_458 : decode cL_law 458 = .ok (.iload_n 3, 1) := by decide +kernel
theorem dL_law_459 : decode cL_law 459 = .ok (.bipush 7, 2) := by decide +kernel
theorem dL_law_461 : decode cL_law 461 = .ok (.iadd, 1) := by decide +kernel
theorem dL_law_462 : decode cL_law 462 = .ok (.iaload, 1) := by decide +kernel
theorem dL_law_463 : decode cL_law 463 = .ok (.i2l, 1) := by decide +kernel
theorem dL_law_464 : decode cL_law 464 = .ok (.ldc2_w 18, 3) := by decide +kernel
theorem dL_law_467 : decode cL_law 467 = .ok (.land, 1) := by decide +kernel
theorem dL_law_468 : decode cL_law 468 = .ok (.lor, 1) := by decide +kernel
theorem dL_law_469 : decode cL_law 469 = .ok (.invokevirtual 44, 3) := by decide +kernel
theorem dL_law_472 : decode cL_law 472 = .ok (.if_icmp .eq 220, 3) := by decide +kernel
theorem dL_law_475 : decode cL_law 475 = .ok (.iconst 0, 1) := by decide +kernel
theorem dL_law_476 : decode cL_law 476 = .ok (.ireturn, 1) := by decide +kernel
theorem dL_law_477 : decode cL_law 477 = .ok (.aload_n 1, 1) := by decide +kernel
theorem dL_law_478 : decode cL_law 478 = .ok (.aload_n 0, 1) := by decide +kernel
theorem dL_law_479 : decode cL_law 479 = .ok (.iload_n 3, 1) := by decide +kernel
theorem dL_law_480 : decode cL_law 480 = .ok (.iconst 1, 1) := by decide +kernel
theorem dL_law_481 : decode cL_law 481 = .ok (.iadd, 1) := by decide +kernel
theorem dL_law_482 : decode cL_law 482 = .ok (.iaload, 1) := by decide +kernel
theorem dL_law_483 : decode cL_law 483 = .ok (.aload_n 0, 1) := by decide +kernel
theorem dL_law_484 : decode cL_law 484 = .ok (.iload_n 3, 1) := by decide +kernel
theorem dL_law_485 : decode cL_law 485 = .ok (.iconst 2, 1) := by decide +kernel
theorem dL_law_486 : decode cL_law 486 = .ok (.iadd, 1) := by decide +kernel
theorem dL_law_487 : decode cL_law 487 = .ok (.iaload, 1) := by decide +kernel
theorem dL_law_488 : decode cL_law 488 = .ok (.invokevirtual 45, 3) := by decide +kernel
theorem dL_law_491 : decode cL_law 491 = .ok (.aload_n 2, 1) := by decide +kernel
theorem dL_law_492 : decode cL_law 492 = .ok (.aload_n 0, 1) := by decide +kernel
theorem dL_law_493 : decode cL_law 493 = .ok (.iload_n 3, 1) := by decide +kernel
theorem dL_law_494 : decode cL_law 494 = .ok (.iconst 1, 1) := by decide +kernel
theorem dL_law_495 : decode cL_law 495 = .ok (.iadd, 1) := by decide +kernel
theorem dL_law_496 : decode cL_law 496 = .ok (.iaload, 1) := by decide +kernel
theorem dL_law_497 : decode cL_law 497 = .ok (.aload_n 0, 1) := by decide +kernel
theorem dL_law_498 : decode cL_law 498 = .ok (.iload_n 3, 1) := by decide +kernel
theorem dL_law_499 : decode cL_law 499 = .ok (.iconst 2, 1) := by decide +kernel
theorem dL_law_500 : decode cL_law 500 = .ok (.iadd, 1) := by decide +kernel
theorem dL_law_501 : decode cL_law 501 = .ok (.iaload, 1) := by decide +kernel
theorem dL_law_502 : decode cL_law 502 = .ok (.invokevirtual 48, 3) := by decide +kernel
theorem dL_law_505 : decode cL_law 505 = .ok (.if_icmp .eq 187, 3) := by decide +kernel
theorem dL_law_508 : decode cL_law 508 = .ok (.iconst 0, 1) := by decide +kernel
theorem dL_law_509 : decode cL_law 509 = .ok (.ireturn, 1) := by decide +kernel
theorem dL_law_510 : decode cL_law 510 = .ok (.aload_n 1, 1) := by decide +kernel
theorem dL_law_511 : decode cL_law 511 = .ok (.aload_n 0, 1) := by decide +kernel
theorem dL_law_512 : decode cL_law 512 = .ok (.iload_n 3, 1) := by decide +kernel
theorem dL_law_513 : decode cL_law 513 = .ok (.iconst 1, 1) := by decide +kernel
theorem dL_law_514 : decode cL_law 514 = .ok (.iadd, 1) := by decide +kernel
theorem dL_law_515 : decode cL_law 515 = .ok (.iaload, 1) := by decide +kernel
theorem dL_law_516 : decode cL_law 516 = .ok (.aload_n 0, 1) := by decide +kernel
theorem dL_law_517 : decode cL_law 517 = .ok (.iload_n 3, 1) := by decide +kernel
theorem dL_law_518 : decode cL_law 518 = .ok (.iconst 2, 1) := by decide +kernel
theorem dL_law_519 : decode cL_law 519 = .ok (.iadd, 1) := by decide +kernel
theorem dL_law_520 : decode cL_law 520 = .ok (.iaload, 1) := by decide +kernel
theorem dL_law_521 : decode cL_law 521 = .ok (.invokevirtual 49, 3) := by decide +kernel
theorem dL_law_524 : decode cL_law 524 = .ok (.aload_n 2, 1) := by decide +kernel
theorem dL_law_525 : decode cL_law 525 = .ok (.aload_n 0, 1) := by decide +kernel
theorem dL_law_526 : decode cL_law 526 = .ok (.iload_n 3, 1) := by decide +kernel
theorem dL_law_527 : decode cL_law 527 = .ok (.iconst 1, 1) := by decide +kernel
theorem dL_law_528 : decode cL_law 528 = .ok (.iadd, 1) := by decide +kernel
theorem dL_law_529 : decode cL_law 529 = .ok (.iaload, 1) := by decide +kernel
theorem dL_law_530 : decode cL_law 530 = .ok (.aload_n 0, 1) := by decide +kernel
theorem dL_law_531 : decode cL_law 531 = .ok (.iload_n 3, 1) := by decide +kernel
theorem dL_law_532 : decode cL_law 532 = .ok (.iconst 2, 1) := by decide +kernel
theorem dL_law_533 : decode cL_law 533 = .ok (.iadd, 1) := by decide +kernel
theorem dL_law_534 : decode cL_law 534 = .ok (.iaload, 1) := by decide +kernel
theorem dL_law_535 : decode cL_law 535 = .ok (.invokevirtual 53, 3) := by decide +kernel
theorem dL_law_538 : decode cL_law 538 = .ok (.lcmp, 1) := by decide +kernel
theorem dL_law_539 : decode cL_law 539 = .ok (.ifCond .eq 153, 3) := by decide +kernel
theorem dL_law_542 : decode cL_law 542 = .ok (.iconst 0, 1) := by decide +kernel
theorem dL_law_543 : decode cL_law 543 = .ok (.ireturn, 1) := by decide +kernel
theorem dL_law_544 : decode cL_law 544 = .ok (.aload_n 1, 1) := by decide +kernel
theorem dL_law_545 : decode cL_law 545 = .ok (.aload_n 0, 1) := by decide +kernel
theorem dL_law_546 : decode cL_law 546 = .ok (.iload_n 3, 1) := by decide +kernel
theorem dL_law_547 : decode cL_law 547 = .ok (.iconst 1, 1) := by decide +kernel
theorem dL_law_548 : decode cL_law 548 = .ok (.iadd, 1) := by decide +kernel
theorem dL_law_549 : decode cL_law 549 = .ok (.iaload, 1) := by decide +kernel
theorem dL_law_550 : decode cL_law 550 = .ok (.invokevirtual 54, 3) := by decide +kernel
theorem dL_law_553 : decode cL_law 553 = .ok (.aload_n 2, 1) := by decide +kernel
theorem dL_law_554 : decode cL_law 554 = .ok (.aload_n 0, 1) := by decide +kernel
theorem dL_law_555 : decode cL_law 555 = .ok (.iload_n 3, 1) := by decide +kernel
theorem dL_law_556 : decode cL_law 556 = .ok (.iconst 1, 1) := by decide +kernel
theorem dL_law_557 : decode cL_law 557 = .ok (.iadd, 1) := by decide +kernel
theorem dL_law_558 : decode cL_law 558 = .ok (.iaload, 1) := by decide +kernel
theorem dL_law_559 : decode cL_law 559 = .ok (.invokevirtual 58, 3) := by decide +kernel
theorem dL_law_562 : decode cL_law 562 = .ok (.if_icmp .eq 130, 3) := by decide +kernel
theorem dL_law_565 : decode cL_law 565 = .ok (.iconst 0, 1) := by decide +kernel
theorem dL_law_566 : decode cL_law 566 = .ok (.ireturn, 1) := by decide +kernel
theorem dL_law_567 : decode cL_law 567 = .ok (.aload_n 1, 1) := by decide +kernel
theorem dL_law_568 : decode cL_law 568 = .ok (.aload_n 0, 1) := by decide +kernel
theorem dL_law_569 : decode cL_law 569 = .ok (.iload_n 3, 1) := by decide +kernel
theorem dL_law_570 : decode cL_law 570 = .ok (.iconst 1, 1) := by decide +kernel
theorem dL_law_571 : decode cL_law 571 = .ok (.iadd, 1) := by decide +kernel
theorem dL_law_572 : decode cL_law 572 = .ok (.iaload, 1) := by decide +kernel
theorem dL_law_573 : decode cL_law 573 = .ok (.aload_n 0, 1) := by decide +kernel
theorem dL_law_574 : decode cL_law 574 = .ok (.iload_n 3, 1) := by decide +kernel
theorem dL_law_575 : decode cL_law 575 = .ok (.iconst 2, 1) := by decide +kernel
theorem dL_law_576 : decode cL_law 576 = .ok (.iadd, 1) := by decide +kernel
theorem dL_law_577 : decode cL_law 577 = .ok (.iaload, 1) := by decide +kernel
theorem dL_law_578 : decode cL_law 578 = .ok (.invokevirtual 59, 3) := by decide +kernel
theorem dL_law_581 : decode cL_law 581 = .ok (.aload_n 2, 1) := by decide +kernel
theorem dL_law_582 : decode cL_law 582 = .ok (.aload_n 0, 1) := by decide +kernel
theorem dL_law_583 : decode cL_law 583 = .ok (.iload_n 3, 1) := by decide +kernel
theorem dL_law_584 : decode cL_law 584 = .ok (.iconst 1, 1) := by decide +kernel
theorem dL_law_585 : decode cL_law 585 = .ok (.iadd, 1) := by decide +kernel
theorem dL_law_586 : decode cL_law 586 = .ok (.iaload, 1) := by decide +kernel
theorem dL_law_587 : decode cL_law 587 = .ok (.aload_n 0, 1) := by decide +kernel
theorem dL_law_588 : decode cL_law 588 = .ok (.iload_n 3, 1) := by decide +kernel
theorem dL_law_589 : decode cL_law 589 = .ok (.iconst 2, 1) := by decide +kernel
theorem dL_law_590 : decode cL_law 590 = .ok (.iadd, 1) := by decide +kernel
theorem dL_law_591 : decode cL_law 591 = .ok (.iaload, 1) := by decide +kernel
theorem dL_law_592 : decode cL_law 592 = .ok (.invokevirtual 62, 3) := by decide +kernel
theorem dL_law_595 : decode cL_law 595 = .ok (.if_icmp .eq 97, 3) := by decide +kernel
theorem dL_law_598 : decode cL_law 598 = .ok (.iconst 0, 1) := by decide +kernel
theorem dL_law_599 : decode cL_law 599 = .ok (.ireturn, 1) := by decide +kernel
theorem dL_law_600 : decode cL_law 600 = .ok (.aload_n 1, 1) := by decide +kernel
theorem dL_law_601 : decode cL_law 601 = .ok (.aload_n 0, 1) := by decide +kernel
theorem dL_law_602 : decode cL_law 602 = .ok (.iload_n 3, 1) := by decide +kernel
theorem dL_law_603 : decode cL_law 603 = .ok (.iconst 1, 1) := by decide +kernel
theorem dL_law_604 : decode cL_law 604 = .ok (.iadd, 1) := by decide +kernel
theorem dL_law_605 : decode cL_law 605 = .ok (.iaload, 1) := by decide +kernel
theorem dL_law_606 : decode cL_law 606 = .ok (.aload_n 0, 1) := by decide +kernel
theorem dL_law_607 : decode cL_law 607 = .ok (.iload_n 3, 1) := by decide +kernel
theorem dL_law_608 : decode cL_law 608 = .ok (.iconst 2, 1) := by decide +kernel
theorem dL_law_609 : decode cL_law 609 = .ok (.iadd, 1) := by decide +kernel
theorem dL_law_610 : decode cL_law 610 = .ok (.iaload, 1) := by decide +kernel
theorem dL_law_611 : decode cL_law 611 = .ok (.invokevirtual 63, 3) := by decide +kernel
theorem dL_law_614 : decode cL_law 614 = .ok (.aload_n 2, 1) := by decide +kernel
theorem dL_law_615 : decode cL_law 615 = .ok (.aload_n 0, 1) := by decide +kernel
theorem dL_law_616 : decode cL_law 616 = .ok (.iload_n 3, 1) := by decide +kernel
theorem dL_law_617 : decode cL_law 617 = .ok (.iconst 1, 1) := by decide +kernel
theorem dL_law_618 : decode cL_law 618 = .ok (.iadd, 1) := by decide +kernel
theorem dL_law_619 : decode cL_law 619 = .ok (.iaload, 1) := by decide +kernel
theorem dL_law_620 : decode cL_law 620 = .ok (.aload_n 0, 1) := by decide +kernel
theorem dL_law_621 : decode cL_law 621 = .ok (.iload_n 3, 1) := by decide +kernel
theorem dL_law_622 : decode cL_law 622 = .ok (.iconst 2, 1) := by decide +kernel
theorem dL_law_623 : decode cL_law 623 = .ok (.iadd, 1) := by decide +kernel
theorem dL_law_624 : decode cL_law 624 = .ok (.iaload, 1) := by decide +kernel
theorem dL_law_625 : decode cL_law 625 = .ok (.invokevirtual 66, 3) := by decide +kernel
theorem dL_law_628 : decode cL_law 628 = .ok (.if_icmp .eq 64, 3) := by decide +kernel
theorem dL_law_631 : decode cL_law 631 = .ok (.iconst 0, 1) := by decide +kernel
theorem dL_law_632 : decode cL_law 632 = .ok (.ireturn, 1) := by decide +kernel
theorem dL_law_633 : decode cL_law 633 = .ok (.aload_n 1, 1) := by decide +kernel
theorem dL_law_634 : decode cL_law 634 = .ok (.aload_n 0, 1) := by decide +kernel
theorem dL_law_635 : decode cL_law 635 = .ok (.iload_n 3, 1) := by decide +kernel
theorem dL_law_636 : decode cL_law 636 = .ok (.iconst 1, 1) := by decide +kernel
theorem dL_law_637 : decode cL_law 637 = .ok (.iadd, 1) := by decide +kernel
theorem dL_law_638 : decode cL_law 638 = .ok (.iaload, 1) := by decide +kernel
theorem dL_law_639 : decode cL_law 639 = .ok (.aload_n 0, 1) := by decide +kernel
theorem dL_law_640 : decode cL_law 640 = .ok (.iload_n 3, 1) := by decide +kernel
theorem dL_law_641 : decode cL_law 641 = .ok (.iconst 2, 1) := by decide +kernel
theorem dL_law_642 : decode cL_law 642 = .ok (.iadd, 1) := by decide +kernel
theorem dL_law_643 : decode cL_law 643 = .ok (.iaload, 1) := by decide +kernel
theorem dL_law_644 : decode cL_law 644 = .ok (.invokevirtual 67, 3) := by decide +kernel
theorem dL_law_647 : decode cL_law 647 = .ok (.aload_n 2, 1) := by decide +kernel
theorem dL_law_648 : decode cL_law 648 = .ok (.aload_n 0, 1) := by decide +kernel
theorem dL_law_649 : decode cL_law 649 = .ok (.iload_n 3, 1) := by decide +kernel
theorem dL_law_650 : decode cL_law 650 = .ok (.iconst 1, 1) := by decide +kernel
theorem dL_law_651 : decode cL_law 651 = .ok (.iadd, 1) := by decide +kernel
theorem dL_law_652 : decode cL_law 652 = .ok (.iaload, 1) := by decide +kernel
theorem dL_law_653 : decode cL_law 653 = .ok (.aload_n 0, 1) := by decide +kernel
theorem dL_law_654 : decode cL_law 654 = .ok (.iload_n 3, 1) := by decide +kernel
theorem dL_law_655 : decode cL_law 655 = .ok (.iconst 2, 1) := by decide +kernel
theorem dL_law_656 : decode cL_law 656 = .ok (.iadd, 1) := by decide +kernel
theorem dL_law_657 : decode cL_law 657 = .ok (.iaload, 1) := by decide +kernel
theorem dL_law_658 : decode cL_law 658 = .ok (.invokevirtual 70, 3) := by decide +kernel
theorem dL_law_661 : decode cL_law 661 = .ok (.if_icmp .eq 31, 3) := by decide +kernel
theorem dL_law_664 : decode cL_law 664 = .ok (.iconst 0, 1) := by decide +kernel
theorem dL_law_665 : decode cL_law 665 = .ok (.ireturn, 1) := by decide +kernel
theorem dL_law_666 : decode cL_law 666 = .ok (.aload_n 1, 1) := by decide +kernel
theorem dL_law_667 : decode cL_law 667 = .ok (.invokevirtual 71, 3) := by decide +kernel
theorem dL_law_670 : decode cL_law 670 = .ok (.aload_n 2, 1) := by decide +kernel
theorem dL_law_671 : decode cL_law 671 = .ok (.invokevirtual 75, 3) := by decide +kernel
theorem dL_law_674 : decode cL_law 674 = .ok (.if_icmp .eq 18, 3) := by decide +kernel
theorem dL_law_677 : decode cL_law 677 = .ok (.iconst 0, 1) := by decide +kernel
theorem dL_law_678 : decode cL_law 678 = .ok (.ireturn, 1) := by decide +kernel
theorem dL_law_679 : decode cL_law 679 = .ok (.aload_n 1, 1) := by decide +kernel
theorem dL_law_680 : decode cL_law 680 = .ok (.invokevirtual 76, 3) := by decide +kernel
theorem dL_law_683 : decode cL_law 683 = .ok (.aload_n 2, 1) := by decide +kernel
theorem dL_law_684 : decode cL_law 684 = .ok (.invokevirtual 79, 3) := by decide +kernel
theorem dL_law_687 : decode cL_law 687 = .ok (.if_icmp .eq 5, 3) := by decide +kernel
theorem dL_law_690 : decode cL_law 690 = .ok (.iconst 0, 1) := by decide +kernel
theorem dL_law_691 : decode cL_law 691 = .ok (.ireturn, 1) := by decide +kernel
theorem dL_law_692 : decode cL_law 692 = .ok (.iinc 3 8, 3) := by decide +kernel
theorem dL_law_695 : decode cL_law 695 = .ok (.goto (-677), 3) := by decide +kernel
theorem dL_law_698 : decode cL_law 698 = .ok (.iconst 1, 1) := by decide +kernel
theorem dL_law_699 : decode cL_law 699 = .ok (.ireturn, 1) := by decide +kernel
