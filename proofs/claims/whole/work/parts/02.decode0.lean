theorem dX0_isNumber_0 : decode cX0_isNumber 0 = .ok (.lload_n 0, 1) := by decide +kernel
theorem dX0_isNumber_1 : decode cX0_isNumber 1 = .ok (.ldc2_w 9, 3) := by decide +kernel
theorem dX0_isNumber_4 : decode cX0_isNumber 4 = .ok (.land, 1) := by decide +kernel
theorem dX0_isNumber_5 : decode cX0_isNumber 5 = .ok (.ldc2_w 11, 3) := by decide +kernel
theorem dX0_isNumber_8 : decode cX0_isNumber 8 = .ok (.lcmp, 1) := by decide +kernel
theorem dX0_isNumber_9 : decode cX0_isNumber 9 = .ok (.ifCond .gt 7, 3) := by decide +kernel
theorem dX0_isNumber_12 : decode cX0_isNumber 12 = .ok (.iconst 1, 1) := by decide +kernel
theorem dX0_isNumber_13 : decode cX0_isNumber 13 = .ok (.goto 4, 3) := by decide +kernel
theorem dX0_isNumber_16 : decode cX0_isNumber 16 = .ok (.iconst 0, 1) := by decide +kernel
theorem dX0_isNumber_17 : decode cX0_isNumber 17 = .ok (.ireturn, 1) := by decide +kernel
theorem dX0_fromBits_0 : decode cX0_fromBits 0 = .ok (.lload_n 0, 1) := by decide +kernel
theorem dX0_fromBits_1 : decode cX0_fromBits 1 = .ok (.bipush 52, 2) := by decide +kernel
theorem dX0_fromBits_3 : decode cX0_fromBits 3 = .ok (.lushr, 1) := by decide +kernel
theorem dX0_fromBits_4 : decode cX0_fromBits 4 = .ok (.l2i, 1) := by decide +kernel
theorem dX0_fromBits_5 : decode cX0_fromBits 5 = .ok (.sipush 2047, 3) := by decide +kernel
theorem dX0_fromBits_8 : decode cX0_fromBits 8 = .ok (.iand, 1) := by decide +kernel
theorem dX0_fromBits_9 : decode cX0_fromBits 9 = .ok (.istore_n 2, 1) := by decide +kernel
theorem dX0_fromBits_10 : decode cX0_fromBits 10 = .ok (.lload_n 0, 1) := by decide +kernel
theorem dX0_fromBits_11 : decode cX0_fromBits 11 = .ok (.ldc2_w 13, 3) := by decide +kernel
theorem dX0_fromBits_14 : decode cX0_fromBits 14 = .ok (.land, 1) := by decide +kernel
theorem dX0_fromBits_15 : decode cX0_fromBits 15 = .ok (.lstore_n 3, 1) := by decide +kernel
theorem dX0_fromBits_16 : decode cX0_fromBits 16 = .ok (.iload_n 2, 1) := by decide +kernel
theorem dX0_fromBits_17 : decode cX0_fromBits 17 = .ok (.ifCond .ne 17, 3) := by decide +kernel
theorem dX0_fromBits_20 : decode cX0_fromBits 20 = .ok (.lload_n 3, 1) := by decide +kernel
theorem dX0_fromBits_21 : decode cX0_fromBits 21 = .ok (.l2d, 1) := by decide +kernel
theorem dX0_fromBits_22 : decode cX0_fromBits 22 = .ok (.sipush (-1074), 3) := by decide +kernel
theorem dX0_fromBits_25 : decode cX0_fromBits 25 = .ok (.invokestatic 15, 3) := by decide +kernel
theorem dX0_fromBits_28 : decode cX0_fromBits 28 = .ok (.dmul, 1) := by decide +kernel
theorem dX0_fromBits_29 : decode cX0_fromBits 29 = .ok (.dstore 5, 2) := by decide +kernel
theorem dX0_fromBits_31 : decode cX0_fromBits 31 = .ok (.goto 20, 3) := by decide +kernel
theorem dX0_fromBits_34 : decode cX0_fromBits 34 = .ok (.lload_n 3, 1) := by decide +kernel
theorem dX0_fromBits_35 : decode cX0_fromBits 35 = .ok (.ldc2_w 19, 3) := by decide +kernel
theorem dX0_fromBits_38 : decode cX0_fromBits 38 = .ok (.ladd, 1) := by decide +kernel
theorem dX0_fromBits_39 : decode cX0_fromBits 39 = .ok (.l2d, 1) := by decide +kernel
theorem dX0_fromBits_40 : decode cX0_fromBits 40 = .ok (.iload_n 2, 1) := by decide +kernel
theorem dX0_fromBits_41 : decode cX0_fromBits 41 = .ok (.sipush 1075, 3) := by decide +kernel
theorem dX0_fromBits_44 : decode cX0_fromBits 44 = .ok (.isub, 1) := by decide +kernel
theorem dX0_fromBits_45 : decode cX0_fromBits 45 = .ok (.invokestatic 15, 3) := by decide +kernel
theorem dX0_fromBits_48 : decode cX0_fromBits 48 = .ok (.dmul, 1) := by decide +kernel
theorem dX0_fromBits_49 : decode cX0_fromBits 49 = .ok (.dstore 5, 2) := by decide +kernel
theorem dX0_fromBits_51 : decode cX0_fromBits 51 = .ok (.lload_n 0, 1) := by decide +kernel
theorem dX0_fromBits_52 : decode cX0_fromBits 52 = .ok (.lconst 0, 1) := by decide +kernel
theorem dX0_fromBits_53 : decode cX0_fromBits 53 = .ok (.lcmp, 1) := by decide +kernel
theorem dX0_fromBits_54 : decode cX0_fromBits 54 = .ok (.ifCond .ge 9, 3) := by decide +kernel
theorem dX0_fromBits_57 : decode cX0_fromBits 57 = .ok (.dload 5, 2) := by decide +kernel
theorem dX0_fromBits_59 : decode cX0_fromBits 59 = .ok (.dneg, 1) := by decide +kernel
theorem dX0_fromBits_60 : decode cX0_fromBits 60 = .ok (.goto 5, 3) := by decide +kernel
theorem dX0_fromBits_63 : decode cX0_fromBits 63 = .ok (.dload 5, 2) := by decide +kernel
theorem dX0_fromBits_65 : decode cX0_fromBits 65 = .ok (.dreturn, 1) := by decide +kernel
theorem dX0_toBits_0 : decode cX0_toBits 0 = .ok (.dload_n 0, 1) := by decide +kernel
theorem dX0_toBits_1 : decode cX0_toBits 1 = .ok (.dconst 0, 1) := by decide +kernel
theorem dX0_toBits_2 : decode cX0_toBits 2 = .ok (.dcmp .g, 1) := by decide +kernel
theorem dX0_toBits_3 : decode cX0_toBits 3 = .ok (.ifCond .lt 10, 3) := by decide +kernel
theorem dX0_toBits_6 : decode cX0_toBits 6 = .ok (.dload_n 0, 1) := by decide +kernel
theorem dX0_toBits_7 : decode cX0_toBits 7 = .ok (.invokestatic 21, 3) := by decide +kernel
theorem dX0_toBits_10 : decode cX0_toBits 10 = .ok (.ifCond .eq 9, 3) := by decide +kernel
theorem dX0_toBits_13 : decode cX0_toBits 13 = .ok (.ldc2_w 25, 3) := by decide +kernel
theorem dX0_toBits_16 : decode cX0_toBits 16 = .ok (.goto 4, 3) := by decide +kernel
theorem dX0_toBits_19 : decode cX0_toBits 19 = .ok (.lconst 0, 1) := by decide +kernel
theorem dX0_toBits_20 : decode cX0_toBits 20 = .ok (.lstore_n 2, 1) := by decide +kernel
theorem dX0_toBits_21 : decode cX0_toBits 21 = .ok (.dload_n 0, 1) := by decide +kernel
theorem dX0_toBits_22 : decode cX0_toBits 22 = .ok (.invokestatic 27, 3) := by decide +kernel
theorem dX0_toBits_25 : decode cX0_toBits 25 = .ok (.ifCond .eq 11, 3) := by decide +kernel
theorem dX0_toBits_28 : decode cX0_toBits 28 = .ok (.lload_n 2, 1) := by decide +kernel
theorem dX0_toBits_29 : decode cX0_toBits 29 = .ok (.ldc2_w 11, 3) := by decide +kernel
theorem dX0_toBits_32 : decode cX0_toBits 32 = .ok (.lor, 1) := by decide +kernel
theorem dX0_toBits_33 : decode cX0_toBits 33 = .ok (.goto 12, 3) := by decide +kernel
theorem dX0_toBits_36 : decode cX0_toBits 36 = .ok (.lload_n 2, 1) := by decide +kernel
theorem dX0_toBits_37 : decode cX0_toBits 37 = .ok (.dload_n 0, 1) := by decide +kernel
theorem dX0_toBits_38 : decode cX0_toBits 38 = .ok (.invokestatic 30, 3) := by decide +kernel
theorem dX0_toBits_41 : decode cX0_toBits 41 = .ok (.invokestatic 34, 3) := by decide +kernel
theorem dX0_toBits_44 : decode cX0_toBits 44 = .ok (.lor, 1) := by decide +kernel
theorem dX0_toBits_45 : decode cX0_toBits 45 = .ok (.lreturn, 1) := by decide +kernel
theorem dX0_bitsOfSize_0 : decode cX0_bitsOfSize 0 = .ok (.dload_n 0, 1) := by decide +kernel
theorem dX0_bitsOfSize_1 : decode cX0_bitsOfSize 1 = .ok (.dstore_n 2, 1) := by decide +kernel
theorem dX0_bitsOfSize_2 : decode cX0_bitsOfSize 2 = .ok (.sipush 1075, 3) := by decide +kernel
theorem dX0_bitsOfSize_5 : decode cX0_bitsOfSize 5 = .ok (.istore 4, 2) := by decide +kernel
theorem dX0_bitsOfSize_7 : decode cX0_bitsOfSize 7 = .ok (.sipush 512, 3) := by decide +kernel
theorem dX0_bitsOfSize_10 : decode cX0_bitsOfSize 10 = .ok (.istore 5, 2) := by decide +kernel
theorem dX0_bitsOfSize_12 : decode cX0_bitsOfSize 12 = .ok (.iload 5, 2) := by decide +kernel
theorem dX0_bitsOfSize_14 : decode cX0_bitsOfSize 14 = .ok (.ifCond .le 41, 3) := by decide +kernel
theorem dX0_bitsOfSize_17 : decode cX0_bitsOfSize 17 = .ok (.dload_n 2, 1) := by decide +kernel
theorem dX0_bitsOfSize_18 : decode cX0_bitsOfSize 18 = .ok (.bipush 52, 2) := by decide +kernel
theorem dX0_bitsOfSize_20 : decode cX0_bitsOfSize 20 = .ok (.iload 5, 2) := by decide +kernel
theorem dX0_bitsOfSize_22 : decode cX0_bitsOfSize 22 = .ok (.iadd, 1) := by decide +kernel
theorem dX0_bitsOfSize_23 : decode cX0_bitsOfSize 23 = .ok (.invokestatic 15, 3) := by decide +kernel
theorem dX0_bitsOfSize_26 : decode cX0_bitsOfSize 26 = .ok (.dcmp .l, 1) := by decide +kernel
theorem dX0_bitsOfSize_27 : decode cX0_bitsOfSize 27 = .ok (.ifCond .lt 19, 3) := by decide +kernel
theorem dX0_bitsOfSize_30 : decode cX0_bitsOfSize 30 = .ok (.dload_n 2, 1) := by decide +kernel
theorem dX0_bitsOfSize_31 : decode cX0_bitsOfSize 31 = .ok (.iload 5, 2) := by decide +kernel
theorem dX0_bitsOfSize_33 : decode cX0_bitsOfSize 33 = .ok (.ineg, 1) := by decide +kernel
theorem dX0_bitsOfSize_34 : decode cX0_bitsOfSize 34 = .ok (.invokestatic 15, 3) := by decide +kernel
theorem dX0_bitsOfSize_37 : decode cX0_bitsOfSize 37 = .ok (.dmul, 1) := by decide +kernel
theorem dX0_bitsOfSize_38 : decode cX0_bitsOfSize 38 = .ok (.dstore_n 2, 1) := by decide +kernel
theorem dX0_bitsOfSize_39 : decode cX0_bitsOfSize 39 = .ok (.iload 4, 2) := by decide +kernel
theorem dX0_bitsOfSize_41 : decode cX0_bitsOfSize 41 = .ok (.iload 5, 2) := by decide +kernel
theorem dX0_bitsOfSize_43 : decode cX0_bitsOfSize 43 = .ok (.iadd, 1) := by decide +kernel
theorem dX0_bitsOfSize_44 : decode cX0_bitsOfSize 44 = .ok (.istore 4, 2) := by decide +kernel
theorem dX0_bitsOfSize_46 : decode cX0_bitsOfSize 46 = .ok (.iload 5, 2) := by decide +kernel
theorem dX0_bitsOfSize_48 : decode cX0_bitsOfSize 48 = .ok (.iconst 2, 1) := by decide +kernel
theorem dX0_bitsOfSize_49 : decode cX0_bitsOfSize 49 = .ok (.idiv, 1) := by decide +kernel
theorem dX0_bitsOfSize_50 : decode cX0_bitsOfSize 50 = .ok (.istore 5, 2) := by decide +kernel
theorem dX0_bitsOfSize_52 : decode cX0_bitsOfSize 52 = .ok (.goto (-40), 3) := by decide +kernel
theorem dX0_bitsOfSize_55 : decode cX0_bitsOfSize 55 = .ok (.sipush 1024, 3) := by decide +kernel
theorem dX0_bitsOfSize_58 : decode cX0_bitsOfSize 58 = .ok (.istore 5, 2) := by decide +kernel
theorem dX0_bitsOfSize_60 : decode cX0_bitsOfSize 60 = .ok (.iload 5, 2) := by decide +kernel
theorem dX0_bitsOfSize_62 : decode cX0_bitsOfSize 62 = .ok (.ifCond .le 65, 3) := by decide +kernel
theorem dX0_bitsOfSize_65 : decode cX0_bitsOfSize 65 = .ok (.iload 5, 2) := by decide +kernel
theorem dX0_bitsOfSize_67 : decode cX0_bitsOfSize 67 = .ok (.sipush 512, 3) := by decide +kernel
theorem dX0_bitsOfSize_70 : decode cX0_bitsOfSize 70 = .ok (.if_icmp .le 9, 3) := by decide +kernel
theorem dX0_bitsOfSize_73 : decode cX0_bitsOfSize 73 = .ok (.sipush 512, 3) := by decide +kernel
theorem dX0_bitsOfSize_76 : decode cX0_bitsOfSize 76 = .ok (.goto 5, 3) := by decide +kernel
theorem dX0_bitsOfSize_79 : decode cX0_bitsOfSize 79 = .ok (.iload 5, 2) := by decide +kernel
theorem dX0_bitsOfSize_81 : decode cX0_bitsOfSize 81 = .ok (.istore 6, 2) := by decide +kernel
theorem dX0_bitsOfSize_83 : decode cX0_bitsOfSize 83 = .ok (.dload_n 2, 1) := by decide +kernel
theorem dX0_bitsOfSize_84 : decode cX0_bitsOfSize 84 = .ok (.bipush 53, 2) := by decide +kernel
theorem dX0_bitsOfSize_86 : decode cX0_bitsOfSize 86 = .ok (.iload 6, 2) := by decide +kernel
theorem dX0_bitsOfSize_88 : decode cX0_bitsOfSize 88 = .ok (.isub, 1) := by decide +kernel
theorem dX0_bitsOfSize_89 : decode cX0_bitsOfSize 89 = .ok (.invokestatic 15, 3) := by decide +kernel
theorem dX0_bitsOfSize_92 : decode cX0_bitsOfSize 92 = .ok (.dcmp .g, 1) := by decide +kernel
theorem dX0_bitsOfSize_93 : decode cX0_bitsOfSize 93 = .ok (.ifCond .ge 25, 3) := by decide +kernel
theorem dX0_bitsOfSize_96 : decode cX0_bitsOfSize 96 = .ok (.iload 4, 2) := by decide +kernel
theorem dX0_bitsOfSize_98 : decode cX0_bitsOfSize 98 = .ok (.iload 6, 2) := by decide +kernel
theorem dX0_bitsOfSize_100 : decode cX0_bitsOfSize 100 = .ok (.if_icmp .le 18, 3) := by decide +kernel
theorem dX0_bitsOfSize_103 : decode cX0_bitsOfSize 103 = .ok (.dload_n 2, 1) := by decide +kernel
theorem dX0_bitsOfSize_104 : decode cX0_bitsOfSize 104 = .ok (.iload 6, 2) := by decide +kernel
theorem dX0_bitsOfSize_106 : decode cX0_bitsOfSize 106 = .ok (.invokestatic 15, 3) := by decide +kernel
theorem dX0_bitsOfSize_109 : decode cX0_bitsOfSize 109 = .ok (.dmul, 1) := by decide +kernel
theorem dX0_bitsOfSize_110 : decode cX0_bitsOfSize 110 = .ok (.dstore_n 2, 1) := by decide +kernel
theorem dX0_bitsOfSize_111 : decode cX0_bitsOfSize 111 = .ok (.iload 4, 2) := by decide +kernel
theorem dX0_bitsOfSize_113 : decode cX0_bitsOfSize 113 = .ok (.iload 6, 2) := by decide +kernel
theorem dX0_bitsOfSize_115 : decode cX0_bitsOfSize 115 = .ok (.isub, 1) := by decide +kernel
theorem dX0_bitsOfSize_116 : decode cX0_bitsOfSize 116 = .ok (.istore 4, 2) := by decide +kernel
theorem dX0_bitsOfSize_118 : decode cX0_bitsOfSize 118 = .ok (.iload 5, 2) := by decide +kernel
theorem dX0_bitsOfSize_120 : decode cX0_bitsOfSize 120 = .ok (.iconst 2, 1) := by decide +kernel
theorem dX0_bitsOfSize_121 : decode cX0_bitsOfSize 121 = .ok (.idiv, 1) := by decide +kernel
theorem dX0_bitsOfSize_122 : decode cX0_bitsOfSize 122 = .ok (.istore 5, 2) := by decide +kernel
theorem dX0_bitsOfSize_124 : decode cX0_bitsOfSize 124 = .ok (.goto (-64), 3) := by decide +kernel
theorem dX0_bitsOfSize_127 : decode cX0_bitsOfSize 127 = .ok (.iload 4, 2) := by decide +kernel
theorem dX0_bitsOfSize_129 : decode cX0_bitsOfSize 129 = .ok (.iconst 1, 1) := by decide +kernel
theorem dX0_bitsOfSize_130 : decode cX0_bitsOfSize 130 = .ok (.isub, 1) := by decide +kernel
theorem dX0_bitsOfSize_131 : decode cX0_bitsOfSize 131 = .ok (.i2l, 1) := by decide +kernel
theorem dX0_bitsOfSize_132 : decode cX0_bitsOfSize 132 = .ok (.bipush 52, 2) := by decide +kernel
theorem dX0_bitsOfSize_134 : decode cX0_bitsOfSize 134 = .ok (.lshl, 1) := by decide +kernel
theorem dX0_bitsOfSize_135 : decode cX0_bitsOfSize 135 = .ok (.dload_n 2, 1) := by decide +kernel
theorem dX0_bitsOfSize_136 : decode cX0_bitsOfSize 136 = .ok (.d2l, 1) := by decide +kernel
theorem dX0_bitsOfSize_137 : decode cX0_bitsOfSize 137 = .ok (.ladd, 1) := by decide +kernel
theorem dX0_bitsOfSize_138 : decode cX0_bitsOfSize 138 = .ok (.lreturn, 1) := by decide +kernel
theorem dX0_powerOfTwo_0 : decode cX0_powerOfTwo 0 = .ok (.dconst 1, 1) := by decide +kernel
theorem dX0_powerOfTwo_1 : decode cX0_powerOfTwo 1 = .ok (.dstore_n 1, 1) := by decide +kernel
theorem dX0_powerOfTwo_2 : decode cX0_powerOfTwo 2 = .ok (.iload_n 0, 1) := by decide +kernel
theorem dX0_powerOfTwo_3 : decode cX0_powerOfTwo 3 = .ok (.ifCond .ge 9, 3) := by decide +kernel
theorem dX0_powerOfTwo_6 : decode cX0_powerOfTwo 6 = .ok (.ldc2_w 38, 3) := by decide +kernel
theorem dX0_powerOfTwo_9 : decode cX0_powerOfTwo 9 = .ok (.goto 6, 3) := by decide +kernel
theorem dX0_powerOfTwo_12 : decode cX0_powerOfTwo 12 = .ok (.ldc2_w 40, 3) := by decide +kernel
theorem dX0_powerOfTwo_15 : decode cX0_powerOfTwo 15 = .ok (.dstore_n 3, 1) := by decide +kernel
theorem dX0_powerOfTwo_16 : decode cX0_powerOfTwo 16 = .ok (.iload_n 0, 1) := by decide +kernel
theorem dX0_powerOfTwo_17 : decode cX0_powerOfTwo 17 = .ok (.ifCond .ge 8, 3) := by decide +kernel
theorem dX0_powerOfTwo_20 : decode cX0_powerOfTwo 20 = .ok (.iload_n 0, 1) := by decide +kernel
theorem dX0_powerOfTwo_21 : decode cX0_powerOfTwo 21 = .ok (.ineg, 1) := by decide +kernel
theorem dX0_powerOfTwo_22 : decode cX0_powerOfTwo 22 = .ok (.goto 4, 3) := by decide +kernel
theorem dX0_powerOfTwo_25 : decode cX0_powerOfTwo 25 = .ok (.iload_n 0, 1) := by decide +kernel
theorem dX0_powerOfTwo_26 : decode cX0_powerOfTwo 26 = .ok (.istore 5, 2) := by decide +kernel
theorem dX0_powerOfTwo_28 : decode cX0_powerOfTwo 28 = .ok (.iload 5, 2) := by decide +kernel
theorem dX0_powerOfTwo_30 : decode cX0_powerOfTwo 30 = .ok (.ifCond .le 28, 3) := by decide +kernel
theorem dX0_powerOfTwo_33 : decode cX0_powerOfTwo 33 = .ok (.iload 5, 2) := by decide +kernel
theorem dX0_powerOfTwo_35 : decode cX0_powerOfTwo 35 = .ok (.iconst 2, 1) := by decide +kernel
theorem dX0_powerOfTwo_36 : decode cX0_powerOfTwo 36 = .ok (.irem, 1) := by decide +kernel
theorem dX0_powerOfTwo_37 : decode cX0_powerOfTwo 37 = .ok (.iconst 1, 1) := by decide +kernel
theorem dX0_powerOfTwo_38 : decode cX0_powerOfTwo 38 = .ok (.if_icmp .ne 7, 3) := by decide +kernel
theorem dX0_powerOfTwo_41 : decode cX0_powerOfTwo 41 = .ok (.dload_n 1, 1) := by decide +kernel
theorem dX0_powerOfTwo_42 : decode cX0_powerOfTwo 42 = .ok (.dload_n 3, 1) := by decide +kernel
theorem dX0_powerOfTwo_43 : decode cX0_powerOfTwo 43 = .ok (.dmul, 1) := by decide +kernel
theorem dX0_powerOfTwo_44 : decode cX0_powerOfTwo 44 = .ok (.dstore_n 1, 1) := by decide +kernel
theorem dX0_powerOfTwo_45 : decode cX0_powerOfTwo 45 = .ok (.dload_n 3, 1) := by decide +kernel
theorem dX0_powerOfTwo_46 : decode cX0_powerOfTwo 46 = .ok (.dload_n 3, 1) := by decide +kernel
theorem dX0_powerOfTwo_47 : decode cX0_powerOfTwo 47 = .ok (.dmul, 1) := by decide +kernel
theorem dX0_powerOfTwo_48 : decode cX0_powerOfTwo 48 = .ok (.dstore_n 3, 1) := by decide +kernel
theorem dX0_powerOfTwo_49 : decode cX0_powerOfTwo 49 = .ok (.iload 5, 2) := by decide +kernel
theorem dX0_powerOfTwo_51 : decode cX0_powerOfTwo 51 = .ok (.iconst 2, 1) := by decide +kernel
theorem dX0_powerOfTwo_52 : decode cX0_powerOfTwo 52 = .ok (.idiv, 1) := by decide +kernel
theorem dX0_powerOfTwo_53 : decode cX0_powerOfTwo 53 = .ok (.istore 5, 2) := by decide +kernel
theorem dX0_powerOfTwo_55 : decode cX0_powerOfTwo 55 = .ok (.goto (-27), 3) := by decide +kernel
theorem dX0_powerOfTwo_58 : decode cX0_powerOfTwo 58 = .ok (.dload_n 1, 1) := by decide +kernel
theorem dX0_powerOfTwo_59 : decode cX0_powerOfTwo 59 = .ok (.dreturn, 1) := by decide +kernel
theorem dX0_isEndless_0 : decode cX0_isEndless 0 = .ok (.dload_n 0, 1) := by decide +kernel
theorem dX0_isEndless_1 : decode cX0_isEndless 1 = .ok (.ldc2_w 42, 3) := by decide +kernel
theorem dX0_isEndless_4 : decode cX0_isEndless 4 = .ok (.dcmp .l, 1) := by decide +kernel
theorem dX0_isEndless_5 : decode cX0_isEndless 5 = .ok (.ifCond .gt 11, 3) := by decide +kernel
theorem dX0_isEndless_8 : decode cX0_isEndless 8 = .ok (.dload_n 0, 1) := by decide +kernel
theorem dX0_isEndless_9 : decode cX0_isEndless 9 = .ok (.ldc2_w 44, 3) := by decide +kernel
theorem dX0_isEndless_12 : decode cX0_isEndless 12 = .ok (.dcmp .g, 1) := by decide +kernel
theorem dX0_isEndless_13 : decode cX0_isEndless 13 = .ok (.ifCond .ge 7, 3) := by decide +kernel
theorem dX0_isEndless_16 : decode cX0_isEndless 16 = .ok (.iconst 1, 1) := by decide +kernel
theorem dX0_isEndless_17 : decode cX0_isEndless 17 = .ok (.goto 4, 3) := by decide +kernel
theorem dX0_isEndless_20 : decode cX0_isEndless 20 = .ok (.iconst 0, 1) := by decide +kernel
theorem dX0_isEndless_21 : decode cX0_isEndless 21 = .ok (.ireturn, 1) := by decide +kernel
theorem dX0_isNegativeZero_0 : decode cX0_isNegativeZero 0 = .ok (.dload_n 0, 1) := by decide +kernel
theorem dX0_isNegativeZero_1 : decode cX0_isNegativeZero 1 = .ok (.dconst 0, 1) := by decide +kernel
theorem dX0_isNegativeZero_2 : decode cX0_isNegativeZero 2 = .ok (.dcmp .l, 1) := by decide +kernel
theorem dX0_isNegativeZero_3 : decode cX0_isNegativeZero 3 = .ok (.ifCond .ne 15, 3) := by decide +kernel
theorem dX0_isNegativeZero_6 : decode cX0_isNegativeZero 6 = .ok (.dconst 1, 1) := by decide +kernel
theorem dX0_isNegativeZero_7 : decode cX0_isNegativeZero 7 = .ok (.dload_n 0, 1) := by decide +kernel
theorem dX0_isNegativeZero_8 : decode cX0_isNegativeZero 8 = .ok (.ddiv, 1) := by decide +kernel
theorem dX0_isNegativeZero_9 : decode cX0_isNegativeZero 9 = .ok (.dconst 0, 1) := by decide +kernel
theorem dX0_isNegativeZero_10 : decode cX0_isNegativeZero 10 = .ok (.dcmp .g, 1) := by decide +kernel
theorem dX0_isNegativeZero_11 : decode cX0_isNegativeZero 11 = .ok (.ifCond .ge 7, 3) := by decide +kernel
theorem dX0_isNegativeZero_14 : decode cX0_isNegativeZero 14 = .ok (.iconst 1, 1) := by decide +kernel
theorem dX0_isNegativeZero_15 : decode cX0_isNegativeZero 15 = .ok (.goto 4, 3) := by decide +kernel
theorem dX0_isNegativeZero_18 : decode cX0_isNegativeZero 18 = .ok (.iconst 0, 1) := by decide +kernel
theorem dX0_isNegativeZero_19 : decode cX0_isNegativeZero 19 = .ok (.ireturn, 1) := by decide +kernel
theorem dX0_sizeOf_0 : decode cX0_sizeOf 0 = .ok (.dload_n 0, 1) := by decide +kernel
theorem dX0_sizeOf_1 : decode cX0_sizeOf 1 = .ok (.dconst 0, 1) := by decide +kernel
theorem dX0_sizeOf_2 : decode cX0_sizeOf 2 = .ok (.dcmp .g, 1) := by decide +kernel
theorem dX0_sizeOf_3 : decode cX0_sizeOf 3 = .ok (.ifCond .ge 8, 3) := by decide +kernel
theorem dX0_sizeOf_6 : decode cX0_sizeOf 6 = .ok (.dload_n 0, 1) := by decide +kernel
theorem dX0_sizeOf_7 : decode cX0_sizeOf 7 = .ok (.dneg, 1) := by decide +kernel
theorem dX0_sizeOf_8 : decode cX0_sizeOf 8 = .ok (.goto 4, 3) := by decide +kernel
theorem dX0_sizeOf_11 : decode cX0_sizeOf 11 = .ok (.dload_n 0, 1) := by decide +kernel
theorem dX0_sizeOf_12 : decode cX0_sizeOf 12 = .ok (.dreturn, 1) := by decide +kernel
theorem dX0_greaterOf_0 : decode cX0_greaterOf 0 = .ok (.dload_n 0, 1) := by decide +kernel
theorem dX0_greaterOf_1 : decode cX0_greaterOf 1 = .ok (.dload_n 2, 1) := by decide +kernel
theorem dX0_greaterOf_2 : decode cX0_greaterOf 2 = .ok (.dcmp .l, 1) := by decide +kernel
theorem dX0_greaterOf_3 : decode cX0_greaterOf 3 = .ok (.ifCond .ne 16, 3) := by decide +kernel
theorem dX0_greaterOf_6 : decode cX0_greaterOf 6 = .ok (.dload_n 0, 1) := by decide +kernel
theorem dX0_greaterOf_7 : decode cX0_greaterOf 7 = .ok (.invokestatic 21, 3) := by decide +kernel
theorem dX0_greaterOf_10 : decode cX0_greaterOf 10 = .ok (.ifCond .eq 7, 3) := by decide +kernel
theorem dX0_greaterOf_13 : decode cX0_greaterOf 13 = .ok (.dload_n 2, 1) := by decide +kernel
theorem dX0_greaterOf_14 : decode cX0_greaterOf 14 = .ok (.goto 4, 3) := by decide +kernel
theorem dX0_greaterOf_17 : decode cX0_greaterOf 17 = .ok (.dload_n 0, 1) := by decide +kernel
theorem dX0_greaterOf_18 : decode cX0_greaterOf 18 = .ok (.dreturn, 1) := by decide +kernel
theorem dX0_greaterOf_19 : decode cX0_greaterOf 19 = .ok (.dload_n 0, 1) := by decide +kernel
theorem dX0_greaterOf_20 : decode cX0_greaterOf 20 = .ok (.dload_n 2, 1) := by decide +kernel
theorem dX0_greaterOf_21 : decode cX0_greaterOf 21 = .ok (.dcmp .l, 1) := by decide +kernel
theorem dX0_greaterOf_22 : decode cX0_greaterOf 22 = .ok (.ifCond .le 7, 3) := by decide +kernel
theorem dX0_greaterOf_25 : decode cX0_greaterOf 25 = .ok (.dload_n 0, 1) := by decide +kernel
theorem dX0_greaterOf_26 : decode cX0_greaterOf 26 = .ok (.goto 4, 3) := by decide +kernel
theorem dX0_greaterOf_29 : decode cX0_greaterOf 29 = .ok (.dload_n 2, 1) := by decide +kernel
theorem dX0_greaterOf_30 : decode cX0_greaterOf 30 = .ok (.dreturn, 1) := by decide +kernel
theorem dX0_floorOf_0 : decode cX0_floorOf 0 = .ok (.dload_n 0, 1) := by decide +kernel
theorem dX0_floorOf_1 : decode cX0_floorOf 1 = .ok (.dconst 0, 1) := by decide +kernel
theorem dX0_floorOf_2 : decode cX0_floorOf 2 = .ok (.dcmp .l, 1) := by decide +kernel
theorem dX0_floorOf_3 : decode cX0_floorOf 3 = .ok (.ifCond .eq 14, 3) := by decide +kernel
theorem dX0_floorOf_6 : decode cX0_floorOf 6 = .ok (.dload_n 0, 1) := by decide +kernel
theorem dX0_floorOf_7 : decode cX0_floorOf 7 = .ok (.invokestatic 30, 3) := by decide +kernel
theorem dX0_floorOf_10 : decode cX0_floorOf 10 = .ok (.ldc2_w 46, 3) := by decide +kernel
theorem dX0_floorOf_13 : decode cX0_floorOf 13 = .ok (.dcmp .l, 1) := by decide +kernel
theorem dX0_floorOf_14 : decode cX0_floorOf 14 = .ok (.ifCond .lt 5, 3) := by decide +kernel
theorem dX0_floorOf_17 : decode cX0_floorOf 17 = .ok (.dload_n 0, 1) := by decide +kernel
theorem dX0_floorOf_18 : decode cX0_floorOf 18 = .ok (.dreturn, 1) := by decide +kernel
theorem dX0_floorOf_19 : decode cX0_floorOf 19 = .ok (.dload_n 0, 1) := by decide +kernel
theorem dX0_floorOf_20 : decode cX0_floorOf 20 = .ok (.d2l, 1) := by decide +kernel
theorem dX0_floorOf_21 : decode cX0_floorOf 21 = .ok (.l2d, 1) := by decide +kernel
theorem dX0_floorOf_22 : decode cX0_floorOf 22 = .ok (.dstore_n 2, 1) := by decide +kernel
theorem dX0_floorOf_23 : decode cX0_floorOf 23 = .ok (.dload_n 2, 1) := by decide +kernel
theorem dX0_floorOf_24 : decode cX0_floorOf 24 = .ok (.dload_n 0, 1) := by decide +kernel
theorem dX0_floorOf_25 : decode cX0_floorOf 25 = .ok (.dcmp .l, 1) := by decide +kernel
theorem dX0_floorOf_26 : decode cX0_floorOf 26 = .ok (.ifCond .le 9, 3) := by decide +kernel
theorem dX0_floorOf_29 : decode cX0_floorOf 29 = .ok (.dload_n 2, 1) := by decide +kernel
theorem dX0_floorOf_30 : decode cX0_floorOf 30 = .ok (.dconst 1, 1) := by decide +kernel
theorem dX0_floorOf_31 : decode cX0_floorOf 31 = .ok (.dsub, 1) := by decide +kernel
theorem dX0_floorOf_32 : decode cX0_floorOf 32 = .ok (.goto 4, 3) := by decide +kernel
theorem dX0_floorOf_35 : decode cX0_floorOf 35 = .ok (.dload_n 2, 1) := by decide +kernel
theorem dX0_floorOf_36 : decode cX0_floorOf 36 = .ok (.dreturn, 1) := by decide +kernel
theorem dX0_rootOf_0 : decode cX0_rootOf 0 = .ok (.iload_n 0, 1) := by decide +kernel
theorem dX0_rootOf_1 : decode cX0_rootOf 1 = .ok (.ifCond .gt 5, 3) := by decide +kernel
theorem dX0_rootOf_4 : decode cX0_rootOf 4 = .ok (.dconst 0, 1) := by decide +kernel
theorem dX0_rootOf_5 : decode cX0_rootOf 5 = .ok (.dreturn, 1) := by decide +kernel
theorem dX0_rootOf_6 : decode cX0_rootOf 6 = .ok (.lconst 0, 1) := by decide +kernel
theorem dX0_rootOf_7 : decode cX0_rootOf 7 = .ok (.lstore_n 1, 1) := by decide +kernel
theorem dX0_rootOf_8 : decode cX0_rootOf 8 = .ok (.lconst 0, 1) := by decide +kernel
theorem dX0_rootOf_9 : decode cX0_rootOf 9 = .ok (.lstore_n 3, 1) := by decide +kernel
theorem dX0_rootOf_10 : decode cX0_rootOf 10 = .ok (.iconst 0, 1) := by decide +kernel
theorem dX0_rootOf_11 : decode cX0_rootOf 11 = .ok (.istore 5, 2) := by decide +kernel
theorem dX0_rootOf_13 : decode cX0_rootOf 13 = .ok (.iconst 0, 1) := by decide +kernel
theorem dX0_rootOf_14 : decode cX0_rootOf 14 = .ok (.istore 6, 2) := by decide +kernel
theorem dX0_rootOf_16 : decode cX0_rootOf 16 = .ok (.iload 6, 2) := by decide +kernel
theorem dX0_rootOf_18 : decode cX0_rootOf 18 = .ok (.bipush 60, 2) := by decide +kernel
theorem dX0_rootOf_20 : decode cX0_rootOf 20 = .ok (.if_icmp .ge 96, 3) := by decide +kernel
theorem dX0_rootOf_23 : decode cX0_rootOf 23 = .ok (.lload_n 1, 1) := by decide +kernel
theorem dX0_rootOf_24 : decode cX0_rootOf 24 = .ok (.ldc2_w 48, 3) := by decide +kernel
theorem dX0_rootOf_27 : decode cX0_rootOf 27 = .ok (.lcmp, 1) := by decide +kernel
theorem dX0_rootOf_28 : decode cX0_rootOf 28 = .ok (.ifCond .ge 88, 3) := by decide +kernel
theorem dX0_rootOf_31 : decode cX0_rootOf 31 = .ok (.iload 6, 2) := by decide +kernel
theorem dX0_rootOf_33 : decode cX0_rootOf 33 = .ok (.iconst 5, 1) := by decide +kernel
theorem dX0_rootOf_34 : decode cX0_rootOf 34 = .ok (.if_icmp .ge 7, 3) := by decide +kernel
theorem dX0_rootOf_37 : decode cX0_rootOf 37 = .ok (.iconst 1, 1) := by decide +kernel
theorem dX0_rootOf_38 : decode cX0_rootOf 38 = .ok (.goto 4, 3) := by decide +kernel
theorem dX0_rootOf_41 : decode cX0_rootOf 41 = .ok (.iconst 0, 1) := by decide +kernel
theorem dX0_rootOf_42 : decode cX0_rootOf 42 = .ok (.istore 7, 2) := by decide +kernel
theorem dX0_rootOf_44 : decode cX0_rootOf 44 = .ok (.lload_n 3, 1) := by decide +kernel
theorem dX0_rootOf_45 : decode cX0_rootOf 45 = .ok (.ldc2_w 50, 3) := by decide +kernel
theorem dX0_rootOf_48 : decode cX0_rootOf 48 = .ok (.lmul, 1) := by decide +kernel
theorem dX0_rootOf_49 : decode cX0_rootOf 49 = .ok (.iload 7, 2) := by decide +kernel
theorem dX0_rootOf_51 : decode cX0_rootOf 51 = .ok (.ifCond .eq 16, 3) := by decide +kernel
theorem dX0_rootOf_54 : decode cX0_rootOf 54 = .ok (.iload_n 0, 1) := by decide +kernel
theorem dX0_rootOf_55 : decode cX0_rootOf 55 = .ok (.iconst 2, 1) := by decide +kernel
theorem dX0_rootOf_56 : decode cX0_rootOf 56 = .ok (.iconst 4, 1) := by decide +kernel
theorem dX0_rootOf_57 : decode cX0_rootOf 57 = .ok (.iload 6, 2) := by decide +kernel
theorem dX0_rootOf_59 : decode cX0_rootOf 59 = .ok (.isub, 1) := by decide +kernel
theorem dX0_rootOf_60 : decode cX0_rootOf 60 = .ok (.imul, 1) := by decide +kernel
theorem dX0_rootOf_61 : decode cX0_rootOf 61 = .ok (.ishr, 1) := by decide +kernel
theorem dX0_rootOf_62 : decode cX0_rootOf 62 = .ok (.iconst 3, 1) := by decide +kernel
theorem dX0_rootOf_63 : decode cX0_rootOf 63 = .ok (.iand, 1) := by decide +kernel
theorem dX0_rootOf_64 : decode cX0_rootOf 64 = .ok (.goto 4, 3) := by decide +kernel
theorem dX0_rootOf_67 : decode cX0_rootOf 67 = .ok (.iconst 0, 1) := by decide +kernel
theorem dX0_rootOf_68 : decode cX0_rootOf 68 = .ok (.i2l, 1) := by decide +kernel
theorem dX0_rootOf_69 : decode cX0_rootOf 69 = .ok (.ladd, 1) := by decide +kernel
theorem dX0_rootOf_70 : decode cX0_rootOf 70 = .ok (.lstore_n 3, 1) := by decide +kernel
theorem dX0_rootOf_71 : decode cX0_rootOf 71 = .ok (.lload_n 1, 1) := by decide +kernel
theorem dX0_rootOf_72 : decode cX0_rootOf 72 = .ok (.ldc2_w 50, 3) := by decide +kernel
theorem dX0_rootOf_75 : decode cX0_rootOf 75 = .ok (.lmul, 1) := by decide +kernel
theorem dX0_rootOf_76 : decode cX0_rootOf 76 = .ok (.lconst 1, 1) := by decide +kernel
theorem dX0_rootOf_77 : decode cX0_rootOf 77 = .ok (.ladd, 1) := by decide +kernel
theorem dX0_rootOf_78 : decode cX0_rootOf 78 = .ok (.lstore 8, 2) := by decide +kernel
theorem dX0_rootOf_80 : decode cX0_rootOf 80 = .ok (.lload_n 1, 1) := by decide +kernel
theorem dX0_rootOf_81 : decode cX0_rootOf 81 = .ok (.ldc2_w 52, 3) := by decide +kernel
theorem dX0_rootOf_84 : decode cX0_rootOf 84 = .ok (.lmul, 1) := by decide +kernel
theorem dX0_rootOf_85 : decode cX0_rootOf 85 = .ok (.lstore_n 1, 1) := by decide +kernel
theorem dX0_rootOf_86 : decode cX0_rootOf 86 = .ok (.lload_n 3, 1) := by decide +kernel
theorem dX0_rootOf_87 : decode cX0_rootOf 87 = .ok (.lload 8, 2) := by decide +kernel
theorem dX0_rootOf_89 : decode cX0_rootOf 89 = .ok (.lcmp, 1) := by decide +kernel
theorem dX0_rootOf_90 : decode cX0_rootOf 90 = .ok (.ifCond .lt 12, 3) := by decide +kernel
theorem dX0_rootOf_93 : decode cX0_rootOf 93 = .ok (.lload_n 3, 1) := by decide +kernel
theorem dX0_rootOf_94 : decode cX0_rootOf 94 = .ok (.lload 8, 2) := by decide +kernel
theorem dX0_rootOf_96 : decode cX0_rootOf 96 = .ok (.lsub, 1) := by decide +kernel
theorem dX0_rootOf_97 : decode cX0_rootOf 97 = .ok (.lstore_n 3, 1) := by decide +kernel
theorem dX0_rootOf_98 : decode cX0_rootOf 98 = .ok (.lload_n 1, 1) := by decide +kernel
theorem dX0_rootOf_99 : decode cX0_rootOf 99 = .ok (.lconst 1, 1) := by decide +kernel
theorem dX0_rootOf_100 : decode cX0_rootOf 100 = .ok (.ladd, 1) := by decide +kernel
theorem dX0_rootOf_101 : decode cX0_rootOf 101 = .ok (.lstore_n 1, 1) := by decide +kernel
theorem dX0_rootOf_102 : decode cX0_rootOf 102 = .ok (.iload 7, 2) := by decide +kernel
theorem dX0_rootOf_104 : decode cX0_rootOf 104 = .ok (.ifCond .ne 6, 3) := by decide +kernel
theorem dX0_rootOf_107 : decode cX0_rootOf 107 = .ok (.iinc 5 1, 3) := by decide +kernel
theorem dX0_rootOf_110 : decode cX0_rootOf 110 = .ok (.iinc 6 1, 3) := by decide +kernel
theorem dX0_rootOf_113 : decode cX0_rootOf 113 = .ok (.goto (-97), 3) := by decide +kernel
theorem dX0_rootOf_116 : decode cX0_rootOf 116 = .ok (.lload_n 1, 1) := by decide +kernel
theorem dX0_rootOf_117 : decode cX0_rootOf 117 = .ok (.lconst 1, 1) := by decide +kernel
theorem dX0_rootOf_118 : decode cX0_rootOf 118 = .ok (.ladd, 1) := by decide +kernel
theorem dX0_rootOf_119 : decode cX0_rootOf 119 = .ok (.ldc2_w 52, 3) := by decide +kernel
theorem dX0_rootOf_122 : decode cX0_rootOf 122 = .ok (.ldiv, 1) := by decide +kernel
theorem dX0_rootOf_123 : decode cX0_rootOf 123 = .ok (.l2d, 1) := by decide +kernel
theorem dX0_rootOf_124 : decode cX0_rootOf 124 = .ok (.iconst 1, 1) := by decide +kernel
theorem dX0_rootOf_125 : decode cX0_rootOf 125 = .ok (.iload 5, 2) := by decide +kernel
theorem dX0_rootOf_127 : decode cX0_rootOf 127 = .ok (.isub, 1) := by decide +kernel
theorem dX0_rootOf_128 : decode cX0_rootOf 128 = .ok (.invokestatic 15, 3) := by decide +kernel
theorem dX0_rootOf_131 : decode cX0_rootOf 131 = .ok (.dmul, 1) := by decide +kernel
theorem dX0_rootOf_132 : decode cX0_rootOf 132 = .ok (.dreturn, 1) := by decide +kernel
theorem dX1_init_0 : decode cX1_init 0 = .ok (.aload_n 0, 1) := by decide +kernel
theorem dX1_init_1 : decode cX1_init 1 = .ok (.invokespecial 3, 3) := by decide +kernel
theorem dX1_init_4 : decode cX1_init 4 = .ok (.aload_n 0, 1) := by decide +kernel
theorem dX1_init_5 : decode cX1_init 5 = .ok (.iload_n 1, 1) := by decide +kernel
theorem dX1_init_6 : decode cX1_init 6 = .ok (.putfield 9, 3) := by decide +kernel
theorem dX1_init_9 : decode cX1_init 9 = .ok (.aload_n 0, 1) := by decide +kernel
theorem dX1_init_10 : decode cX1_init 10 = .ok (.bipush 8, 2) := by decide +kernel
theorem dX1_init_12 : decode cX1_init 12 = .ok (.anewarray 10, 3) := by decide +kernel
theorem dX1_init_15 : decode cX1_init 15 = .ok (.putfield 15, 3) := by decide +kernel
theorem dX1_init_18 : decode cX1_init 18 = .ok (.return_, 1) := by decide +kernel
theorem dX1_begin_0 : decode cX1_begin 0 = .ok (.aload_n 0, 1) := by decide +kernel
theorem dX1_begin_1 : decode cX1_begin 1 = .ok (.iload_n 1, 1) := by decide +kernel
theorem dX1_begin_2 : decode cX1_begin 2 = .ok (.putfield 19, 3) := by decide +kernel
theorem dX1_begin_5 : decode cX1_begin 5 = .ok (.aload_n 0, 1) := by decide +kernel
theorem dX1_begin_6 : decode cX1_begin 6 = .ok (.iload_n 2, 1) := by decide +kernel
theorem dX1_begin_7 : decode cX1_begin 7 = .ok (.putfield 22, 3) := by decide +kernel
theorem dX1_begin_10 : decode cX1_begin 10 = .ok (.aload_n 0, 1) := by decide +kernel
theorem dX1_begin_11 : decode cX1_begin 11 = .ok (.lload_n 3, 1) := by decide +kernel
theorem dX1_begin_12 : decode cX1_begin 12 = .ok (.invokestatic 25, 3) := by decide +kernel
theorem dX1_begin_15 : decode cX1_begin 15 = .ok (.putfield 31, 3) := by decide +kernel
theorem dX1_begin_18 : decode cX1_begin 18 = .ok (.aload_n 0, 1) := by decide +kernel
theorem dX1_begin_19 : decode cX1_begin 19 = .ok (.aload_n 0, 1) := by decide +kernel
theorem dX1_begin_20 : decode cX1_begin 20 = .ok (.getfield 31, 3) := by decide +kernel
theorem dX1_begin_23 : decode cX1_begin 23 = .ok (.ifCond .eq 10, 3) := by decide +kernel
theorem dX1_begin_26 : decode cX1_begin 26 = .ok (.lload_n 3, 1) := by decide +kernel
theorem dX1_begin_27 : decode cX1_begin 27 = .ok (.invokestatic 35, 3) := by decide +kernel
theorem dX1_begin_30 : decode cX1_begin 30 = .ok (.goto 4, 3) := by decide +kernel
theorem dX1_begin_33 : decode cX1_begin 33 = .ok (.dconst 0, 1) := by decide +kernel
theorem dX1_begin_34 : decode cX1_begin 34 = .ok (.putfield 39, 3) := by decide +kernel
theorem dX1_begin_37 : decode cX1_begin 37 = .ok (.aload_n 0, 1) := by decide +kernel
theorem dX1_begin_38 : decode cX1_begin 38 = .ok (.lload 5, 2) := by decide +kernel
theorem dX1_begin_40 : decode cX1_begin 40 = .ok (.invokestatic 25, 3) := by decide +kernel
theorem dX1_begin_43 : decode cX1_begin 43 = .ok (.ifCond .eq 11, 3) := by decide +kernel
theorem dX1_begin_46 : decode cX1_begin 46 = .ok (.lload 5, 2) := by decide +kernel
theorem dX1_begin_48 : decode cX1_begin 48 = .ok (.invokestatic 35, 3) := by decide +kernel
theorem dX1_begin_51 : decode cX1_begin 51 = .ok (.goto 4, 3) := by decide +kernel
theorem dX1_begin_54 : decode cX1_begin 54 = .ok (.dconst 0, 1) := by decide +kernel
theorem dX1_begin_55 : decode cX1_begin 55 = .ok (.putfield 43, 3) := by decide +kernel
theorem dX1_begin_58 : decode cX1_begin 58 = .ok (.aload_n 0, 1) := by decide +kernel
theorem dX1_begin_59 : decode cX1_begin 59 = .ok (.iconst 0, 1) := by decide +kernel
theorem dX1_begin_60 : decode cX1_begin 60 = .ok (.putfield 46, 3) := by decide +kernel
theorem dX1_begin_63 : decode cX1_begin 63 = .ok (.aload_n 0, 1) := by decide +kernel
theorem dX1_begin_64 : decode cX1_begin 64 = .ok (.iconst 0, 1) := by decide +kernel
theorem dX1_begin_65 : decode cX1_begin 65 = .ok (.putfield 49, 3) := by decide +kernel
theorem dX1_begin_68 : decode cX1_begin 68 = .ok (.aload_n 0, 1) := by decide +kernel
theorem dX1_begin_69 : decode cX1_begin 69 = .ok (.iconst 1, 1) := by decide +kernel
theorem dX1_begin_70 : decode cX1_begin 70 = .ok (.putfield 52, 3) := by decide +kernel
theorem dX1_begin_73 : decode cX1_begin 73 = .ok (.aload_n 0, 1) := by decide +kernel
theorem dX1_begin_74 : decode cX1_begin 74 = .ok (.iload_n 1, 1) := by decide +kernel
theorem dX1_begin_75 : decode cX1_begin 75 = .ok (.invokestatic 55, 3) := by decide +kernel
theorem dX1_begin_78 : decode cX1_begin 78 = .ok (.ifCond .eq 9, 3) := by decide +kernel
theorem dX1_begin_81 : decode cX1_begin 81 = .ok (.iconst 1, 1) := by decide +kernel
theorem dX1_begin_82 : decode cX1_begin 82 = .ok (.iload_n 2, 1) := by decide +kernel
theorem dX1_begin_83 : decode cX1_begin 83 = .ok (.ishl, 1) := by decide +kernel
theorem dX1_begin_84 : decode cX1_begin 84 = .ok (.goto 4, 3) := by decide +kernel
theorem dX1_begin_87 : decode cX1_begin 87 = .ok (.iconst 0, 1) := by decide +kernel
theorem dX1_begin_88 : decode cX1_begin 88 = .ok (.putfield 61, 3) := by decide +kernel
theorem dX1_begin_91 : decode cX1_begin 91 = .ok (.aload_n 0, 1) := by decide +kernel
theorem dX1_begin_92 : decode cX1_begin 92 = .ok (.iconst 1, 1) := by decide +kernel
theorem dX1_begin_93 : decode cX1_begin 93 = .ok (.putfield 64, 3) := by decide +kernel
theorem dX1_begin_96 : decode cX1_begin 96 = .ok (.aload_n 0, 1) := by decide +kernel
theorem dX1_begin_97 : decode cX1_begin 97 = .ok (.bipush 15, 2) := by decide +kernel
theorem dX1_begin_99 : decode cX1_begin 99 = .ok (.putfield 67, 3) := by decide +kernel
theorem dX1_begin_102 : decode cX1_begin 102 = .ok (.aload_n 0, 1) := by decide +kernel
theorem dX1_begin_103 : decode cX1_begin 103 = .ok (.invokevirtual 70, 3) := by decide +kernel
theorem dX1_begin_106 : decode cX1_begin 106 = .ok (.return_, 1) := by decide +kernel
theorem dX1_addPart_0 : decode cX1_addPart 0 = .ok (.aload_n 0, 1) := by decide +kernel
theorem dX1_addPart_1 : decode cX1_addPart 1 = .ok (.getfield 15, 3) := by decide +kernel
theorem dX1_addPart_4 : decode cX1_addPart 4 = .ok (.aload_n 0, 1) := by decide +kernel
theorem dX1_addPart_5 : decode cX1_addPart 5 = .ok (.getfield 46, 3) := by decide +kernel
theorem dX1_addPart_8 : decode cX1_addPart 8 = .ok (.aload_n 1, 1) := by decide +kernel
theorem dX1_addPart_9 : decode cX1_addPart 9 = .ok (.aastore, 1) := by decide +kernel
theorem dX1_addPart_10 : decode cX1_addPart 10 = .ok (.aload_n 0, 1) := by decide +kernel
theorem dX1_addPart_11 : decode cX1_addPart 11 = .ok (.dup, 1) := by decide +kernel
theorem dX1_addPart_12 : decode cX1_addPart 12 = .ok (.getfield 46, 3) := by decide +kernel
theorem dX1_addPart_15 : decode cX1_addPart 15 = .ok (.iconst 1, 1) := by decide +kernel
theorem dX1_addPart_16 : decode cX1_addPart 16 = .ok (.iadd, 1) := by decide +kernel
theorem dX1_addPart_17 : decode cX1_addPart 17 = .ok (.putfield 46, 3) := by decide +kernel
theorem dX1_addPart_20 : decode cX1_addPart 20 = .ok (.aload_n 1, 1) := by decide +kernel
theorem dX1_addPart_21 : decode cX1_addPart 21 = .ok (.iconst 1, 1) := by decide +kernel
theorem dX1_addPart_22 : decode cX1_addPart 22 = .ok (.putfield 49, 3) := by decide +kernel
theorem dX1_addPart_25 : decode cX1_addPart 25 = .ok (.aload_n 0, 1) := by decide +kernel
theorem dX1_addPart_26 : decode cX1_addPart 26 = .ok (.dup, 1) := by decide +kernel
theorem dX1_addPart_27 : decode cX1_addPart 27 = .ok (.getfield 52, 3) := by decide +kernel
theorem dX1_addPart_30 : decode cX1_addPart 30 = .ok (.aload_n 1, 1) := by decide +kernel
theorem dX1_addPart_31 : decode cX1_addPart 31 = .ok (.getfield 52, 3) := by decide +kernel
theorem dX1_addPart_34 : decode cX1_addPart 34 = .ok (.iadd, 1) := by decide +kernel
theorem dX1_addPart_35 : decode cX1_addPart 35 = .ok (.putfield 52, 3) := by decide +kernel
theorem dX1_addPart_38 : decode cX1_addPart 38 = .ok (.aload_n 0, 1) := by decide +kernel
theorem dX1_addPart_39 : decode cX1_addPart 39 = .ok (.dup, 1) := by decide +kernel
theorem dX1_addPart_40 : decode cX1_addPart 40 = .ok (.getfield 61, 3) := by decide +kernel
theorem dX1_addPart_43 : decode cX1_addPart 43 = .ok (.aload_n 1, 1) := by decide +kernel
theorem dX1_addPart_44 : decode cX1_addPart 44 = .ok (.getfield 61, 3) := by decide +kernel
theorem dX1_addPart_47 : decode cX1_addPart 47 = .ok (.ior, 1) := by decide +kernel
theorem dX1_addPart_48 : decode cX1_addPart 48 = .ok (.putfield 61, 3) := by decide +kernel
theorem dX1_addPart_51 : decode cX1_addPart 51 = .ok (.aload_n 0, 1) := by decide +kernel
theorem dX1_addPart_52 : decode cX1_addPart 52 = .ok (.aload_n 0, 1) := by decide +kernel
theorem dX1_addPart_53 : decode cX1_addPart 53 = .ok (.getfield 64, 3) := by decide +kernel
theorem dX1_addPart_56 : decode cX1_addPart 56 = .ok (.ifCond .eq 14, 3) := by decide +kernel
theorem dX1_addPart_59 : decode cX1_addPart 59 = .ok (.aload_n 1, 1) := by decide +kernel
theorem dX1_addPart_60 : decode cX1_addPart 60 = .ok (.getfield 73, 3) := by decide +kernel
theorem dX1_addPart_63 : decode cX1_addPart 63 = .ok (.ifCond .eq 7, 3) := by decide +kernel
theorem dX1_addPart_66 : decode cX1_addPart 66 = .ok (.iconst 1, 1) := by decide +kernel
theorem dX1_addPart_67 : decode cX1_addPart 67 = .ok (.goto 4, 3) := by decide +kernel
theorem dX1_addPart_70 : decode cX1_addPart 70 = .ok (.iconst 0, 1) := by decide +kernel
theorem dX1_addPart_71 : decode cX1_addPart 71 = .ok (.putfield 64, 3) := by decide +kernel
theorem dX1_addPart_74 : decode cX1_addPart 74 = .ok (.aload_n 0, 1) := by decide +kernel
theorem dX1_addPart_75 : decode cX1_addPart 75 = .ok (.dup, 1) := by decide +kernel
theorem dX1_addPart_76 : decode cX1_addPart 76 = .ok (.getfield 67, 3) := by decide +kernel
theorem dX1_addPart_79 : decode cX1_addPart 79 = .ok (.aload_n 1, 1) := by decide +kernel
theorem dX1_addPart_80 : decode cX1_addPart 80 = .ok (.getfield 76, 3) := by decide +kernel
theorem dX1_addPart_83 : decode cX1_addPart 83 = .ok (.iand, 1) := by decide +kernel
theorem dX1_addPart_84 : decode cX1_addPart 84 = .ok (.putfield 67, 3) := by decide +kernel
theorem dX1_addPart_87 : decode cX1_addPart 87 = .ok (.aload_n 0, 1) := by decide +kernel
theorem dX1_addPart_88 : decode cX1_addPart 88 = .ok (.invokevirtual 70, 3) := by decide +kernel
theorem dX1_addPart_91 : decode cX1_addPart 91 = .ok (.return_, 1) := by decide +kernel
theorem dX1_prove_0 : decode cX1_prove 0 = .ok (.aload_n 0, 1) := by decide +kernel
theorem dX1_prove_1 : decode cX1_prove 1 = .ok (.aload_n 0, 1) := by decide +kernel
theorem dX1_prove_2 : decode cX1_prove 2 = .ok (.invokevirtual 79, 3) := by decide +kernel
theorem dX1_prove_5 : decode cX1_prove 5 = .ok (.putfield 73, 3) := by decide +kernel
theorem dX1_prove_8 : decode cX1_prove 8 = .ok (.aload_n 0, 1) := by decide +kernel
theorem dX1_prove_9 : decode cX1_prove 9 = .ok (.bipush 15, 2) := by decide +kernel
theorem dX1_prove_11 : decode cX1_prove 11 = .ok (.aload_n 0, 1) := by decide +kernel
theorem dX1_prove_12 : decode cX1_prove 12 = .ok (.getfield 61, 3) := by decide +kernel
theorem dX1_prove_15 : decode cX1_prove 15 = .ok (.iconst (-1), 1) := by decide +kernel
theorem dX1_prove_16 : decode cX1_prove 16 = .ok (.ixor, 1) := by decide +kernel
theorem dX1_prove_17 : decode cX1_prove 17 = .ok (.aload_n 0, 1) := by decide +kernel
theorem dX1_prove_18 : decode cX1_prove 18 = .ok (.invokevirtual 83, 3) := by decide +kernel
theorem dX1_prove_21 : decode cX1_prove 21 = .ok (.ior, 1) := by decide +kernel
theorem dX1_prove_22 : decode cX1_prove 22 = .ok (.iand, 1) := by decide +kernel
theorem dX1_prove_23 : decode cX1_prove 23 = .ok (.putfield 76, 3) := by decide +kernel
theorem dX1_prove_26 : decode cX1_prove 26 = .ok (.return_, 1) := by decide +kernel
theorem dX1_isSafe_0 : decode cX1_isSafe 0 = .ok (.aload_n 0, 1) := by decide +kernel
theorem dX1_isSafe_1 : decode cX1_isSafe 1 = .ok (.getfield 19, 3) := by decide +kernel
theorem dX1_isSafe_4 : decode cX1_isSafe 4 = .ok (.lookupswitch 73 #[(0, 44), (5, 66), (12, 68), (13, 68)], 44) := by decide +kernel
theorem dX1_isSafe_48 : decode cX1_isSafe 48 = .ok (.aload_n 0, 1) := by decide +kernel
theorem dX1_isSafe_49 : decode cX1_isSafe 49 = .ok (.getfield 31, 3) := by decide +kernel
theorem dX1_isSafe_52 : decode cX1_isSafe 52 = .ok (.ifCond .eq 12, 3) := by decide +kernel
theorem dX1_isSafe_55 : decode cX1_isSafe 55 = .ok (.aload_n 0, 1) := by decide +kernel
theorem dX1_isSafe_56 : decode cX1_isSafe 56 = .ok (.getfield 39, 3) := by decide +kernel
theorem dX1_isSafe_59 : decode cX1_isSafe 59 = .ok (.dconst 0, 1) := by decide +kernel
theorem dX1_isSafe_60 : decode cX1_isSafe 60 = .ok (.dcmp .g, 1) := by decide +kernel
theorem dX1_isSafe_61 : decode cX1_isSafe 61 = .ok (.ifCond .lt 7, 3) := by decide +kernel
theorem dX1_isSafe_64 : decode cX1_isSafe 64 = .ok (.iconst 1, 1) := by decide +kernel
theorem dX1_isSafe_65 : decode cX1_isSafe 65 = .ok (.goto 4, 3) := by decide +kernel
theorem dX1_isSafe_68 : decode cX1_isSafe 68 = .ok (.iconst 0, 1) := by decide +kernel
theorem dX1_isSafe_69 : decode cX1_isSafe 69 = .ok (.ireturn, 1) := by decide +kernel
theorem dX1_isSafe_70 : decode cX1_isSafe 70 = .ok (.iconst 0, 1) := by decide +kernel
theorem dX1_isSafe_71 : decode cX1_isSafe 71 = .ok (.ireturn, 1) := by decide +kernel
theorem dX1_isSafe_72 : decode cX1_isSafe 72 = .ok (.aload_n 0, 1) := by decide +kernel
theorem dX1_isSafe_73 : decode cX1_isSafe 73 = .ok (.getfield 64, 3) := by decide +kernel
theorem dX1_isSafe_76 : decode cX1_isSafe 76 = .ok (.ireturn, 1) := by decide +kernel
theorem dX1_isSafe_77 : decode cX1_isSafe 77 = .ok (.iconst 1, 1) := by decide +kernel
theorem dX1_isSafe_78 : decode cX1_isSafe 78 = .ok (.ireturn, 1) := by decide +kernel
theorem dX1_risesByKind_0 : decode cX1_risesByKind 0 = .ok (.aload_n 0, 1) := by decide +kernel
theorem dX1_risesByKind_1 : decode cX1_risesByKind 1 = .ok (.getfield 19, 3) := by decide +kernel
theorem dX1_risesByKind_4 : decode cX1_risesByKind 4 = .ok (.tableswitch 62 7 13 #[44, 62, 62, 60, 60, 62, 60], 44) := by decide +kernel
theorem dX1_risesByKind_48 : decode cX1_risesByKind 48 = .ok (.aload_n 0, 1) := by decide +kernel
theorem dX1_risesByKind_49 : decode cX1_risesByKind 49 = .ok (.getfield 64, 3) := by decide +kernel
theorem dX1_risesByKind_52 : decode cX1_risesByKind 52 = .ok (.ifCond .eq 10, 3) := by decide +kernel
theorem dX1_risesByKind_55 : decode cX1_risesByKind 55 = .ok (.aload_n 0, 1) := by decide +kernel
theorem dX1_risesByKind_56 : decode cX1_risesByKind 56 = .ok (.getfield 67, 3) := by decide +kernel
theorem dX1_risesByKind_59 : decode cX1_risesByKind 59 = .ok (.goto 4, 3) := by decide +kernel
theorem dX1_risesByKind_62 : decode cX1_risesByKind 62 = .ok (.iconst 0, 1) := by decide +kernel
theorem dX1_risesByKind_63 : decode cX1_risesByKind 63 = .ok (.ireturn, 1) := by decide +kernel
theorem dX1_risesByKind_64 : decode cX1_risesByKind 64 = .ok (.iconst 0, 1) := by decide +kernel
theorem dX1_risesByKind_65 : decode cX1_risesByKind 65 = .ok (.ireturn, 1) := by decide +kernel
theorem dX1_risesByKind_66 : decode cX1_risesByKind 66 = .ok (.aload_n 0, 1) := by decide +kernel
theorem dX1_risesByKind_67 : decode cX1_risesByKind 67 = .ok (.getfield 67, 3) := by decide +kernel
theorem dX1_risesByKind_70 : decode cX1_risesByKind 70 = .ok (.ireturn, 1) := by decide +kernel
theorem dX2_hasField_0 : decode cX2_hasField 0 = .ok (.iload_n 0, 1) := by decide +kernel
theorem dX2_hasField_1 : decode cX2_hasField 1 = .ok (.iconst 1, 1) := by decide +kernel
theorem dX2_hasField_2 : decode cX2_hasField 2 = .ok (.if_icmp .lt 12, 3) := by decide +kernel
theorem dX2_hasField_5 : decode cX2_hasField 5 = .ok (.iload_n 0, 1) := by decide +kernel
theorem dX2_hasField_6 : decode cX2_hasField 6 = .ok (.iconst 4, 1) := by decide +kernel
theorem dX2_hasField_7 : decode cX2_hasField 7 = .ok (.if_icmp .gt 7, 3) := by decide +kernel
theorem dX2_hasField_10 : decode cX2_hasField 10 = .ok (.iconst 1, 1) := by decide +kernel
theorem dX2_hasField_11 : decode cX2_hasField 11 = .ok (.goto 4, 3) := by decide +kernel
theorem dX2_hasField_14 : decode cX2_hasField 14 = .ok (.iconst 0, 1) := by decide +kernel
theorem dX2_hasField_15 : decode cX2_hasField 15 = .ok (.ireturn, 1) := by decide +kernel
theorem dX2_gathers_0 : decode cX2_gathers 0 = .ok (.iload_n 0, 1) := by decide +kernel
theorem dX2_gathers_1 : decode cX2_gathers 1 = .ok (.bipush 6, 2) := by decide +kernel
theorem dX2_gathers_3 : decode cX2_gathers 3 = .ok (.if_icmp .lt 13, 3) := by decide +kernel
theorem dX2_gathers_6 : decode cX2_gathers 6 = .ok (.iload_n 0, 1) := by decide +kernel
theorem dX2_gathers_7 : decode cX2_gathers 7 = .ok (.bipush 8, 2) := by decide +kernel
theorem dX2_gathers_9 : decode cX2_gathers 9 = .ok (.if_icmp .gt 7, 3) := by decide +kernel
theorem dX2_gathers_12 : decode cX2_gathers 12 = .ok (.iconst 1, 1) := by decide +kernel
theorem dX2_gathers_13 : decode cX2_gathers 13 = .ok (.goto 4, 3) := by decide +kernel
theorem dX2_gathers_16 : decode cX2_gathers 16 = .ok (.iconst 0, 1) := by decide +kernel
theorem dX2_gathers_17 : decode cX2_gathers 17 = .ok (.ireturn, 1) := by decide +kernel
theorem dX2_hasX_0 : decode cX2_hasX 0 = .ok (.iload_n 0, 1) := by decide +kernel
theorem dX2_hasX_1 : decode cX2_hasX 1 = .ok (.bipush 9, 2) := by decide +kernel
theorem dX2_hasX_3 : decode cX2_hasX 3 = .ok (.if_icmp .lt 13, 3) := by decide +kernel
theorem dX2_hasX_6 : decode cX2_hasX 6 = .ok (.iload_n 0, 1) := by decide +kernel
theorem dX2_hasX_7 : decode cX2_hasX 7 = .ok (.bipush 13, 2) := by decide +kernel
theorem dX2_hasX_9 : decode cX2_hasX 9 = .ok (.if_icmp .gt 7, 3) := by decide +kernel
theorem dX2_hasX_12 : decode cX2_hasX 12 = .ok (.iconst 1, 1) := by decide +kernel
theorem dX2_hasX_13 : decode cX2_hasX 13 = .ok (.goto 4, 3) := by decide +kernel
theorem dX2_hasX_16 : decode cX2_hasX 16 = .ok (.iconst 0, 1) := by decide +kernel
theorem dX2_hasX_17 : decode cX2_hasX 17 = .ok (.ireturn, 1) := by decide +kernel
theorem dX2_failsBelow_0 : decode cX2_failsBelow 0 = .ok (.iload_n 0, 1) := by decide +kernel
theorem dX2_failsBelow_1 : decode cX2_failsBelow 1 = .ok (.bipush 6, 2) := by decide +kernel
theorem dX2_failsBelow_3 : decode cX2_failsBelow 3 = .ok (.if_icmp .lt 13, 3) := by decide +kernel
theorem dX2_failsBelow_6 : decode cX2_failsBelow 6 = .ok (.iload_n 0, 1) := by decide +kernel
theorem dX2_failsBelow_7 : decode cX2_failsBelow 7 = .ok (.bipush 9, 2) := by decide +kernel
theorem dX2_failsBelow_9 : decode cX2_failsBelow 9 = .ok (.if_icmp .gt 7, 3) := by decide +kernel
theorem dX2_failsBelow_12 : decode cX2_failsBelow 12 = .ok (.iconst 1, 1) := by decide +kernel
theorem dX2_failsBelow_13 : decode cX2_failsBelow 13 = .ok (.goto 4, 3) := by decide +kernel
theorem dX2_failsBelow_16 : decode cX2_failsBelow 16 = .ok (.iconst 0, 1) := by decide +kernel
theorem dX2_failsBelow_17 : decode cX2_failsBelow 17 = .ok (.ireturn, 1) := by decide +kernel
theorem dX2_takes_0 : decode cX2_takes 0 = .ok (.iload_n 0, 1) := by decide +kernel
theorem dX2_takes_1 : decode cX2_takes 1 = .ok (.tableswitch 101 3 11 #[51, 56, 101, 101, 101, 76, 51, 81, 81], 51) := by decide +kernel
theorem dX2_takes_52 : decode cX2_takes 52 = .ok (.lload_n 1, 1) := by decide +kernel
theorem dX2_takes_53 : decode cX2_takes 53 = .ok (.invokestatic 9, 3) := by decide +kernel
theorem dX2_takes_56 : decode cX2_takes 56 = .ok (.ireturn, 1) := by decide +kernel
theorem dX2_takes_57 : decode cX2_takes 57 = .ok (.lload_n 1, 1) := by decide +kernel
theorem dX2_takes_58 : decode cX2_takes 58 = .ok (.invokestatic 9, 3) := by decide +kernel
theorem dX2_takes_61 : decode cX2_takes 61 = .ok (.ifCond .eq 14, 3) := by decide +kernel
theorem dX2_takes_64 : decode cX2_takes 64 = .ok (.lload_n 3, 1) := by decide +kernel
theorem dX2_takes_65 : decode cX2_takes 65 = .ok (.invokestatic 13, 3) := by decide +kernel
theorem dX2_takes_68 : decode cX2_takes 68 = .ok (.ifCond .eq 7, 3) := by decide +kernel
theorem dX2_takes_71 : decode cX2_takes 71 = .ok (.iconst 1, 1) := by decide +kernel
theorem dX2_takes_72 : decode cX2_takes 72 = .ok (.goto 4, 3) := by decide +kernel
theorem dX2_takes_75 : decode cX2_takes 75 = .ok (.iconst 0, 1) := by decide +kernel
theorem dX2_takes_76 : decode cX2_takes 76 = .ok (.ireturn, 1) := by decide +kernel
theorem dX2_takes_77 : decode cX2_takes 77 = .ok (.lload_n 1, 1) := by decide +kernel
theorem dX2_takes_78 : decode cX2_takes 78 = .ok (.invokestatic 13, 3) := by decide +kernel
theorem dX2_takes_81 : decode cX2_takes 81 = .ok (.ireturn, 1) := by decide +kernel
theorem dX2_takes_82 : decode cX2_takes 82 = .ok (.lload_n 1, 1) := by decide +kernel
theorem dX2_takes_83 : decode cX2_takes 83 = .ok (.invokestatic 16, 3) := by decide +kernel
theorem dX2_takes_86 : decode cX2_takes 86 = .ok (.ifCond .eq 14, 3) := by decide +kernel
theorem dX2_takes_89 : decode cX2_takes 89 = .ok (.lload_n 3, 1) := by decide +kernel
theorem dX2_takes_90 : decode cX2_takes 90 = .ok (.invokestatic 21, 3) := by decide +kernel
theorem dX2_takes_93 : decode cX2_takes 93 = .ok (.ifCond .eq 7, 3) := by decide +kernel
theorem dX2_takes_96 : decode cX2_takes 96 = .ok (.iconst 1, 1) := by decide +kernel
theorem dX2_takes_97 : decode cX2_takes 97 = .ok (.goto 4, 3) := by decide +kernel
theorem dX2_takes_100 : decode cX2_takes 100 = .ok (.iconst 0, 1) := by decide +kernel
theorem dX2_takes_101 : decode cX2_takes 101 = .ok (.ireturn, 1) := by decide +kernel
theorem dX2_takes_102 : decode cX2_takes 102 = .ok (.iconst 1, 1) := by decide +kernel
theorem dX2_takes_103 : decode cX2_takes 103 = .ok (.ireturn, 1) := by decide +kernel
theorem dX2_isNotBelow_0 : decode cX2_isNotBelow 0 = .ok (.lload_n 0, 1) := by decide +kernel
theorem dX2_isNotBelow_1 : decode cX2_isNotBelow 1 = .ok (.invokestatic 16, 3) := by decide +kernel
theorem dX2_isNotBelow_4 : decode cX2_isNotBelow 4 = .ok (.ifCond .eq 16, 3) := by decide +kernel
theorem dX2_isNotBelow_7 : decode cX2_isNotBelow 7 = .ok (.lload_n 0, 1) := by decide +kernel
theorem dX2_isNotBelow_8 : decode cX2_isNotBelow 8 = .ok (.invokestatic 24, 3) := by decide +kernel
theorem dX2_isNotBelow_11 : decode cX2_isNotBelow 11 = .ok (.dconst 0, 1) := by decide +kernel
theorem dX2_isNotBelow_12 : decode cX2_isNotBelow 12 = .ok (.dcmp .l, 1) := by decide +kernel
theorem dX2_isNotBelow_13 : decode cX2_isNotBelow 13 = .ok (.ifCond .lt 7, 3) := by decide +kernel
theorem dX2_isNotBelow_16 : decode cX2_isNotBelow 16 = .ok (.iconst 1, 1) := by decide +kernel
theorem dX2_isNotBelow_17 : decode cX2_isNotBelow 17 = .ok (.goto 4, 3) := by decide +kernel
theorem dX2_isNotBelow_20 : decode cX2_isNotBelow 20 = .ok (.iconst 0, 1) := by decide +kernel
theorem dX2_isNotBelow_21 : decode cX2_isNotBelow 21 = .ok (.ireturn, 1) := by decide +kernel
theorem dX2_isShare_0 : decode cX2_isShare 0 = .ok (.lload_n 0, 1) := by decide +kernel
theorem dX2_isShare_1 : decode cX2_isShare 1 = .ok (.invokestatic 9, 3) := by decide +kernel
theorem dX2_isShare_4 : decode cX2_isShare 4 = .ok (.ifCond .eq 16, 3) := by decide +kernel
theorem dX2_isShare_7 : decode cX2_isShare 7 = .ok (.lload_n 0, 1) := by decide +kernel
theorem dX2_isShare_8 : decode cX2_isShare 8 = .ok (.invokestatic 24, 3) := by decide +kernel
theorem dX2_isShare_11 : decode cX2_isShare 11 = .ok (.dconst 1, 1) := by decide +kernel
theorem dX2_isShare_12 : decode cX2_isShare 12 = .ok (.dcmp .g, 1) := by decide +kernel
theorem dX2_isShare_13 : decode cX2_isShare 13 = .ok (.ifCond .gt 7, 3) := by decide +kernel
theorem dX2_isShare_16 : decode cX2_isShare 16 = .ok (.iconst 1, 1) := by decide +kernel
theorem dX2_isShare_17 : decode cX2_isShare 17 = .ok (.goto 4, 3) := by decide +kernel
theorem dX2_isShare_20 : decode cX2_isShare 20 = .ok (.iconst 0, 1) := by decide +kernel
theorem dX2_isShare_21 : decode cX2_isShare 21 = .ok (.ireturn, 1) := by decide +kernel
theorem dX2_isAbove_0 : decode cX2_isAbove 0 = .ok (.lload_n 0, 1) := by decide +kernel
theorem dX2_isAbove_1 : decode cX2_isAbove 1 = .ok (.invokestatic 16, 3) := by decide +kernel
theorem dX2_isAbove_4 : decode cX2_isAbove 4 = .ok (.ifCond .eq 16, 3) := by decide +kernel
theorem dX2_isAbove_7 : decode cX2_isAbove 7 = .ok (.lload_n 0, 1) := by decide +kernel
theorem dX2_isAbove_8 : decode cX2_isAbove 8 = .ok (.invokestatic 24, 3) := by decide +kernel
theorem dX2_isAbove_11 : decode cX2_isAbove 11 = .ok (.dconst 0, 1) := by decide +kernel
theorem dX2_isAbove_12 : decode cX2_isAbove 12 = .ok (.dcmp .l, 1) := by decide +kernel
theorem dX2_isAbove_13 : decode cX2_isAbove 13 = .ok (.ifCond .le 7, 3) := by decide +kernel
theorem dX2_isAbove_16 : decode cX2_isAbove 16 = .ok (.iconst 1, 1) := by decide +kernel
theorem dX2_isAbove_17 : decode cX2_isAbove 17 = .ok (.goto 4, 3) := by decide +kernel
theorem dX2_isAbove_20 : decode cX2_isAbove 20 = .ok (.iconst 0, 1) := by decide +kernel
theorem dX2_isAbove_21 : decode cX2_isAbove 21 = .ok (.ireturn, 1) := by decide +kernel
theorem dX3_valueOf_0 : decode cX3_valueOf 0 = .ok (.iload_n 0, 1) := by decide +kernel
theorem dX3_valueOf_1 : decode cX3_valueOf 1 = .ok (.bipush 32, 2) := by decide +kernel
theorem dX3_valueOf_3 : decode cX3_valueOf 3 = .ok (.if_icmp .ge 7, 3) := by decide +kernel
theorem dX3_valueOf_6 : decode cX3_valueOf 6 = .ok (.iload_n 0, 1) := by decide +kernel
theorem dX3_valueOf_7 : decode cX3_valueOf 7 = .ok (.goto 17, 3) := by decide +kernel
theorem dX3_valueOf_10 : decode cX3_valueOf 10 = .ok (.bipush 32, 2) := by decide +kernel
theorem dX3_valueOf_12 : decode cX3_valueOf 12 = .ok (.iload_n 0, 1) := by decide +kernel
theorem dX3_valueOf_13 : decode cX3_valueOf 13 = .ok (.bipush 32, 2) := by decide +kernel
theorem dX3_valueOf_15 : decode cX3_valueOf 15 = .ok (.irem, 1) := by decide +kernel
theorem dX3_valueOf_16 : decode cX3_valueOf 16 = .ok (.iadd, 1) := by decide +kernel
theorem dX3_valueOf_17 : decode cX3_valueOf 17 = .ok (.iload_n 0, 1) := by decide +kernel
theorem dX3_valueOf_18 : decode cX3_valueOf 18 = .ok (.bipush 32, 2) := by decide +kernel
theorem dX3_valueOf_20 : decode cX3_valueOf 20 = .ok (.idiv, 1) := by decide +kernel
theorem dX3_valueOf_21 : decode cX3_valueOf 21 = .ok (.iconst 1, 1) := by decide +kernel
theorem dX3_valueOf_22 : decode cX3_valueOf 22 = .ok (.isub, 1) := by decide +kernel
theorem dX3_valueOf_23 : decode cX3_valueOf 23 = .ok (.ishl, 1) := by decide +kernel
theorem dX3_valueOf_24 : decode cX3_valueOf 24 = .ok (.ireturn, 1) := by decide +kernel
theorem dX3_codeOf_0 : decode cX3_codeOf 0 = .ok (.iconst 0, 1) := by decide +kernel
theorem dX3_codeOf_1 : decode cX3_codeOf 1 = .ok (.istore_n 1, 1) := by decide +kernel
theorem dX3_codeOf_2 : decode cX3_codeOf 2 = .ok (.sipush 128, 3) := by decide +kernel
theorem dX3_codeOf_5 : decode cX3_codeOf 5 = .ok (.istore_n 2, 1) := by decide +kernel
theorem dX3_codeOf_6 : decode cX3_codeOf 6 = .ok (.iload_n 2, 1) := by decide +kernel
theorem dX3_codeOf_7 : decode cX3_codeOf 7 = .ok (.ifCond .le 24, 3) := by decide +kernel
theorem dX3_codeOf_10 : decode cX3_codeOf 10 = .ok (.iload_n 1, 1) := by decide +kernel
theorem dX3_codeOf_11 : decode cX3_codeOf 11 = .ok (.iload_n 2, 1) := by decide +kernel
theorem dX3_codeOf_12 : decode cX3_codeOf 12 = .ok (.iadd, 1) := by decide +kernel
theorem dX3_codeOf_13 : decode cX3_codeOf 13 = .ok (.invokestatic 9, 3) := by decide +kernel
theorem dX3_codeOf_16 : decode cX3_codeOf 16 = .ok (.iload_n 0, 1) := by decide +kernel
theorem dX3_codeOf_17 : decode cX3_codeOf 17 = .ok (.if_icmp .gt 7, 3) := by decide +kernel
theorem dX3_codeOf_20 : decode cX3_codeOf 20 = .ok (.iload_n 1, 1) := by decide +kernel
theorem dX3_codeOf_21 : decode cX3_codeOf 21 = .ok (.iload_n 2, 1) := by decide +kernel
theorem dX3_codeOf_22 : decode cX3_codeOf 22 = .ok (.iadd, 1) := by decide +kernel
theorem dX3_codeOf_23 : decode cX3_codeOf 23 = .ok (.istore_n 1, 1) := by decide +kernel
theorem dX3_codeOf_24 : decode cX3_codeOf 24 = .ok (.iload_n 2, 1) := by decide +kernel
theorem dX3_codeOf_25 : decode cX3_codeOf 25 = .ok (.iconst 2, 1) := by decide +kernel
theorem dX3_codeOf_26 : decode cX3_codeOf 26 = .ok (.idiv, 1) := by decide +kernel
theorem dX3_codeOf_27 : decode cX3_codeOf 27 = .ok (.istore_n 2, 1) := by decide +kernel
theorem dX3_codeOf_28 : decode cX3_codeOf 28 = .ok (.goto (-22), 3) := by decide +kernel
theorem dX3_codeOf_31 : decode cX3_codeOf 31 = .ok (.iload_n 1, 1) := by decide +kernel
theorem dX3_codeOf_32 : decode cX3_codeOf 32 = .ok (.ireturn, 1) := by decide +kernel
theorem dX4_init_0 : decode cX4_init 0 = .ok (.aload_n 0, 1) := by decide +kernel
theorem dX4_init_1 : decode cX4_init 1 = .ok (.invokespecial 1, 3) := by decide +kernel
theorem dX4_init_4 : decode cX4_init 4 = .ok (.return_, 1) := by decide +kernel
theorem dX4_begin_0 : decode cX4_begin 0 = .ok (.aload_n 0, 1) := by decide +kernel
theorem dX4_begin_1 : decode cX4_begin 1 = .ok (.iconst 0, 1) := by decide +kernel
theorem dX4_begin_2 : decode cX4_begin 2 = .ok (.putfield 7, 3) := by decide +kernel
theorem dX4_begin_5 : decode cX4_begin 5 = .ok (.return_, 1) := by decide +kernel
theorem dX4_isLost_0 : decode cX4_isLost 0 = .ok (.aload_n 0, 1) := by decide +kernel
theorem dX4_isLost_1 : decode cX4_isLost 1 = .ok (.getfield 7, 3) := by decide +kernel
theorem dX4_isLost_4 : decode cX4_isLost 4 = .ok (.ireturn, 1) := by decide +kernel
theorem dX4_lose_0 : decode cX4_lose 0 = .ok (.aload_n 0, 1) := by decide +kernel
theorem dX4_lose_1 : decode cX4_lose 1 = .ok (.iconst 1, 1) := by decide +kernel
theorem dX4_lose_2 : decode cX4_lose 2 = .ok (.putfield 7, 3) := by decide +kernel
theorem dX4_lose_5 : decode cX4_lose 5 = .ok (.dconst 0, 1) := by decide +kernel
theorem dX4_lose_6 : decode cX4_lose 6 = .ok (.dreturn, 1) := by decide +kernel
theorem dX4_plus_0 : decode cX4_plus 0 = .ok (.dload_n 1, 1) := by decide +kernel
theorem dX4_plus_1 : decode cX4_plus 1 = .ok (.invokestatic 13, 3) := by decide +kernel
theorem dX4_plus_4 : decode cX4_plus 4 = .ok (.ifCond .eq 21, 3) := by decide +kernel
theorem dX4_plus_7 : decode cX4_plus 7 = .ok (.dload_n 3, 1) := by decide +kernel
theorem dX4_plus_8 : decode cX4_plus 8 = .ok (.invokestatic 13, 3) := by decide +kernel
theorem dX4_plus_11 : decode cX4_plus 11 = .ok (.ifCond .eq 14, 3) := by decide +kernel
theorem dX4_plus_14 : decode cX4_plus 14 = .ok (.dload_n 1, 1) := by decide +kernel
theorem dX4_plus_15 : decode cX4_plus 15 = .ok (.dload_n 3, 1) := by decide +kernel
theorem dX4_plus_16 : decode cX4_plus 16 = .ok (.dcmp .l, 1) := by decide +kernel
theorem dX4_plus_17 : decode cX4_plus 17 = .ok (.ifCond .eq 8, 3) := by decide +kernel
theorem dX4_plus_20 : decode cX4_plus 20 = .ok (.aload_n 0, 1) := by decide +kernel
theorem dX4_plus_21 : decode cX4_plus 21 = .ok (.invokevirtual 19, 3) := by decide +kernel
theorem dX4_plus_24 : decode cX4_plus 24 = .ok (.dreturn, 1) := by decide +kernel
theorem dX4_plus_25 : decode cX4_plus 25 = .ok (.dload_n 1, 1) := by decide +kernel
theorem dX4_plus_26 : decode cX4_plus 26 = .ok (.dload_n 3, 1) := by decide +kernel
theorem dX4_plus_27 : decode cX4_plus 27 = .ok (.dadd, 1) := by decide +kernel
theorem dX4_plus_28 : decode cX4_plus 28 = .ok (.dreturn, 1) := by decide +kernel
theorem dX4_minus_0 : decode cX4_minus 0 = .ok (.dload_n 1, 1) := by decide +kernel
theorem dX4_minus_1 : decode cX4_minus 1 = .ok (.invokestatic 13, 3) := by decide +kernel
theorem dX4_minus_4 : decode cX4_minus 4 = .ok (.ifCond .eq 14, 3) := by decide +kernel
theorem dX4_minus_7 : decode cX4_minus 7 = .ok (.dload_n 1, 1) := by decide +kernel
theorem dX4_minus_8 : decode cX4_minus 8 = .ok (.dload_n 3, 1) := by decide +kernel
theorem dX4_minus_9 : decode cX4_minus 9 = .ok (.dcmp .l, 1) := by decide +kernel
theorem dX4_minus_10 : decode cX4_minus 10 = .ok (.ifCond .ne 8, 3) := by decide +kernel
theorem dX4_minus_13 : decode cX4_minus 13 = .ok (.aload_n 0, 1) := by decide +kernel
theorem dX4_minus_14 : decode cX4_minus 14 = .ok (.invokevirtual 19, 3) := by decide +kernel
theorem dX4_minus_17 : decode cX4_minus 17 = .ok (.dreturn, 1) := by decide +kernel
theorem dX4_minus_18 : decode cX4_minus 18 = .ok (.dload_n 1, 1) := by decide +kernel
theorem dX4_minus_19 : decode cX4_minus 19 = .ok (.dload_n 3, 1) := by decide +kernel
theorem dX4_minus_20 : decode cX4_minus 20 = .ok (.dsub, 1) := by decide +kernel
theorem dX4_minus_21 : decode cX4_minus 21 = .ok (.dreturn, 1) := by decide +kernel
theorem dX4_times_0 : decode cX4_times 0 = .ok (.dload_n 1, 1) := by decide +kernel
theorem dX4_times_1 : decode cX4_times 1 = .ok (.dconst 0, 1) := by decide +kernel
theorem dX4_times_2 : decode cX4_times 2 = .ok (.dcmp .l, 1) := by decide +kernel
theorem dX4_times_3 : decode cX4_times 3 = .ok (.ifCond .ne 10, 3) := by decide +kernel
theorem dX4_times_6 : decode cX4_times 6 = .ok (.dload_n 3, 1) := by decide +kernel
theorem dX4_times_7 : decode cX4_times 7 = .ok (.invokestatic 13, 3) := by decide +kernel
theorem dX4_times_10 : decode cX4_times 10 = .ok (.ifCond .ne 16, 3) := by decide +kernel
theorem dX4_times_13 : decode cX4_times 13 = .ok (.dload_n 3, 1) := by decide +kernel
theorem dX4_times_14 : decode cX4_times 14 = .ok (.dconst 0, 1) := by decide +kernel
theorem dX4_times_15 : decode cX4_times 15 = .ok (.dcmp .l, 1) := by decide +kernel
theorem dX4_times_16 : decode cX4_times 16 = .ok (.ifCond .ne 15, 3) := by decide +kernel
theorem dX4_times_19 : decode cX4_times 19 = .ok (.dload_n 1, 1) := by decide +kernel
theorem dX4_times_20 : decode cX4_times 20 = .ok (.invokestatic 13, 3) := by decide +kernel
theorem dX4_times_23 : decode cX4_times 23 = .ok (.ifCond .eq 8, 3) := by decide +kernel
theorem dX4_times_26 : decode cX4_times 26 = .ok (.aload_n 0, 1) := by decide +kernel
theorem dX4_times_27 : decode cX4_times 27 = .ok (.invokevirtual 19, 3) := by decide +kernel
theorem dX4_times_30 : decode cX4_times 30 = .ok (.dreturn, 1) := by decide +kernel
theorem dX4_times_31 : decode cX4_times 31 = .ok (.dload_n 1, 1) := by decide +kernel
theorem dX4_times_32 : decode cX4_times 32 = .ok (.dload_n 3, 1) := by decide +kernel
theorem dX4_times_33 : decode cX4_times 33 = .ok (.dmul, 1) := by decide +kernel
theorem dX4_times_34 : decode cX4_times 34 = .ok (.dreturn, 1) := by decide +kernel
theorem dX4_over_0 : decode cX4_over 0 = .ok (.dload_n 1, 1) := by decide +kernel
theorem dX4_over_1 : decode cX4_over 1 = .ok (.dconst 0, 1) := by decide +kernel
theorem dX4_over_2 : decode cX4_over 2 = .ok (.dcmp .l, 1) := by decide +kernel
theorem dX4_over_3 : decode cX4_over 3 = .ok (.ifCond .ne 9, 3) := by decide +kernel
theorem dX4_over_6 : decode cX4_over 6 = .ok (.dload_n 3, 1) := by decide +kernel
theorem dX4_over_7 : decode cX4_over 7 = .ok (.dconst 0, 1) := by decide +kernel
theorem dX4_over_8 : decode cX4_over 8 = .ok (.dcmp .l, 1) := by decide +kernel
theorem dX4_over_9 : decode cX4_over 9 = .ok (.ifCond .eq 17, 3) := by decide +kernel
theorem dX4_over_12 : decode cX4_over 12 = .ok (.dload_n 1, 1) := by decide +kernel
theorem dX4_over_13 : decode cX4_over 13 = .ok (.invokestatic 13, 3) := by decide +kernel
theorem dX4_over_16 : decode cX4_over 16 = .ok (.ifCond .eq 15, 3) := by decide +kernel
theorem dX4_over_19 : decode cX4_over 19 = .ok (.dload_n 3, 1) := by decide +kernel
theorem dX4_over_20 : decode cX4_over 20 = .ok (.invokestatic 13, 3) := by decide +kernel
theorem dX4_over_23 : decode cX4_over 23 = .ok (.ifCond .eq 8, 3) := by decide +kernel
theorem dX4_over_26 : decode cX4_over 26 = .ok (.aload_n 0, 1) := by decide +kernel
theorem dX4_over_27 : decode cX4_over 27 = .ok (.invokevirtual 19, 3) := by decide +kernel
theorem dX4_over_30 : decode cX4_over 30 = .ok (.dreturn, 1) := by decide +kernel
theorem dX4_over_31 : decode cX4_over 31 = .ok (.dload_n 1, 1) := by decide +kernel
theorem dX4_over_32 : decode cX4_over 32 = .ok (.dload_n 3, 1) := by decide +kernel
theorem dX4_over_33 : decode cX4_over 33 = .ok (.ddiv, 1) := by decide +kernel
theorem dX4_over_34 : decode cX4_over 34 = .ok (.dreturn, 1) := by decide +kernel
theorem dX5_init_0 : decode cX5_init 0 = .ok (.aload_n 0, 1) := by decide +kernel
theorem dX5_init_1 : decode cX5_init 1 = .ok (.invokespecial 3, 3) := by decide +kernel
theorem dX5_init_4 : decode cX5_init 4 = .ok (.aload_n 0, 1) := by decide +kernel
theorem dX5_init_5 : decode cX5_init 5 = .ok (.aload_n 1, 1) := by decide +kernel
theorem dX5_init_6 : decode cX5_init 6 = .ok (.putfield 9, 3) := by decide +kernel
theorem dX5_init_9 : decode cX5_init 9 = .ok (.aload_n 0, 1) := by decide +kernel
theorem dX5_init_10 : decode cX5_init 10 = .ok (.new 15, 3) := by decide +kernel
theorem dX5_init_13 : decode cX5_init 13 = .ok (.dup, 1) := by decide +kernel
theorem dX5_init_14 : decode cX5_init 14 = .ok (.invokespecial 17, 3) := by decide +kernel
theorem dX5_init_17 : decode cX5_init 17 = .ok (.putfield 18, 3) := by decide +kernel
theorem dX5_init_20 : decode cX5_init 20 = .ok (.aload_n 0, 1) := by decide +kernel
theorem dX5_init_21 : decode cX5_init 21 = .ok (.sipush 480, 3) := by decide +kernel
theorem dX5_init_24 : decode cX5_init 24 = .ok (.newarray .double, 2) := by decide +kernel
theorem dX5_init_26 : decode cX5_init 26 = .ok (.putfield 22, 3) := by decide +kernel
theorem dX5_init_29 : decode cX5_init 29 = .ok (.return_, 1) := by decide +kernel
theorem dX5_valueOf_0 : decode cX5_valueOf 0 = .ok (.aload_n 0, 1) := by decide +kernel
theorem dX5_valueOf_1 : decode cX5_valueOf 1 = .ok (.iload_n 2, 1) := by decide +kernel
theorem dX5_valueOf_2 : decode cX5_valueOf 2 = .ok (.putfield 26, 3) := by decide +kernel
theorem dX5_valueOf_5 : decode cX5_valueOf 5 = .ok (.aload_n 0, 1) := by decide +kernel
theorem dX5_valueOf_6 : decode cX5_valueOf 6 = .ok (.iconst 0, 1) := by decide +kernel
theorem dX5_valueOf_7 : decode cX5_valueOf 7 = .ok (.putfield 30, 3) := by decide +kernel
theorem dX5_valueOf_10 : decode cX5_valueOf 10 = .ok (.aload_n 0, 1) := by decide +kernel
theorem dX5_valueOf_11 : decode cX5_valueOf 11 = .ok (.bipush (-9), 2) := by decide +kernel
theorem dX5_valueOf_13 : decode cX5_valueOf 13 = .ok (.putfield 33, 3) := by decide +kernel
theorem dX5_valueOf_16 : decode cX5_valueOf 16 = .ok (.aload_n 0, 1) := by decide +kernel
theorem dX5_valueOf_17 : decode cX5_valueOf 17 = .ok (.iconst 0, 1) := by decide +kernel
theorem dX5_valueOf_18 : decode cX5_valueOf 18 = .ok (.putfield 36, 3) := by decide +kernel
theorem dX5_valueOf_21 : decode cX5_valueOf 21 = .ok (.aload_n 0, 1) := by decide +kernel
theorem dX5_valueOf_22 : decode cX5_valueOf 22 = .ok (.iconst 0, 1) := by decide +kernel
theorem dX5_valueOf_23 : decode cX5_valueOf 23 = .ok (.putfield 39, 3) := by decide +kernel
theorem dX5_valueOf_26 : decode cX5_valueOf 26 = .ok (.aload_n 0, 1) := by decide +kernel
theorem dX5_valueOf_27 : decode cX5_valueOf 27 = .ok (.iconst 0, 1) := by decide +kernel
theorem dX5_valueOf_28 : decode cX5_valueOf 28 = .ok (.putfield 42, 3) := by decide +kernel
theorem dX5_valueOf_31 : decode cX5_valueOf 31 = .ok (.aload_n 0, 1) := by decide +kernel
theorem dX5_valueOf_32 : decode cX5_valueOf 32 = .ok (.aload_n 1, 1) := by decide +kernel
theorem dX5_valueOf_33 : decode cX5_valueOf 33 = .ok (.iconst 1, 1) := by decide +kernel
theorem dX5_valueOf_34 : decode cX5_valueOf 34 = .ok (.invokevirtual 45, 3) := by decide +kernel
theorem dX5_valueOf_37 : decode cX5_valueOf 37 = .ok (.dreturn, 1) := by decide +kernel
theorem dX5_ask_0 : decode cX5_ask 0 = .ok (.iload_n 2, 1) := by decide +kernel
theorem dX5_ask_1 : decode cX5_ask 1 = .ok (.bipush 60, 2) := by decide +kernel
theorem dX5_ask_3 : decode cX5_ask 3 = .ok (.if_icmp .le 10, 3) := by decide +kernel
theorem dX5_ask_6 : decode cX5_ask 6 = .ok (.aload_n 0, 1) := by decide +kernel
theorem dX5_ask_7 : decode cX5_ask 7 = .ok (.aload_n 1, 1) := by decide +kernel
theorem dX5_ask_8 : decode cX5_ask 8 = .ok (.iconst 2, 1) := by decide +kernel
theorem dX5_ask_9 : decode cX5_ask 9 = .ok (.invokevirtual 49, 3) := by decide +kernel
theorem dX5_ask_12 : decode cX5_ask 12 = .ok (.dreturn, 1) := by decide +kernel
theorem dX5_ask_13 : decode cX5_ask 13 = .ok (.aload_n 0, 1) := by decide +kernel
theorem dX5_ask_14 : decode cX5_ask 14 = .ok (.dup, 1) := by decide +kernel
theorem dX5_ask_15 : decode cX5_ask 15 = .ok (.getfield 36, 3) := by decide +kernel
theorem dX5_ask_18 : decode cX5_ask 18 = .ok (.iconst 1, 1) := by decide +kernel
theorem dX5_ask_19 : decode cX5_ask 19 = .ok (.iadd, 1) := by decide +kernel
theorem dX5_ask_20 : decode cX5_ask 20 = .ok (.putfield 36, 3) := by decide +kernel
theorem dX5_ask_23 : decode cX5_ask 23 = .ok (.iload_n 2, 1) := by decide +kernel
theorem dX5_ask_24 : decode cX5_ask 24 = .ok (.aload_n 0, 1) := by decide +kernel
theorem dX5_ask_25 : decode cX5_ask 25 = .ok (.getfield 42, 3) := by decide +kernel
theorem dX5_ask_28 : decode cX5_ask 28 = .ok (.if_icmp .le 8, 3) := by decide +kernel
theorem dX5_ask_31 : decode cX5_ask 31 = .ok (.aload_n 0, 1) := by decide +kernel
theorem dX5_ask_32 : decode cX5_ask 32 = .ok (.iload_n 2, 1) := by decide +kernel
theorem dX5_ask_33 : decode cX5_ask 33 = .ok (.putfield 42, 3) := by decide +kernel
theorem dX5_ask_36 : decode cX5_ask 36 = .ok (.aload_n 1, 1) := by decide +kernel
theorem dX5_ask_37 : decode cX5_ask 37 = .ok (.getfield 52, 3) := by decide +kernel
theorem dX5_ask_40 : decode cX5_ask 40 = .ok (.bipush 13, 2) := by decide +kernel
theorem dX5_ask_42 : decode cX5_ask 42 = .ok (.if_icmp .ne 10, 3) := by decide +kernel
theorem dX5_ask_45 : decode cX5_ask 45 = .ok (.aload_n 0, 1) := by decide +kernel
theorem dX5_ask_46 : decode cX5_ask 46 = .ok (.aload_n 1, 1) := by decide +kernel
theorem dX5_ask_47 : decode cX5_ask 47 = .ok (.iload_n 2, 1) := by decide +kernel
theorem dX5_ask_48 : decode cX5_ask 48 = .ok (.invokevirtual 59, 3) := by decide +kernel
theorem dX5_ask_51 : decode cX5_ask 51 = .ok (.dreturn, 1) := by decide +kernel
theorem dX5_ask_52 : decode cX5_ask 52 = .ok (.iload_n 2, 1) := by decide +kernel
theorem dX5_ask_53 : decode cX5_ask 53 = .ok (.iconst 1, 1) := by decide +kernel
theorem dX5_ask_54 : decode cX5_ask 54 = .ok (.isub, 1) := by decide +kernel
theorem dX5_ask_55 : decode cX5_ask 55 = .ok (.bipush 8, 2) := by decide +kernel
theorem dX5_ask_57 : decode cX5_ask 57 = .ok (.imul, 1) := by decide +kernel
theorem dX5_ask_58 : decode cX5_ask 58 = .ok (.istore_n 3, 1) := by decide +kernel
theorem dX5_ask_59 : decode cX5_ask 59 = .ok (.iconst 0, 1) := by decide +kernel
theorem dX5_ask_60 : decode cX5_ask 60 = .ok (.istore 4, 2) := by decide +kernel
theorem dX5_ask_62 : decode cX5_ask 62 = .ok (.iload 4, 2) := by decide +kernel
theorem dX5_ask_64 : decode cX5_ask 64 = .ok (.aload_n 1, 1) := by decide +kernel
theorem dX5_ask_65 : decode cX5_ask 65 = .ok (.getfield 62, 3) := by decide +kernel
theorem dX5_ask_68 : decode cX5_ask 68 = .ok (.if_icmp .ge 41, 3) := by decide +kernel
theorem dX5_ask_71 : decode cX5_ask 71 = .ok (.aload_n 0, 1) := by decide +kernel
theorem dX5_ask_72 : decode cX5_ask 72 = .ok (.getfield 22, 3) := by decide +kernel
theorem dX5_ask_75 : decode cX5_ask 75 = .ok (.iload_n 3, 1) := by decide +kernel
theorem dX5_ask_76 : decode cX5_ask 76 = .ok (.iload 4, 2) := by decide +kernel
theorem dX5_ask_78 : decode cX5_ask 78 = .ok (.iadd, 1) := by decide +kernel
theorem dX5_ask_79 : decode cX5_ask 79 = .ok (.aload_n 0, 1) := by decide +kernel
theorem dX5_ask_80 : decode cX5_ask 80 = .ok (.aload_n 1, 1) := by decide +kernel
theorem dX5_ask_81 : decode cX5_ask 81 = .ok (.getfield 65, 3) := by decide +kernel
theorem dX5_ask_84 : decode cX5_ask 84 = .ok (.iload 4, 2) := by decide +kernel
theorem dX5_ask_86 : decode cX5_ask 86 = .ok (.aaload, 1) := by decide +kernel
theorem dX5_ask_87 : decode cX5_ask 87 = .ok (.iload_n 2, 1) := by decide +kernel
theorem dX5_ask_88 : decode cX5_ask 88 = .ok (.iconst 1, 1) := by decide +kernel
theorem dX5_ask_89 : decode cX5_ask 89 = .ok (.iadd, 1) := by decide +kernel
theorem dX5_ask_90 : decode cX5_ask 90 = .ok (.invokevirtual 45, 3) := by decide +kernel
theorem dX5_ask_93 : decode cX5_ask 93 = .ok (.dastore, 1) := by decide +kernel
theorem dX5_ask_94 : decode cX5_ask 94 = .ok (.aload_n 0, 1) := by decide +kernel
theorem dX5_ask_95 : decode cX5_ask 95 = .ok (.getfield 30, 3) := by decide +kernel
theorem dX5_ask_98 : decode cX5_ask 98 = .ok (.ifCond .eq 5, 3) := by decide +kernel
theorem dX5_ask_101 : decode cX5_ask 101 = .ok (.dconst 0, 1) := by decide +kernel
theorem dX5_ask_102 : decode cX5_ask 102 = .ok (.dreturn, 1) := by decide +kernel
theorem dX5_ask_103 : decode cX5_ask 103 = .ok (.iinc 4 1, 3) := by decide +kernel
theorem dX5_ask_106 : decode cX5_ask 106 = .ok (.goto (-44), 3) := by decide +kernel
theorem dX5_ask_109 : decode cX5_ask 109 = .ok (.aload_n 0, 1) := by decide +kernel
theorem dX5_ask_110 : decode cX5_ask 110 = .ok (.getfield 18, 3) := by decide +kernel
theorem dX5_ask_113 : decode cX5_ask 113 = .ok (.invokevirtual 69, 3) := by decide +kernel
theorem dX5_ask_116 : decode cX5_ask 116 = .ok (.aload_n 0, 1) := by decide +kernel
theorem dX5_ask_117 : decode cX5_ask 117 = .ok (.aload_n 1, 1) := by decide +kernel
theorem dX5_ask_118 : decode cX5_ask 118 = .ok (.aload_n 1, 1) := by decide +kernel
theorem dX5_ask_119 : decode cX5_ask 119 = .ok (.getfield 62, 3) := by decide +kernel
theorem dX5_ask_122 : decode cX5_ask 122 = .ok (.ifCond .ne 11, 3) := by decide +kernel
theorem dX5_ask_125 : decode cX5_ask 125 = .ok (.aload_n 0, 1) := by decide +kernel
theorem dX5_ask_126 : decode cX5_ask 126 = .ok (.aload_n 1, 1) := by decide +kernel
theorem dX5_ask_127 : decode cX5_ask 127 = .ok (.invokevirtual 72, 3) := by decide +kernel
theorem dX5_ask_130 : decode cX5_ask 130 = .ok (.goto 9, 3) := by decide +kernel
theorem dX5_ask_133 : decode cX5_ask 133 = .ok (.aload_n 0, 1) := by decide +kernel
theorem dX5_ask_134 : decode cX5_ask 134 = .ok (.aload_n 1, 1) := by decide +kernel
theorem dX5_ask_135 : decode cX5_ask 135 = .ok (.iload_n 3, 1) := by decide +kernel
theorem dX5_ask_136 : decode cX5_ask 136 = .ok (.invokevirtual 76, 3) := by decide +kernel
theorem dX5_ask_139 : decode cX5_ask 139 = .ok (.invokevirtual 79, 3) := by decide +kernel
theorem dX5_ask_142 : decode cX5_ask 142 = .ok (.dreturn, 1) := by decide +kernel
theorem dX5_askElse_0 : decode cX5_askElse 0 = .ok (.aload_n 0, 1) := by decide +kernel
theorem dX5_askElse_1 : decode cX5_askElse 1 = .ok (.aload_n 1, 1) := by decide +kernel
theorem dX5_askElse_2 : decode cX5_askElse 2 = .ok (.getfield 65, 3) := by decide +kernel
theorem dX5_askElse_5 : decode cX5_askElse 5 = .ok (.iconst 0, 1) := by decide +kernel
theorem dX5_askElse_6 : decode cX5_askElse 6 = .ok (.aaload, 1) := by decide +kernel
theorem dX5_askElse_7 : decode cX5_askElse 7 = .ok (.iload_n 2, 1) := by decide +kernel
theorem dX5_askElse_8 : decode cX5_askElse 8 = .ok (.iconst 1, 1) := by decide +kernel
theorem dX5_askElse_9 : decode cX5_askElse 9 = .ok (.iadd, 1) := by decide +kernel
theorem dX5_askElse_10 : decode cX5_askElse 10 = .ok (.invokevirtual 45, 3) := by decide +kernel
theorem dX5_askElse_13 : decode cX5_askElse 13 = .ok (.dstore_n 3, 1) := by decide +kernel
theorem dX5_askElse_14 : decode cX5_askElse 14 = .ok (.aload_n 0, 1) := by decide +kernel
theorem dX5_askElse_15 : decode cX5_askElse 15 = .ok (.getfield 30, 3) := by decide +kernel
theorem dX5_askElse_18 : decode cX5_askElse 18 = .ok (.ifCond .ne 5, 3) := by decide +kernel
theorem dX5_askElse_21 : decode cX5_askElse 21 = .ok (.dload_n 3, 1) := by decide +kernel
theorem dX5_askElse_22 : decode cX5_askElse 22 = .ok (.dreturn, 1) := by decide +kernel
theorem dX5_askElse_23 : decode cX5_askElse 23 = .ok (.aload_n 0, 1) := by decide +kernel
theorem dX5_askElse_24 : decode cX5_askElse 24 = .ok (.dup, 1) := by decide +kernel
theorem dX5_askElse_25 : decode cX5_askElse 25 = .ok (.getfield 39, 3) := by decide +kernel
theorem dX5_askElse_28 : decode cX5_askElse 28 = .ok (.iconst 1, 1) := by decide +kernel
theorem dX5_askElse_29 : decode cX5_askElse 29 = .ok (.iadd, 1) := by decide +kernel
theorem dX5_askElse_30 : decode cX5_askElse 30 = .ok (.putfield 39, 3) := by decide +kernel
theorem dX5_askElse_33 : decode cX5_askElse 33 = .ok (.aload_n 0, 1) := by decide +kernel
theorem dX5_askElse_34 : decode cX5_askElse 34 = .ok (.iconst 0, 1) := by decide +kernel
theorem dX5_askElse_35 : decode cX5_askElse 35 = .ok (.putfield 30, 3) := by decide +kernel
theorem dX5_askElse_38 : decode cX5_askElse 38 = .ok (.aload_n 0, 1) := by decide +kernel
theorem dX5_askElse_39 : decode cX5_askElse 39 = .ok (.bipush (-9), 2) := by decide +kernel
theorem dX5_askElse_41 : decode cX5_askElse 41 = .ok (.putfield 33, 3) := by decide +kernel
theorem dX5_askElse_44 : decode cX5_askElse 44 = .ok (.aload_n 0, 1) := by decide +kernel
theorem dX5_askElse_45 : decode cX5_askElse 45 = .ok (.aload_n 1, 1) := by decide +kernel
theorem dX5_askElse_46 : decode cX5_askElse 46 = .ok (.getfield 65, 3) := by decide +kernel
theorem dX5_askElse_49 : decode cX5_askElse 49 = .ok (.iconst 1, 1) := by decide +kernel
theorem dX5_askElse_50 : decode cX5_askElse 50 = .ok (.aaload, 1) := by decide +kernel
theorem dX5_askElse_51 : decode cX5_askElse 51 = .ok (.iload_n 2, 1) := by decide +kernel
theorem dX5_askElse_52 : decode cX5_askElse 52 = .ok (.iconst 1, 1) := by decide +kernel
theorem dX5_askElse_53 : decode cX5_askElse 53 = .ok (.iadd, 1) := by decide +kernel
theorem dX5_askElse_54 : decode cX5_askElse 54 = .ok (.invokevirtual 45, 3) := by decide +kernel
theorem dX5_askElse_57 : decode cX5_askElse 57 = .ok (.dreturn, 1) := by decide +kernel
theorem dX5_fail_0 : decode cX5_fail 0 = .ok (.aload_n 0, 1) := by decide +kernel
theorem dX5_fail_1 : decode cX5_fail 1 = .ok (.iload_n 2, 1) := by decide +kernel
theorem dX5_fail_2 : decode cX5_fail 2 = .ok (.putfield 30, 3) := by decide +kernel
theorem dX5_fail_5 : decode cX5_fail 5 = .ok (.aload_n 0, 1) := by decide +kernel
theorem dX5_fail_6 : decode cX5_fail 6 = .ok (.aload_n 1, 1) := by decide +kernel
theorem dX5_fail_7 : decode cX5_fail 7 = .ok (.getfield 83, 3) := by decide +kernel
theorem dX5_fail_10 : decode cX5_fail 10 = .ok (.putfield 33, 3) := by decide +kernel
theorem dX5_fail_13 : decode cX5_fail 13 = .ok (.dconst 0, 1) := by decide +kernel
theorem dX5_fail_14 : decode cX5_fail 14 = .ok (.dreturn, 1) := by decide +kernel
theorem dX5_judge_0 : decode cX5_judge 0 = .ok (.aload_n 0, 1) := by decide +kernel
theorem dX5_judge_1 : decode cX5_judge 1 = .ok (.getfield 18, 3) := by decide +kernel
theorem dX5_judge_4 : decode cX5_judge 4 = .ok (.invokevirtual 86, 3) := by decide +kernel
theorem dX5_judge_7 : decode cX5_judge 7 = .ok (.ifCond .eq 22, 3) := by decide +kernel
theorem dX5_judge_10 : decode cX5_judge 10 = .ok (.aload_n 0, 1) := by decide +kernel
theorem dX5_judge_11 : decode cX5_judge 11 = .ok (.aload_n 1, 1) := by decide +kernel
theorem dX5_judge_12 : decode cX5_judge 12 = .ok (.aload_n 1, 1) := by decide +kernel
theorem dX5_judge_13 : decode cX5_judge 13 = .ok (.getfield 52, 3) := by decide +kernel
theorem dX5_judge_16 : decode cX5_judge 16 = .ok (.iconst 5, 1) := by decide +kernel
theorem dX5_judge_17 : decode cX5_judge 17 = .ok (.if_icmp .ne 7, 3) := by decide +kernel
theorem dX5_judge_20 : decode cX5_judge 20 = .ok (.iconst 1, 1) := by decide +kernel
theorem dX5_judge_21 : decode cX5_judge 21 = .ok (.goto 4, 3) := by decide +kernel
theorem dX5_judge_24 : decode cX5_judge 24 = .ok (.iconst 2, 1) := by decide +kernel
theorem dX5_judge_25 : decode cX5_judge 25 = .ok (.invokevirtual 49, 3) := by decide +kernel
theorem dX5_judge_28 : decode cX5_judge 28 = .ok (.dreturn, 1) := by decide +kernel
theorem dX5_judge_29 : decode cX5_judge 29 = .ok (.aload_n 1, 1) := by decide +kernel
theorem dX5_judge_30 : decode cX5_judge 30 = .ok (.getfield 52, 3) := by decide +kernel
theorem dX5_judge_33 : decode cX5_judge 33 = .ok (.invokestatic 90, 3) := by decide +kernel
theorem dX5_judge_36 : decode cX5_judge 36 = .ok (.ifCond .eq 16, 3) := by decide +kernel
theorem dX5_judge_39 : decode cX5_judge 39 = .ok (.dload_n 2, 1) := by decide +kernel
theorem dX5_judge_40 : decode cX5_judge 40 = .ok (.dconst 0, 1) := by decide +kernel
theorem dX5_judge_41 : decode cX5_judge 41 = .ok (.dcmp .g, 1) := by decide +kernel
theorem dX5_judge_42 : decode cX5_judge 42 = .ok (.ifCond .ge 10, 3) := by decide +kernel
theorem dX5_judge_45 : decode cX5_judge 45 = .ok (.aload_n 0, 1) := by decide +kernel
theorem dX5_judge_46 : decode cX5_judge 46 = .ok (.aload_n 1, 1) := by decide +kernel
theorem dX5_judge_47 : decode cX5_judge 47 = .ok (.iconst 3, 1) := by decide +kernel
theorem dX5_judge_48 : decode cX5_judge 48 = .ok (.invokevirtual 49, 3) := by decide +kernel
theorem dX5_judge_51 : decode cX5_judge 51 = .ok (.dreturn, 1) := by decide +kernel
theorem dX5_judge_52 : decode cX5_judge 52 = .ok (.dload_n 2, 1) := by decide +kernel
theorem dX5_judge_53 : decode cX5_judge 53 = .ok (.dreturn, 1) := by decide +kernel
theorem dX5_workAlone_0 : decode cX5_workAlone 0 = .ok (.aload_n 1, 1) := by decide +kernel
theorem dX5_workAlone_1 : decode cX5_workAlone 1 = .ok (.getfield 52, 3) := by decide +kernel
theorem dX5_workAlone_4 : decode cX5_workAlone 4 = .ok (.tableswitch 143 0 7 #[48, 70, 86, 102, 126, 132, 143, 141], 48) := by decide +kernel
theorem dX5_workAlone_52 : decode cX5_workAlone 52 = .ok (.aload_n 1, 1) := by decide +kernel
theorem dX5_workAlone_53 : decode cX5_workAlone 53 = .ok (.getfield 94, 3) := by decide +kernel
theorem dX5_workAlone_56 : decode cX5_workAlone 56 = .ok (.ifCond .eq 10, 3) := by decide +kernel
theorem dX5_workAlone_59 : decode cX5_workAlone 59 = .ok (.aload_n 1, 1) := by decide +kernel
theorem dX5_workAlone_60 : decode cX5_workAlone 60 = .ok (.getfield 98, 3) := by decide +kernel
theorem dX5_workAlone_63 : decode cX5_workAlone 63 = .ok (.goto 10, 3) := by decide +kernel
theorem dX5_workAlone_66 : decode cX5_workAlone 66 = .ok (.aload_n 0, 1) := by decide +kernel
theorem dX5_workAlone_67 : decode cX5_workAlone 67 = .ok (.getfield 18, 3) := by decide +kernel
theorem dX5_workAlone_70 : decode cX5_workAlone 70 = .ok (.invokevirtual 102, 3) := by decide +kernel
theorem dX5_workAlone_73 : decode cX5_workAlone 73 = .ok (.dreturn, 1) := by decide +kernel
theorem dX5_workAlone_74 : decode cX5_workAlone 74 = .ok (.aload_n 0, 1) := by decide +kernel
theorem dX5_workAlone_75 : decode cX5_workAlone 75 = .ok (.getfield 9, 3) := by decide +kernel
theorem dX5_workAlone_78 : decode cX5_workAlone 78 = .ok (.aload_n 0, 1) := by decide +kernel
theorem dX5_workAlone_79 : decode cX5_workAlone 79 = .ok (.getfield 26, 3) := by decide +kernel
theorem dX5_workAlone_82 : decode cX5_workAlone 82 = .ok (.aload_n 1, 1) := by decide +kernel
theorem dX5_workAlone_83 : decode cX5_workAlone 83 = .ok (.getfield 106, 3) := by decide +kernel
theorem dX5_workAlone_86 : decode cX5_workAlone 86 = .ok (.invokevirtual 109, 3) := by decide +kernel
theorem dX5_workAlone_89 : decode cX5_workAlone 89 = .ok (.dreturn, 1) := by decide +kernel
theorem dX5_workAlone_90 : decode cX5_workAlone 90 = .ok (.aload_n 0, 1) := by decide +kernel
theorem dX5_workAlone_91 : decode cX5_workAlone 91 = .ok (.getfield 9, 3) := by decide +kernel
theorem dX5_workAlone_94 : decode cX5_workAlone 94 = .ok (.aload_n 0, 1) := by decide +kernel
theorem dX5_workAlone_95 : decode cX5_workAlone 95 = .ok (.getfield 26, 3) := by decide +kernel
theorem dX5_workAlone_98 : decode cX5_workAlone 98 = .ok (.aload_n 1, 1) := by decide +kernel
theorem dX5_workAlone_99 : decode cX5_workAlone 99 = .ok (.getfield 106, 3) := by decide +kernel
theorem dX5_workAlone_102 : decode cX5_workAlone 102 = .ok (.invokevirtual 115, 3) := by decide +kernel
theorem dX5_workAlone_105 : decode cX5_workAlone 105 = .ok (.dreturn, 1) := by decide +kernel
theorem dX5_workAlone_106 : decode cX5_workAlone 106 = .ok (.aload_n 0, 1) := by decide +kernel
theorem dX5_workAlone_107 : decode cX5_workAlone 107 = .ok (.aload_n 0, 1) := by decide +kernel
theorem dX5_workAlone_108 : decode cX5_workAlone 108 = .ok (.getfield 9, 3) := by decide +kernel
theorem dX5_workAlone_111 : decode cX5_workAlone 111 = .ok (.aload_n 0, 1) := by decide +kernel
theorem dX5_workAlone_112 : decode cX5_workAlone 112 = .ok (.getfield 26, 3) := by decide +kernel
theorem dX5_workAlone_115 : decode cX5_workAlone 115 = .ok (.aload_n 1, 1) := by decide +kernel
theorem dX5_workAlone_116 : decode cX5_workAlone 116 = .ok (.getfield 106, 3) := by decide +kernel
theorem dX5_workAlone_119 : decode cX5_workAlone 119 = .ok (.invokevirtual 109, 3) := by decide +kernel
theorem dX5_workAlone_122 : decode cX5_workAlone 122 = .ok (.aload_n 1, 1) := by decide +kernel
theorem dX5_workAlone_123 : decode cX5_workAlone 123 = .ok (.getfield 98, 3) := by decide +kernel
theorem dX5_workAlone_126 : decode cX5_workAlone 126 = .ok (.invokevirtual 118, 3) := by decide +kernel
theorem dX5_workAlone_129 : decode cX5_workAlone 129 = .ok (.dreturn, 1) := by decide +kernel
theorem dX5_workAlone_130 : decode cX5_workAlone 130 = .ok (.aload_n 0, 1) := by decide +kernel
theorem dX5_workAlone_131 : decode cX5_workAlone 131 = .ok (.aload_n 1, 1) := by decide +kernel
theorem dX5_workAlone_132 : decode cX5_workAlone 132 = .ok (.invokevirtual 122, 3) := by decide +kernel
theorem dX5_workAlone_135 : decode cX5_workAlone 135 = .ok (.dreturn, 1) := by decide +kernel
theorem dX5_workAlone_136 : decode cX5_workAlone 136 = .ok (.aload_n 0, 1) := by decide +kernel
theorem dX5_workAlone_137 : decode cX5_workAlone 137 = .ok (.aload_n 1, 1) := by decide +kernel
theorem dX5_workAlone_138 : decode cX5_workAlone 138 = .ok (.getfield 106, 3) := by decide +kernel
theorem dX5_workAlone_141 : decode cX5_workAlone 141 = .ok (.invokevirtual 125, 3) := by decide +kernel
theorem dX5_workAlone_144 : decode cX5_workAlone 144 = .ok (.dreturn, 1) := by decide +kernel
theorem dX5_workAlone_145 : decode cX5_workAlone 145 = .ok (.dconst 1, 1) := by decide +kernel
theorem dX5_workAlone_146 : decode cX5_workAlone 146 = .ok (.dreturn, 1) := by decide +kernel
theorem dX5_workAlone_147 : decode cX5_workAlone 147 = .ok (.dconst 0, 1) := by decide +kernel
theorem dX5_workAlone_148 : decode cX5_workAlone 148 = .ok (.dreturn, 1) := by decide +kernel
theorem dX5_workParts_0 : decode cX5_workParts 0 = .ok (.aload_n 0, 1) := by decide +kernel
theorem dX5_workParts_1 : decode cX5_workParts 1 = .ok (.getfield 22, 3) := by decide +kernel
theorem dX5_workParts_4 : decode cX5_workParts 4 = .ok (.iload_n 2, 1) := by decide +kernel
theorem dX5_workParts_5 : decode cX5_workParts 5 = .ok (.daload, 1) := by decide +kernel
theorem dX5_workParts_6 : decode cX5_workParts 6 = .ok (.dstore_n 3, 1) := by decide +kernel
theorem dX5_workParts_7 : decode cX5_workParts 7 = .ok (.aload_n 1, 1) := by decide +kernel
theorem dX5_workParts_8 : decode cX5_workParts 8 = .ok (.getfield 52, 3) := by decide +kernel
theorem dX5_workParts_11 : decode cX5_workParts 11 = .ok (.tableswitch 112 6 11 #[37, 47, 57, 71, 84, 98], 37) := by decide +kernel
theorem dX5_workParts_48 : decode cX5_workParts 48 = .ok (.aload_n 0, 1) := by decide +kernel
theorem dX5_workParts_49 : decode cX5_workParts 49 = .ok (.iload_n 2, 1) := by decide +kernel
theorem dX5_workParts_50 : decode cX5_workParts 50 = .ok (.aload_n 1, 1) := by decide +kernel
theorem dX5_workParts_51 : decode cX5_workParts 51 = .ok (.getfield 62, 3) := by decide +kernel
theorem dX5_workParts_54 : decode cX5_workParts 54 = .ok (.invokevirtual 129, 3) := by decide +kernel
theorem dX5_workParts_57 : decode cX5_workParts 57 = .ok (.dreturn, 1) := by decide +kernel
theorem dX5_workParts_58 : decode cX5_workParts 58 = .ok (.aload_n 0, 1) := by decide +kernel
theorem dX5_workParts_59 : decode cX5_workParts 59 = .ok (.iload_n 2, 1) := by decide +kernel
theorem dX5_workParts_60 : decode cX5_workParts 60 = .ok (.aload_n 1, 1) := by decide +kernel
theorem dX5_workParts_61 : decode cX5_workParts 61 = .ok (.getfield 62, 3) := by decide +kernel
theorem dX5_workParts_64 : decode cX5_workParts 64 = .ok (.invokevirtual 132, 3) := by decide +kernel
theorem dX5_workParts_67 : decode cX5_workParts 67 = .ok (.dreturn, 1) := by decide +kernel
theorem dX5_workParts_68 : decode cX5_workParts 68 = .ok (.aload_n 0, 1) := by decide +kernel
theorem dX5_workParts_69 : decode cX5_workParts 69 = .ok (.iload_n 2, 1) := by decide +kernel
theorem dX5_workParts_70 : decode cX5_workParts 70 = .ok (.aload_n 1, 1) := by decide +kernel
theorem dX5_workParts_71 : decode cX5_workParts 71 = .ok (.getfield 62, 3) := by decide +kernel
theorem dX5_workParts_74 : decode cX5_workParts 74 = .ok (.aload_n 1, 1) := by decide +kernel
theorem dX5_workParts_75 : decode cX5_workParts 75 = .ok (.getfield 98, 3) := by decide +kernel
theorem dX5_workParts_78 : decode cX5_workParts 78 = .ok (.invokevirtual 135, 3) := by decide +kernel
theorem dX5_workParts_81 : decode cX5_workParts 81 = .ok (.dreturn, 1) := by decide +kernel
theorem dX5_workParts_82 : decode cX5_workParts 82 = .ok (.aload_n 0, 1) := by decide +kernel
theorem dX5_workParts_83 : decode cX5_workParts 83 = .ok (.getfield 18, 3) := by decide +kernel
theorem dX5_workParts_86 : decode cX5_workParts 86 = .ok (.aload_n 1, 1) := by decide +kernel
theorem dX5_workParts_87 : decode cX5_workParts 87 = .ok (.getfield 98, 3) := by decide +kernel
theorem dX5_workParts_90 : decode cX5_workParts 90 = .ok (.dload_n 3, 1) := by decide +kernel
theorem dX5_workParts_91 : decode cX5_workParts 91 = .ok (.invokevirtual 139, 3) := by decide +kernel
theorem dX5_workParts_94 : decode cX5_workParts 94 = .ok (.dreturn, 1) := by decide +kernel
theorem dX5_workParts_95 : decode cX5_workParts 95 = .ok (.aload_n 0, 1) := by decide +kernel
theorem dX5_workParts_96 : decode cX5_workParts 96 = .ok (.dload_n 3, 1) := by decide +kernel
theorem dX5_workParts_97 : decode cX5_workParts 97 = .ok (.aload_n 1, 1) := by decide +kernel
theorem dX5_workParts_98 : decode cX5_workParts 98 = .ok (.getfield 98, 3) := by decide +kernel
theorem dX5_workParts_101 : decode cX5_workParts 101 = .ok (.aload_n 1, 1) := by decide +kernel
theorem dX5_workParts_102 : decode cX5_workParts 102 = .ok (.getfield 142, 3) := by decide +kernel
theorem dX5_workParts_105 : decode cX5_workParts 105 = .ok (.invokevirtual 145, 3) := by decide +kernel
theorem dX5_workParts_108 : decode cX5_workParts 108 = .ok (.dreturn, 1) := by decide +kernel
theorem dX5_workParts_109 : decode cX5_workParts 109 = .ok (.aload_n 0, 1) := by decide +kernel
theorem dX5_workParts_110 : decode cX5_workParts 110 = .ok (.dload_n 3, 1) := by decide +kernel
theorem dX5_workParts_111 : decode cX5_workParts 111 = .ok (.aload_n 1, 1) := by decide +kernel
theorem dX5_workParts_112 : decode cX5_workParts 112 = .ok (.getfield 98, 3) := by decide +kernel
theorem dX5_workParts_115 : decode cX5_workParts 115 = .ok (.aload_n 1, 1) := by decide +kernel
theorem dX5_workParts_116 : decode cX5_workParts 116 = .ok (.getfield 142, 3) := by decide +kernel
theorem dX5_workParts_119 : decode cX5_workParts 119 = .ok (.invokevirtual 149, 3) := by decide +kernel
theorem dX5_workParts_122 : decode cX5_workParts 122 = .ok (.dreturn, 1) := by decide +kernel
theorem dX5_workParts_123 : decode cX5_workParts 123 = .ok (.dload_n 3, 1) := by decide +kernel
theorem dX5_workParts_124 : decode cX5_workParts 124 = .ok (.invokestatic 152, 3) := by decide +kernel
theorem dX5_workParts_127 : decode cX5_workParts 127 = .ok (.dreturn, 1) := by decide +kernel
theorem dX5_filled_0 : decode cX5_filled 0 = .ok (.aload_n 0, 1) := by decide +kernel
theorem dX5_filled_1 : decode cX5_filled 1 = .ok (.getfield 9, 3) := by decide +kernel
theorem dX5_filled_4 : decode cX5_filled 4 = .ok (.aload_n 0, 1) := by decide +kernel
theorem dX5_filled_5 : decode cX5_filled 5 = .ok (.getfield 26, 3) := by decide +kernel
theorem dX5_filled_8 : decode cX5_filled 8 = .ok (.iload_n 1, 1) := by decide +kernel
theorem dX5_filled_9 : decode cX5_filled 9 = .ok (.invokevirtual 158, 3) := by decide +kernel
theorem dX5_filled_12 : decode cX5_filled 12 = .ok (.ifCond .eq 18, 3) := by decide +kernel
theorem dX5_filled_15 : decode cX5_filled 15 = .ok (.aload_n 0, 1) := by decide +kernel
theorem dX5_filled_16 : decode cX5_filled 16 = .ok (.getfield 9, 3) := by decide +kernel
theorem dX5_filled_19 : decode cX5_filled 19 = .ok (.aload_n 0, 1) := by decide +kernel
theorem dX5_filled_20 : decode cX5_filled 20 = .ok (.getfield 26, 3) := by decide +kernel
theorem dX5_filled_23 : decode cX5_filled 23 = .ok (.iload_n 1, 1) := by decide +kernel
theorem dX5_filled_24 : decode cX5_filled 24 = .ok (.invokevirtual 162, 3) := by decide +kernel
theorem dX5_filled_27 : decode cX5_filled 27 = .ok (.goto 10, 3) := by decide +kernel
theorem dX5_filled_30 : decode cX5_filled 30 = .ok (.aload_n 0, 1) := by decide +kernel
theorem dX5_filled_31 : decode cX5_filled 31 = .ok (.getfield 18, 3) := by decide +kernel
theorem dX5_filled_34 : decode cX5_filled 34 = .ok (.invokevirtual 102, 3) := by decide +kernel
theorem dX5_filled_37 : decode cX5_filled 37 = .ok (.dreturn, 1) := by decide +kernel
theorem dX5_saturated_0 : decode cX5_saturated 0 = .ok (.aload_n 0, 1) := by decide +kernel
theorem dX5_saturated_1 : decode cX5_saturated 1 = .ok (.getfield 18, 3) := by decide +kernel
theorem dX5_saturated_4 : decode cX5_saturated 4 = .ok (.dload_n 1, 1) := by decide +kernel
theorem dX5_saturated_5 : decode cX5_saturated 5 = .ok (.aload_n 0, 1) := by decide +kernel
theorem dX5_saturated_6 : decode cX5_saturated 6 = .ok (.getfield 18, 3) := by decide +kernel
theorem dX5_saturated_9 : decode cX5_saturated 9 = .ok (.dload_n 1, 1) := by decide +kernel
theorem dX5_saturated_10 : decode cX5_saturated 10 = .ok (.dload_n 3, 1) := by decide +kernel
theorem dX5_saturated_11 : decode cX5_saturated 11 = .ok (.invokevirtual 165, 3) := by decide +kernel
theorem dX5_saturated_14 : decode cX5_saturated 14 = .ok (.invokevirtual 168, 3) := by decide +kernel
theorem dX5_saturated_17 : decode cX5_saturated 17 = .ok (.dreturn, 1) := by decide +kernel
theorem dX5_normed_0 : decode cX5_normed 0 = .ok (.aload_n 1, 1) := by decide +kernel
theorem dX5_normed_1 : decode cX5_normed 1 = .ok (.getfield 106, 3) := by decide +kernel
theorem dX5_normed_4 : decode cX5_normed 4 = .ok (.istore_n 2, 1) := by decide +kernel
theorem dX5_normed_5 : decode cX5_normed 5 = .ok (.aload_n 0, 1) := by decide +kernel
theorem dX5_normed_6 : decode cX5_normed 6 = .ok (.getfield 9, 3) := by decide +kernel
theorem dX5_normed_9 : decode cX5_normed 9 = .ok (.iload_n 2, 1) := by decide +kernel
theorem dX5_normed_10 : decode cX5_normed 10 = .ok (.invokevirtual 171, 3) := by decide +kernel
theorem dX5_normed_13 : decode cX5_normed 13 = .ok (.ifCond .ne 11, 3) := by decide +kernel
theorem dX5_normed_16 : decode cX5_normed 16 = .ok (.aload_n 0, 1) := by decide +kernel
theorem dX5_normed_17 : decode cX5_normed 17 = .ok (.getfield 18, 3) := by decide +kernel
theorem dX5_normed_20 : decode cX5_normed 20 = .ok (.invokevirtual 102, 3) := by decide +kernel
theorem dX5_normed_23 : decode cX5_normed 23 = .ok (.dreturn, 1) := by decide +kernel
theorem dX5_normed_24 : decode cX5_normed 24 = .ok (.aload_n 0, 1) := by decide +kernel
theorem dX5_normed_25 : decode cX5_normed 25 = .ok (.getfield 9, 3) := by decide +kernel
theorem dX5_normed_28 : decode cX5_normed 28 = .ok (.aload_n 0, 1) := by decide +kernel
theorem dX5_normed_29 : decode cX5_normed 29 = .ok (.getfield 26, 3) := by decide +kernel
theorem dX5_normed_32 : decode cX5_normed 32 = .ok (.iload_n 2, 1) := by decide +kernel
theorem dX5_normed_33 : decode cX5_normed 33 = .ok (.invokevirtual 109, 3) := by decide +kernel
theorem dX5_normed_36 : decode cX5_normed 36 = .ok (.dstore_n 3, 1) := by decide +kernel
theorem dX5_normed_37 : decode cX5_normed 37 = .ok (.aload_n 1, 1) := by decide +kernel
theorem dX5_normed_38 : decode cX5_normed 38 = .ok (.getfield 98, 3) := by decide +kernel
theorem dX5_normed_41 : decode cX5_normed 41 = .ok (.dstore 5, 2) := by decide +kernel
theorem dX5_normed_43 : decode cX5_normed 43 = .ok (.aload_n 1, 1) := by decide +kernel
theorem dX5_normed_44 : decode cX5_normed 44 = .ok (.getfield 142, 3) := by decide +kernel
theorem dX5_normed_47 : decode cX5_normed 47 = .ok (.dstore 7, 2) := by decide +kernel
theorem dX5_normed_49 : decode cX5_normed 49 = .ok (.aload_n 0, 1) := by decide +kernel
theorem dX5_normed_50 : decode cX5_normed 50 = .ok (.getfield 18, 3) := by decide +kernel
theorem dX5_normed_53 : decode cX5_normed 53 = .ok (.aload_n 0, 1) := by decide +kernel
theorem dX5_normed_54 : decode cX5_normed 54 = .ok (.getfield 9, 3) := by decide +kernel
theorem dX5_normed_57 : decode cX5_normed 57 = .ok (.aload_n 0, 1) := by decide +kernel
theorem dX5_normed_58 : decode cX5_normed 58 = .ok (.getfield 26, 3) := by decide +kernel
theorem dX5_normed_61 : decode cX5_normed 61 = .ok (.iload_n 2, 1) := by decide +kernel
theorem dX5_normed_62 : decode cX5_normed 62 = .ok (.invokevirtual 174, 3) := by decide +kernel
theorem dX5_normed_65 : decode cX5_normed 65 = .ok (.aload_n 0, 1) := by decide +kernel
theorem dX5_normed_66 : decode cX5_normed 66 = .ok (.getfield 9, 3) := by decide +kernel
theorem dX5_normed_69 : decode cX5_normed 69 = .ok (.iload_n 2, 1) := by decide +kernel
theorem dX5_normed_70 : decode cX5_normed 70 = .ok (.invokevirtual 177, 3) := by decide +kernel
theorem dX5_normed_73 : decode cX5_normed 73 = .ok (.invokevirtual 168, 3) := by decide +kernel
theorem dX5_normed_76 : decode cX5_normed 76 = .ok (.dstore 9, 2) := by decide +kernel
theorem dX5_normed_78 : decode cX5_normed 78 = .ok (.aload_n 0, 1) := by decide +kernel
theorem dX5_normed_79 : decode cX5_normed 79 = .ok (.getfield 18, 3) := by decide +kernel
theorem dX5_normed_82 : decode cX5_normed 82 = .ok (.aload_n 0, 1) := by decide +kernel
theorem dX5_normed_83 : decode cX5_normed 83 = .ok (.getfield 18, 3) := by decide +kernel
theorem dX5_normed_86 : decode cX5_normed 86 = .ok (.dconst 1, 1) := by decide +kernel
theorem dX5_normed_87 : decode cX5_normed 87 = .ok (.dload 7, 2) := by decide +kernel
theorem dX5_normed_89 : decode cX5_normed 89 = .ok (.invokevirtual 180, 3) := by decide +kernel
theorem dX5_normed_92 : decode cX5_normed 92 = .ok (.aload_n 0, 1) := by decide +kernel
theorem dX5_normed_93 : decode cX5_normed 93 = .ok (.getfield 18, 3) := by decide +kernel
theorem dX5_normed_96 : decode cX5_normed 96 = .ok (.dload 7, 2) := by decide +kernel
theorem dX5_normed_98 : decode cX5_normed 98 = .ok (.dload 9, 2) := by decide +kernel
theorem dX5_normed_100 : decode cX5_normed 100 = .ok (.invokevirtual 139, 3) := by decide +kernel
theorem dX5_normed_103 : decode cX5_normed 103 = .ok (.invokevirtual 165, 3) := by decide +kernel
theorem dX5_normed_106 : decode cX5_normed 106 = .ok (.dstore 11, 2) := by decide +kernel
theorem dX5_normed_108 : decode cX5_normed 108 = .ok (.aload_n 0, 1) := by decide +kernel
theorem dX5_normed_109 : decode cX5_normed 109 = .ok (.getfield 18, 3) := by decide +kernel
theorem dX5_normed_112 : decode cX5_normed 112 = .ok (.dload_n 3, 1) := by decide +kernel
theorem dX5_normed_113 : decode cX5_normed 113 = .ok (.aload_n 0, 1) := by decide +kernel
theorem dX5_normed_114 : decode cX5_normed 114 = .ok (.getfield 18, 3) := by decide +kernel
theorem dX5_normed_117 : decode cX5_normed 117 = .ok (.dload 5, 2) := by decide +kernel
theorem dX5_normed_119 : decode cX5_normed 119 = .ok (.dconst 1, 1) := by decide +kernel
theorem dX5_normed_120 : decode cX5_normed 120 = .ok (.invokevirtual 165, 3) := by decide +kernel
theorem dX5_normed_123 : decode cX5_normed 123 = .ok (.invokevirtual 139, 3) := by decide +kernel
theorem dX5_normed_126 : decode cX5_normed 126 = .ok (.dstore 13, 2) := by decide +kernel
theorem dX5_normed_128 : decode cX5_normed 128 = .ok (.aload_n 0, 1) := by decide +kernel
theorem dX5_normed_129 : decode cX5_normed 129 = .ok (.getfield 18, 3) := by decide +kernel
theorem dX5_normed_132 : decode cX5_normed 132 = .ok (.dload 13, 2) := by decide +kernel
theorem dX5_normed_134 : decode cX5_normed 134 = .ok (.aload_n 0, 1) := by decide +kernel
theorem dX5_normed_135 : decode cX5_normed 135 = .ok (.getfield 18, 3) := by decide +kernel
theorem dX5_normed_138 : decode cX5_normed 138 = .ok (.dload_n 3, 1) := by decide +kernel
theorem dX5_normed_139 : decode cX5_normed 139 = .ok (.aload_n 0, 1) := by decide +kernel
theorem dX5_normed_140 : decode cX5_normed 140 = .ok (.getfield 18, 3) := by decide +kernel
theorem dX5_normed_143 : decode cX5_normed 143 = .ok (.dload 5, 2) := by decide +kernel
theorem dX5_normed_145 : decode cX5_normed 145 = .ok (.dload 11, 2) := by decide +kernel
theorem dX5_normed_147 : decode cX5_normed 147 = .ok (.invokevirtual 139, 3) := by decide +kernel
theorem dX5_normed_150 : decode cX5_normed 150 = .ok (.invokevirtual 165, 3) := by decide +kernel
theorem dX5_normed_153 : decode cX5_normed 153 = .ok (.invokevirtual 168, 3) := by decide +kernel
theorem dX5_normed_156 : decode cX5_normed 156 = .ok (.dreturn, 1) := by decide +kernel
theorem dX5_sum_0 : decode cX5_sum 0 = .ok (.dconst 0, 1) := by decide +kernel
theorem dX5_sum_1 : decode cX5_sum 1 = .ok (.dstore_n 3, 1) := by decide +kernel
theorem dX5_sum_2 : decode cX5_sum 2 = .ok (.iconst 0, 1) := by decide +kernel
theorem dX5_sum_3 : decode cX5_sum 3 = .ok (.istore 5, 2) := by decide +kernel
theorem dX5_sum_5 : decode cX5_sum 5 = .ok (.iload 5, 2) := by decide +kernel
theorem dX5_sum_7 : decode cX5_sum 7 = .ok (.iload_n 2, 1) := by decide +kernel
theorem dX5_sum_8 : decode cX5_sum 8 = .ok (.if_icmp .ge 27, 3) := by decide +kernel
theorem dX5_sum_11 : decode cX5_sum 11 = .ok (.aload_n 0, 1) := by decide +kernel
theorem dX5_sum_12 : decode cX5_sum 12 = .ok (.getfield 18, 3) := by decide +kernel
theorem dX5_sum_15 : decode cX5_sum 15 = .ok (.dload_n 3, 1) := by decide +kernel
theorem dX5_sum_16 : decode cX5_sum 16 = .ok (.aload_n 0, 1) := by decide +kernel
theorem dX5_sum_17 : decode cX5_sum 17 = .ok (.getfield 22, 3) := by decide +kernel
theorem dX5_sum_20 : decode cX5_sum 20 = .ok (.iload_n 1, 1) := by decide +kernel
theorem dX5_sum_21 : decode cX5_sum 21 = .ok (.iload 5, 2) := by decide +kernel
theorem dX5_sum_23 : decode cX5_sum 23 = .ok (.iadd, 1) := by decide +kernel
theorem dX5_sum_24 : decode cX5_sum 24 = .ok (.daload, 1) := by decide +kernel
theorem dX5_sum_25 : decode cX5_sum 25 = .ok (.invokevirtual 165, 3) := by decide +kernel
theorem dX5_sum_28 : decode cX5_sum 28 = .ok (.dstore_n 3, 1) := by decide +kernel
theorem dX5_sum_29 : decode cX5_sum 29 = .ok (.iinc 5 1, 3) := by decide +kernel
theorem dX5_sum_32 : decode cX5_sum 32 = .ok (.goto (-27), 3) := by decide +kernel
theorem dX5_sum_35 : decode cX5_sum 35 = .ok (.dload_n 3, 1) := by decide +kernel
theorem dX5_sum_36 : decode cX5_sum 36 = .ok (.dreturn, 1) := by decide +kernel
theorem dX5_product_0 : decode cX5_product 0 = .ok (.dconst 1, 1) := by decide +kernel
theorem dX5_product_1 : decode cX5_product 1 = .ok (.dstore_n 3, 1) := by decide +kernel
theorem dX5_product_2 : decode cX5_product 2 = .ok (.iconst 0, 1) := by decide +kernel
theorem dX5_product_3 : decode cX5_product 3 = .ok (.istore 5, 2) := by decide +kernel
theorem dX5_product_5 : decode cX5_product 5 = .ok (.iload 5, 2) := by decide +kernel
theorem dX5_product_7 : decode cX5_product 7 = .ok (.iload_n 2, 1) := by decide +kernel
theorem dX5_product_8 : decode cX5_product 8 = .ok (.if_icmp .ge 27, 3) := by decide +kernel
theorem dX5_product_11 : decode cX5_product 11 = .ok (.aload_n 0, 1) := by decide +kernel
theorem dX5_product_12 : decode cX5_product 12 = .ok (.getfield 18, 3) := by decide +kernel
theorem dX5_product_15 : decode cX5_product 15 = .ok (.dload_n 3, 1) := by decide +kernel
theorem dX5_product_16 : decode cX5_product 16 = .ok (.aload_n 0, 1) := by decide +kernel
theorem dX5_product_17 : decode cX5_product 17 = .ok (.getfield 22, 3) := by decide +kernel
theorem dX5_product_20 : decode cX5_product 20 = .ok (.iload_n 1, 1) := by decide +kernel
theorem dX5_product_21 : decode cX5_product 21 = .ok (.iload 5, 2) := by decide +kernel
theorem dX5_product_23 : decode cX5_product 23 = .ok (.iadd, 1) := by decide +kernel
theorem dX5_product_24 : decode cX5_product 24 = .ok (.daload, 1) := by decide +kernel
theorem dX5_product_25 : decode cX5_product 25 = .ok (.invokevirtual 139, 3) := by decide +kernel
