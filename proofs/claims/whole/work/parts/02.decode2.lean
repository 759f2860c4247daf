theorem dX8_tell_41 : decode cX8_tell 41 = .ok (.iconst (-1), 1) := by decide +kernel
theorem dX8_tell_42 : decode cX8_tell 42 = .ok (.ireturn, 1) := by decide +kernel
theorem dX8_tell_43 : decode cX8_tell 43 = .ok (.aload_n 0, 1) := by decide +kernel
theorem dX8_tell_44 : decode cX8_tell 44 = .ok (.getfield 7, 3) := by decide +kernel
theorem dX8_tell_47 : decode cX8_tell 47 = .ok (.iconst 4, 1) := by decide +kernel
theorem dX8_tell_48 : decode cX8_tell 48 = .ok (.iload_n 1, 1) := by decide +kernel
theorem dX8_tell_49 : decode cX8_tell 49 = .ok (.imul, 1) := by decide +kernel
theorem dX8_tell_50 : decode cX8_tell 50 = .ok (.iload_n 2, 1) := by decide +kernel
theorem dX8_tell_51 : decode cX8_tell 51 = .ok (.iadd, 1) := by decide +kernel
theorem dX8_tell_52 : decode cX8_tell 52 = .ok (.iload_n 3, 1) := by decide +kernel
theorem dX8_tell_53 : decode cX8_tell 53 = .ok (.iastore, 1) := by decide +kernel
theorem dX8_tell_54 : decode cX8_tell 54 = .ok (.aload_n 0, 1) := by decide +kernel
theorem dX8_tell_55 : decode cX8_tell 55 = .ok (.getfield 13, 3) := by decide +kernel
theorem dX8_tell_58 : decode cX8_tell 58 = .ok (.iconst 4, 1) := by decide +kernel
theorem dX8_tell_59 : decode cX8_tell 59 = .ok (.iload_n 1, 1) := by decide +kernel
theorem dX8_tell_60 : decode cX8_tell 60 = .ok (.imul, 1) := by decide +kernel
theorem dX8_tell_61 : decode cX8_tell 61 = .ok (.iload_n 2, 1) := by decide +kernel
theorem dX8_tell_62 : decode cX8_tell 62 = .ok (.iadd, 1) := by decide +kernel
theorem dX8_tell_63 : decode cX8_tell 63 = .ok (.iload 4, 2) := by decide +kernel
theorem dX8_tell_65 : decode cX8_tell 65 = .ok (.iastore, 1) := by decide +kernel
theorem dX8_tell_66 : decode cX8_tell 66 = .ok (.iconst 0, 1) := by decide +kernel
theorem dX8_tell_67 : decode cX8_tell 67 = .ok (.ireturn, 1) := by decide +kernel
theorem dX8_column_0 : decode cX8_column 0 = .ok (.iload_n 1, 1) := by decide +kernel
theorem dX8_column_1 : decode cX8_column 1 = .ok (.iconst 0, 1) := by decide +kernel
theorem dX8_column_2 : decode cX8_column 2 = .ok (.bipush 39, 2) := by decide +kernel
theorem dX8_column_4 : decode cX8_column 4 = .ok (.invokestatic 89, 3) := by decide +kernel
theorem dX8_column_7 : decode cX8_column 7 = .ok (.ifCond .eq 12, 3) := by decide +kernel
theorem dX8_column_10 : decode cX8_column 10 = .ok (.iload_n 2, 1) := by decide +kernel
theorem dX8_column_11 : decode cX8_column 11 = .ok (.iconst 0, 1) := by decide +kernel
theorem dX8_column_12 : decode cX8_column 12 = .ok (.iconst 3, 1) := by decide +kernel
theorem dX8_column_13 : decode cX8_column 13 = .ok (.invokestatic 89, 3) := by decide +kernel
theorem dX8_column_16 : decode cX8_column 16 = .ok (.ifCond .ne 5, 3) := by decide +kernel
theorem dX8_column_19 : decode cX8_column 19 = .ok (.iconst (-1), 1) := by decide +kernel
theorem dX8_column_20 : decode cX8_column 20 = .ok (.ireturn, 1) := by decide +kernel
theorem dX8_column_21 : decode cX8_column 21 = .ok (.aload_n 0, 1) := by decide +kernel
theorem dX8_column_22 : decode cX8_column 22 = .ok (.getfield 16, 3) := by decide +kernel
theorem dX8_column_25 : decode cX8_column 25 = .ok (.iconst 4, 1) := by decide +kernel
theorem dX8_column_26 : decode cX8_column 26 = .ok (.iload_n 1, 1) := by decide +kernel
theorem dX8_column_27 : decode cX8_column 27 = .ok (.imul, 1) := by decide +kernel
theorem dX8_column_28 : decode cX8_column 28 = .ok (.iload_n 2, 1) := by decide +kernel
theorem dX8_column_29 : decode cX8_column 29 = .ok (.iadd, 1) := by decide +kernel
theorem dX8_column_30 : decode cX8_column 30 = .ok (.lload_n 3, 1) := by decide +kernel
theorem dX8_column_31 : decode cX8_column 31 = .ok (.invokestatic 94, 3) := by decide +kernel
theorem dX8_column_34 : decode cX8_column 34 = .ok (.dastore, 1) := by decide +kernel
theorem dX8_column_35 : decode cX8_column 35 = .ok (.iconst 0, 1) := by decide +kernel
theorem dX8_column_36 : decode cX8_column 36 = .ok (.ireturn, 1) := by decide +kernel
theorem dX8_given_0 : decode cX8_given 0 = .ok (.lload_n 2, 1) := by decide +kernel
theorem dX8_given_1 : decode cX8_given 1 = .ok (.invokestatic 94, 3) := by decide +kernel
theorem dX8_given_4 : decode cX8_given 4 = .ok (.dstore 4, 2) := by decide +kernel
theorem dX8_given_6 : decode cX8_given 6 = .ok (.iload_n 1, 1) := by decide +kernel
theorem dX8_given_7 : decode cX8_given 7 = .ok (.iconst 0, 1) := by decide +kernel
theorem dX8_given_8 : decode cX8_given 8 = .ok (.iconst 3, 1) := by decide +kernel
theorem dX8_given_9 : decode cX8_given 9 = .ok (.invokestatic 89, 3) := by decide +kernel
theorem dX8_given_12 : decode cX8_given 12 = .ok (.ifCond .eq 10, 3) := by decide +kernel
theorem dX8_given_15 : decode cX8_given 15 = .ok (.dload 4, 2) := by decide +kernel
theorem dX8_given_17 : decode cX8_given 17 = .ok (.dconst 0, 1) := by decide +kernel
theorem dX8_given_18 : decode cX8_given 18 = .ok (.dcmp .g, 1) := by decide +kernel
theorem dX8_given_19 : decode cX8_given 19 = .ok (.ifCond .gt 5, 3) := by decide +kernel
theorem dX8_given_22 : decode cX8_given 22 = .ok (.iconst (-1), 1) := by decide +kernel
theorem dX8_given_23 : decode cX8_given 23 = .ok (.ireturn, 1) := by decide +kernel
theorem dX8_given_24 : decode cX8_given 24 = .ok (.aload_n 0, 1) := by decide +kernel
theorem dX8_given_25 : decode cX8_given 25 = .ok (.getfield 23, 3) := by decide +kernel
theorem dX8_given_28 : decode cX8_given 28 = .ok (.iload_n 1, 1) := by decide +kernel
theorem dX8_given_29 : decode cX8_given 29 = .ok (.dload 4, 2) := by decide +kernel
theorem dX8_given_31 : decode cX8_given 31 = .ok (.dload 4, 2) := by decide +kernel
theorem dX8_given_33 : decode cX8_given 33 = .ok (.dcmp .l, 1) := by decide +kernel
theorem dX8_given_34 : decode cX8_given 34 = .ok (.ifCond .ne 7, 3) := by decide +kernel
theorem dX8_given_37 : decode cX8_given 37 = .ok (.iconst 1, 1) := by decide +kernel
theorem dX8_given_38 : decode cX8_given 38 = .ok (.goto 4, 3) := by decide +kernel
theorem dX8_given_41 : decode cX8_given 41 = .ok (.iconst 0, 1) := by decide +kernel
theorem dX8_given_42 : decode cX8_given 42 = .ok (.bastore, 1) := by decide +kernel
theorem dX8_given_43 : decode cX8_given 43 = .ok (.aload_n 0, 1) := by decide +kernel
theorem dX8_given_44 : decode cX8_given 44 = .ok (.getfield 20, 3) := by decide +kernel
theorem dX8_given_47 : decode cX8_given 47 = .ok (.iload_n 1, 1) := by decide +kernel
theorem dX8_given_48 : decode cX8_given 48 = .ok (.dload 4, 2) := by decide +kernel
theorem dX8_given_50 : decode cX8_given 50 = .ok (.dastore, 1) := by decide +kernel
theorem dX8_given_51 : decode cX8_given 51 = .ok (.iconst 0, 1) := by decide +kernel
theorem dX8_given_52 : decode cX8_given 52 = .ok (.ireturn, 1) := by decide +kernel
theorem dX8_valueOf_0 : decode cX8_valueOf 0 = .ok (.iload_n 0, 1) := by decide +kernel
theorem dX8_valueOf_1 : decode cX8_valueOf 1 = .ok (.bipush 32, 2) := by decide +kernel
theorem dX8_valueOf_3 : decode cX8_valueOf 3 = .ok (.if_icmp .ge 7, 3) := by decide +kernel
theorem dX8_valueOf_6 : decode cX8_valueOf 6 = .ok (.iload_n 0, 1) := by decide +kernel
theorem dX8_valueOf_7 : decode cX8_valueOf 7 = .ok (.goto 17, 3) := by decide +kernel
theorem dX8_valueOf_10 : decode cX8_valueOf 10 = .ok (.bipush 32, 2) := by decide +kernel
theorem dX8_valueOf_12 : decode cX8_valueOf 12 = .ok (.iload_n 0, 1) := by decide +kernel
theorem dX8_valueOf_13 : decode cX8_valueOf 13 = .ok (.bipush 32, 2) := by decide +kernel
theorem dX8_valueOf_15 : decode cX8_valueOf 15 = .ok (.irem, 1) := by decide +kernel
theorem dX8_valueOf_16 : decode cX8_valueOf 16 = .ok (.iadd, 1) := by decide +kernel
theorem dX8_valueOf_17 : decode cX8_valueOf 17 = .ok (.iload_n 0, 1) := by decide +kernel
theorem dX8_valueOf_18 : decode cX8_valueOf 18 = .ok (.bipush 32, 2) := by decide +kernel
theorem dX8_valueOf_20 : decode cX8_valueOf 20 = .ok (.idiv, 1) := by decide +kernel
theorem dX8_valueOf_21 : decode cX8_valueOf 21 = .ok (.iconst 1, 1) := by decide +kernel
theorem dX8_valueOf_22 : decode cX8_valueOf 22 = .ok (.isub, 1) := by decide +kernel
theorem dX8_valueOf_23 : decode cX8_valueOf 23 = .ok (.ishl, 1) := by decide +kernel
theorem dX8_valueOf_24 : decode cX8_valueOf 24 = .ok (.ireturn, 1) := by decide +kernel
theorem dX8_byteOf_0 : decode cX8_byteOf 0 = .ok (.sipush 255, 3) := by decide +kernel
theorem dX8_byteOf_3 : decode cX8_byteOf 3 = .ok (.istore_n 1, 1) := by decide +kernel
theorem dX8_byteOf_4 : decode cX8_byteOf 4 = .ok (.iload_n 1, 1) := by decide +kernel
theorem dX8_byteOf_5 : decode cX8_byteOf 5 = .ok (.invokestatic 98, 3) := by decide +kernel
theorem dX8_byteOf_8 : decode cX8_byteOf 8 = .ok (.iload_n 0, 1) := by decide +kernel
theorem dX8_byteOf_9 : decode cX8_byteOf 9 = .ok (.if_icmp .le 9, 3) := by decide +kernel
theorem dX8_byteOf_12 : decode cX8_byteOf 12 = .ok (.iinc 1 (-1), 3) := by decide +kernel
theorem dX8_byteOf_15 : decode cX8_byteOf 15 = .ok (.goto (-11), 3) := by decide +kernel
theorem dX8_byteOf_18 : decode cX8_byteOf 18 = .ok (.iload_n 1, 1) := by decide +kernel
theorem dX8_byteOf_19 : decode cX8_byteOf 19 = .ok (.ireturn, 1) := by decide +kernel
theorem dX8_packed_0 : decode cX8_packed 0 = .ok (.iload_n 1, 1) := by decide +kernel
theorem dX8_packed_1 : decode cX8_packed 1 = .ok (.iconst 0, 1) := by decide +kernel
theorem dX8_packed_2 : decode cX8_packed 2 = .ok (.ldc 93, 2) := by decide +kernel
theorem dX8_packed_4 : decode cX8_packed 4 = .ok (.invokestatic 89, 3) := by decide +kernel
theorem dX8_packed_7 : decode cX8_packed 7 = .ok (.ifCond .eq 12, 3) := by decide +kernel
theorem dX8_packed_10 : decode cX8_packed 10 = .ok (.iload_n 2, 1) := by decide +kernel
theorem dX8_packed_11 : decode cX8_packed 11 = .ok (.iconst 0, 1) := by decide +kernel
theorem dX8_packed_12 : decode cX8_packed 12 = .ok (.iconst 1, 1) := by decide +kernel
theorem dX8_packed_13 : decode cX8_packed 13 = .ok (.invokestatic 89, 3) := by decide +kernel
theorem dX8_packed_16 : decode cX8_packed 16 = .ok (.ifCond .ne 5, 3) := by decide +kernel
theorem dX8_packed_19 : decode cX8_packed 19 = .ok (.iconst (-1), 1) := by decide +kernel
theorem dX8_packed_20 : decode cX8_packed 20 = .ok (.ireturn, 1) := by decide +kernel
theorem dX8_packed_21 : decode cX8_packed 21 = .ok (.iload_n 2, 1) := by decide +kernel
theorem dX8_packed_22 : decode cX8_packed 22 = .ok (.ifCond .ne 10, 3) := by decide +kernel
theorem dX8_packed_25 : decode cX8_packed 25 = .ok (.iload_n 1, 1) := by decide +kernel
theorem dX8_packed_26 : decode cX8_packed 26 = .ok (.invokestatic 102, 3) := by decide +kernel
theorem dX8_packed_29 : decode cX8_packed 29 = .ok (.goto 10, 3) := by decide +kernel
theorem dX8_packed_32 : decode cX8_packed 32 = .ok (.iload_n 1, 1) := by decide +kernel
theorem dX8_packed_33 : decode cX8_packed 33 = .ok (.invokestatic 102, 3) := by decide +kernel
theorem dX8_packed_36 : decode cX8_packed 36 = .ok (.invokestatic 98, 3) := by decide +kernel
theorem dX8_packed_39 : decode cX8_packed 39 = .ok (.ireturn, 1) := by decide +kernel
theorem dX8_averageOf_0 : decode cX8_averageOf 0 = .ok (.aload_n 0, 1) := by decide +kernel
theorem dX8_averageOf_1 : decode cX8_averageOf 1 = .ok (.getfield 23, 3) := by decide +kernel
theorem dX8_averageOf_4 : decode cX8_averageOf 4 = .ok (.iload_n 1, 1) := by decide +kernel
theorem dX8_averageOf_5 : decode cX8_averageOf 5 = .ok (.baload, 1) := by decide +kernel
theorem dX8_averageOf_6 : decode cX8_averageOf 6 = .ok (.ifCond .eq 10, 3) := by decide +kernel
theorem dX8_averageOf_9 : decode cX8_averageOf 9 = .ok (.aload_n 0, 1) := by decide +kernel
theorem dX8_averageOf_10 : decode cX8_averageOf 10 = .ok (.getfield 20, 3) := by decide +kernel
theorem dX8_averageOf_13 : decode cX8_averageOf 13 = .ok (.iload_n 1, 1) := by decide +kernel
theorem dX8_averageOf_14 : decode cX8_averageOf 14 = .ok (.daload, 1) := by decide +kernel
theorem dX8_averageOf_15 : decode cX8_averageOf 15 = .ok (.dreturn, 1) := by decide +kernel
theorem dX8_averageOf_16 : decode cX8_averageOf 16 = .ok (.lconst 0, 1) := by decide +kernel
theorem dX8_averageOf_17 : decode cX8_averageOf 17 = .ok (.lstore_n 2, 1) := by decide +kernel
theorem dX8_averageOf_18 : decode cX8_averageOf 18 = .ok (.iconst 0, 1) := by decide +kernel
theorem dX8_averageOf_19 : decode cX8_averageOf 19 = .ok (.istore 4, 2) := by decide +kernel
theorem dX8_averageOf_21 : decode cX8_averageOf 21 = .ok (.iconst 0, 1) := by decide +kernel
theorem dX8_averageOf_22 : decode cX8_averageOf 22 = .ok (.istore 5, 2) := by decide +kernel
theorem dX8_averageOf_24 : decode cX8_averageOf 24 = .ok (.iload 5, 2) := by decide +kernel
theorem dX8_averageOf_26 : decode cX8_averageOf 26 = .ok (.bipush 40, 2) := by decide +kernel
theorem dX8_averageOf_28 : decode cX8_averageOf 28 = .ok (.if_icmp .ge 54, 3) := by decide +kernel
theorem dX8_averageOf_31 : decode cX8_averageOf 31 = .ok (.lload_n 2, 1) := by decide +kernel
theorem dX8_averageOf_32 : decode cX8_averageOf 32 = .ok (.aload_n 0, 1) := by decide +kernel
theorem dX8_averageOf_33 : decode cX8_averageOf 33 = .ok (.getfield 13, 3) := by decide +kernel
theorem dX8_averageOf_36 : decode cX8_averageOf 36 = .ok (.iconst 4, 1) := by decide +kernel
theorem dX8_averageOf_37 : decode cX8_averageOf 37 = .ok (.iload 5, 2) := by decide +kernel
theorem dX8_averageOf_39 : decode cX8_averageOf 39 = .ok (.imul, 1) := by decide +kernel
theorem dX8_averageOf_40 : decode cX8_averageOf 40 = .ok (.iload_n 1, 1) := by decide +kernel
theorem dX8_averageOf_41 : decode cX8_averageOf 41 = .ok (.iadd, 1) := by decide +kernel
theorem dX8_averageOf_42 : decode cX8_averageOf 42 = .ok (.iaload, 1) := by decide +kernel
theorem dX8_averageOf_43 : decode cX8_averageOf 43 = .ok (.invokestatic 102, 3) := by decide +kernel
theorem dX8_averageOf_46 : decode cX8_averageOf 46 = .ok (.invokestatic 98, 3) := by decide +kernel
theorem dX8_averageOf_49 : decode cX8_averageOf 49 = .ok (.i2l, 1) := by decide +kernel
theorem dX8_averageOf_50 : decode cX8_averageOf 50 = .ok (.ladd, 1) := by decide +kernel
theorem dX8_averageOf_51 : decode cX8_averageOf 51 = .ok (.lstore_n 2, 1) := by decide +kernel
theorem dX8_averageOf_52 : decode cX8_averageOf 52 = .ok (.iload 4, 2) := by decide +kernel
theorem dX8_averageOf_54 : decode cX8_averageOf 54 = .ok (.aload_n 0, 1) := by decide +kernel
theorem dX8_averageOf_55 : decode cX8_averageOf 55 = .ok (.getfield 13, 3) := by decide +kernel
theorem dX8_averageOf_58 : decode cX8_averageOf 58 = .ok (.iconst 4, 1) := by decide +kernel
theorem dX8_averageOf_59 : decode cX8_averageOf 59 = .ok (.iload 5, 2) := by decide +kernel
theorem dX8_averageOf_61 : decode cX8_averageOf 61 = .ok (.imul, 1) := by decide +kernel
theorem dX8_averageOf_62 : decode cX8_averageOf 62 = .ok (.iload_n 1, 1) := by decide +kernel
theorem dX8_averageOf_63 : decode cX8_averageOf 63 = .ok (.iadd, 1) := by decide +kernel
theorem dX8_averageOf_64 : decode cX8_averageOf 64 = .ok (.iaload, 1) := by decide +kernel
theorem dX8_averageOf_65 : decode cX8_averageOf 65 = .ok (.ifCond .eq 7, 3) := by decide +kernel
theorem dX8_averageOf_68 : decode cX8_averageOf 68 = .ok (.iconst 1, 1) := by decide +kernel
theorem dX8_averageOf_69 : decode cX8_averageOf 69 = .ok (.goto 4, 3) := by decide +kernel
theorem dX8_averageOf_72 : decode cX8_averageOf 72 = .ok (.iconst 0, 1) := by decide +kernel
theorem dX8_averageOf_73 : decode cX8_averageOf 73 = .ok (.iadd, 1) := by decide +kernel
theorem dX8_averageOf_74 : decode cX8_averageOf 74 = .ok (.istore 4, 2) := by decide +kernel
theorem dX8_averageOf_76 : decode cX8_averageOf 76 = .ok (.iinc 5 1, 3) := by decide +kernel
theorem dX8_averageOf_79 : decode cX8_averageOf 79 = .ok (.goto (-55), 3) := by decide +kernel
theorem dX8_averageOf_82 : decode cX8_averageOf 82 = .ok (.lload_n 2, 1) := by decide +kernel
theorem dX8_averageOf_83 : decode cX8_averageOf 83 = .ok (.l2d, 1) := by decide +kernel
theorem dX8_averageOf_84 : decode cX8_averageOf 84 = .ok (.iload 4, 2) := by decide +kernel
theorem dX8_averageOf_86 : decode cX8_averageOf 86 = .ok (.i2d, 1) := by decide +kernel
theorem dX8_averageOf_87 : decode cX8_averageOf 87 = .ok (.invokestatic 105, 3) := by decide +kernel
theorem dX8_averageOf_90 : decode cX8_averageOf 90 = .ok (.dreturn, 1) := by decide +kernel
theorem dX8_average_0 : decode cX8_average 0 = .ok (.iload_n 1, 1) := by decide +kernel
theorem dX8_average_1 : decode cX8_average 1 = .ok (.iconst 0, 1) := by decide +kernel
theorem dX8_average_2 : decode cX8_average 2 = .ok (.iconst 3, 1) := by decide +kernel
theorem dX8_average_3 : decode cX8_average 3 = .ok (.invokestatic 89, 3) := by decide +kernel
theorem dX8_average_6 : decode cX8_average 6 = .ok (.ifCond .eq 14, 3) := by decide +kernel
theorem dX8_average_9 : decode cX8_average 9 = .ok (.aload_n 0, 1) := by decide +kernel
theorem dX8_average_10 : decode cX8_average 10 = .ok (.iload_n 1, 1) := by decide +kernel
theorem dX8_average_11 : decode cX8_average 11 = .ok (.invokevirtual 109, 3) := by decide +kernel
theorem dX8_average_14 : decode cX8_average 14 = .ok (.invokestatic 113, 3) := by decide +kernel
theorem dX8_average_17 : decode cX8_average 17 = .ok (.goto 4, 3) := by decide +kernel
theorem dX8_average_20 : decode cX8_average 20 = .ok (.lconst 0, 1) := by decide +kernel
theorem dX8_average_21 : decode cX8_average 21 = .ok (.lreturn, 1) := by decide +kernel
theorem dX8_isFormula_0 : decode cX8_isFormula 0 = .ok (.iload_n 1, 1) := by decide +kernel
theorem dX8_isFormula_1 : decode cX8_isFormula 1 = .ok (.iconst 0, 1) := by decide +kernel
theorem dX8_isFormula_2 : decode cX8_isFormula 2 = .ok (.aload_n 0, 1) := by decide +kernel
theorem dX8_isFormula_3 : decode cX8_isFormula 3 = .ok (.getfield 119, 3) := by decide +kernel
theorem dX8_isFormula_6 : decode cX8_isFormula 6 = .ok (.iconst 1, 1) := by decide +kernel
theorem dX8_isFormula_7 : decode cX8_isFormula 7 = .ok (.isub, 1) := by decide +kernel
theorem dX8_isFormula_8 : decode cX8_isFormula 8 = .ok (.invokestatic 89, 3) := by decide +kernel
theorem dX8_isFormula_11 : decode cX8_isFormula 11 = .ok (.ireturn, 1) := by decide +kernel
theorem dX8_isRight_0 : decode cX8_isRight 0 = .ok (.iload_n 0, 1) := by decide +kernel
theorem dX8_isRight_1 : decode cX8_isRight 1 = .ok (.iconst 3, 1) := by decide +kernel
theorem dX8_isRight_2 : decode cX8_isRight 2 = .ok (.if_icmp .eq 9, 3) := by decide +kernel
theorem dX8_isRight_5 : decode cX8_isRight 5 = .ok (.iload_n 0, 1) := by decide +kernel
theorem dX8_isRight_6 : decode cX8_isRight 6 = .ok (.bipush 9, 2) := by decide +kernel
theorem dX8_isRight_8 : decode cX8_isRight 8 = .ok (.if_icmp .ne 15, 3) := by decide +kernel
theorem dX8_isRight_11 : decode cX8_isRight 11 = .ok (.dload_n 1, 1) := by decide +kernel
theorem dX8_isRight_12 : decode cX8_isRight 12 = .ok (.dconst 0, 1) := by decide +kernel
theorem dX8_isRight_13 : decode cX8_isRight 13 = .ok (.dcmp .l, 1) := by decide +kernel
theorem dX8_isRight_14 : decode cX8_isRight 14 = .ok (.ifCond .lt 7, 3) := by decide +kernel
theorem dX8_isRight_17 : decode cX8_isRight 17 = .ok (.iconst 1, 1) := by decide +kernel
theorem dX8_isRight_18 : decode cX8_isRight 18 = .ok (.goto 4, 3) := by decide +kernel
theorem dX8_isRight_21 : decode cX8_isRight 21 = .ok (.iconst 0, 1) := by decide +kernel
theorem dX8_isRight_22 : decode cX8_isRight 22 = .ok (.ireturn, 1) := by decide +kernel
theorem dX8_isRight_23 : decode cX8_isRight 23 = .ok (.iload_n 0, 1) := by decide +kernel
theorem dX8_isRight_24 : decode cX8_isRight 24 = .ok (.iconst 4, 1) := by decide +kernel
theorem dX8_isRight_25 : decode cX8_isRight 25 = .ok (.if_icmp .ne 27, 3) := by decide +kernel
theorem dX8_isRight_28 : decode cX8_isRight 28 = .ok (.dload_n 1, 1) := by decide +kernel
theorem dX8_isRight_29 : decode cX8_isRight 29 = .ok (.dconst 0, 1) := by decide +kernel
theorem dX8_isRight_30 : decode cX8_isRight 30 = .ok (.dcmp .l, 1) := by decide +kernel
theorem dX8_isRight_31 : decode cX8_isRight 31 = .ok (.ifCond .lt 19, 3) := by decide +kernel
theorem dX8_isRight_34 : decode cX8_isRight 34 = .ok (.dload_n 3, 1) := by decide +kernel
theorem dX8_isRight_35 : decode cX8_isRight 35 = .ok (.dconst 0, 1) := by decide +kernel
theorem dX8_isRight_36 : decode cX8_isRight 36 = .ok (.dcmp .l, 1) := by decide +kernel
theorem dX8_isRight_37 : decode cX8_isRight 37 = .ok (.ifCond .lt 13, 3) := by decide +kernel
theorem dX8_isRight_40 : decode cX8_isRight 40 = .ok (.dload_n 3, 1) := by decide +kernel
theorem dX8_isRight_41 : decode cX8_isRight 41 = .ok (.dconst 1, 1) := by decide +kernel
theorem dX8_isRight_42 : decode cX8_isRight 42 = .ok (.dcmp .g, 1) := by decide +kernel
theorem dX8_isRight_43 : decode cX8_isRight 43 = .ok (.ifCond .gt 7, 3) := by decide +kernel
theorem dX8_isRight_46 : decode cX8_isRight 46 = .ok (.iconst 1, 1) := by decide +kernel
theorem dX8_isRight_47 : decode cX8_isRight 47 = .ok (.goto 4, 3) := by decide +kernel
theorem dX8_isRight_50 : decode cX8_isRight 50 = .ok (.iconst 0, 1) := by decide +kernel
theorem dX8_isRight_51 : decode cX8_isRight 51 = .ok (.ireturn, 1) := by decide +kernel
theorem dX8_isRight_52 : decode cX8_isRight 52 = .ok (.iload_n 0, 1) := by decide +kernel
theorem dX8_isRight_53 : decode cX8_isRight 53 = .ok (.bipush 8, 2) := by decide +kernel
theorem dX8_isRight_55 : decode cX8_isRight 55 = .ok (.if_icmp .ne 21, 3) := by decide +kernel
theorem dX8_isRight_58 : decode cX8_isRight 58 = .ok (.dload_n 1, 1) := by decide +kernel
theorem dX8_isRight_59 : decode cX8_isRight 59 = .ok (.dconst 0, 1) := by decide +kernel
theorem dX8_isRight_60 : decode cX8_isRight 60 = .ok (.dcmp .l, 1) := by decide +kernel
theorem dX8_isRight_61 : decode cX8_isRight 61 = .ok (.ifCond .lt 13, 3) := by decide +kernel
theorem dX8_isRight_64 : decode cX8_isRight 64 = .ok (.dload_n 1, 1) := by decide +kernel
theorem dX8_isRight_65 : decode cX8_isRight 65 = .ok (.dconst 1, 1) := by decide +kernel
theorem dX8_isRight_66 : decode cX8_isRight 66 = .ok (.dcmp .g, 1) := by decide +kernel
theorem dX8_isRight_67 : decode cX8_isRight 67 = .ok (.ifCond .gt 7, 3) := by decide +kernel
theorem dX8_isRight_70 : decode cX8_isRight 70 = .ok (.iconst 1, 1) := by decide +kernel
theorem dX8_isRight_71 : decode cX8_isRight 71 = .ok (.goto 4, 3) := by decide +kernel
theorem dX8_isRight_74 : decode cX8_isRight 74 = .ok (.iconst 0, 1) := by decide +kernel
theorem dX8_isRight_75 : decode cX8_isRight 75 = .ok (.ireturn, 1) := by decide +kernel
theorem dX8_isRight_76 : decode cX8_isRight 76 = .ok (.iload_n 0, 1) := by decide +kernel
theorem dX8_isRight_77 : decode cX8_isRight 77 = .ok (.bipush 10, 2) := by decide +kernel
theorem dX8_isRight_79 : decode cX8_isRight 79 = .ok (.if_icmp .eq 9, 3) := by decide +kernel
theorem dX8_isRight_82 : decode cX8_isRight 82 = .ok (.iload_n 0, 1) := by decide +kernel
theorem dX8_isRight_83 : decode cX8_isRight 83 = .ok (.bipush 11, 2) := by decide +kernel
theorem dX8_isRight_85 : decode cX8_isRight 85 = .ok (.if_icmp .ne 15, 3) := by decide +kernel
theorem dX8_isRight_88 : decode cX8_isRight 88 = .ok (.dload_n 1, 1) := by decide +kernel
theorem dX8_isRight_89 : decode cX8_isRight 89 = .ok (.dload_n 1, 1) := by decide +kernel
theorem dX8_isRight_90 : decode cX8_isRight 90 = .ok (.dcmp .l, 1) := by decide +kernel
theorem dX8_isRight_91 : decode cX8_isRight 91 = .ok (.ifCond .ne 13, 3) := by decide +kernel
theorem dX8_isRight_94 : decode cX8_isRight 94 = .ok (.dload_n 3, 1) := by decide +kernel
theorem dX8_isRight_95 : decode cX8_isRight 95 = .ok (.dconst 0, 1) := by decide +kernel
theorem dX8_isRight_96 : decode cX8_isRight 96 = .ok (.dcmp .l, 1) := by decide +kernel
theorem dX8_isRight_97 : decode cX8_isRight 97 = .ok (.ifCond .le 7, 3) := by decide +kernel
theorem dX8_isRight_100 : decode cX8_isRight 100 = .ok (.iconst 1, 1) := by decide +kernel
theorem dX8_isRight_101 : decode cX8_isRight 101 = .ok (.goto 4, 3) := by decide +kernel
theorem dX8_isRight_104 : decode cX8_isRight 104 = .ok (.iconst 0, 1) := by decide +kernel
theorem dX8_isRight_105 : decode cX8_isRight 105 = .ok (.ireturn, 1) := by decide +kernel
theorem dX8_formula_0 : decode cX8_formula 0 = .ok (.lload 4, 2) := by decide +kernel
theorem dX8_formula_2 : decode cX8_formula 2 = .ok (.invokestatic 94, 3) := by decide +kernel
theorem dX8_formula_5 : decode cX8_formula 5 = .ok (.dstore 8, 2) := by decide +kernel
theorem dX8_formula_7 : decode cX8_formula 7 = .ok (.lload 6, 2) := by decide +kernel
theorem dX8_formula_9 : decode cX8_formula 9 = .ok (.invokestatic 94, 3) := by decide +kernel
theorem dX8_formula_12 : decode cX8_formula 12 = .ok (.dstore 10, 2) := by decide +kernel
theorem dX8_formula_14 : decode cX8_formula 14 = .ok (.iload_n 1, 1) := by decide +kernel
theorem dX8_formula_15 : decode cX8_formula 15 = .ok (.iconst 0, 1) := by decide +kernel
theorem dX8_formula_16 : decode cX8_formula 16 = .ok (.bipush 13, 2) := by decide +kernel
theorem dX8_formula_18 : decode cX8_formula 18 = .ok (.invokestatic 89, 3) := by decide +kernel
theorem dX8_formula_21 : decode cX8_formula 21 = .ok (.ifCond .eq 14, 3) := by decide +kernel
theorem dX8_formula_24 : decode cX8_formula 24 = .ok (.iload_n 1, 1) := by decide +kernel
theorem dX8_formula_25 : decode cX8_formula 25 = .ok (.dload 8, 2) := by decide +kernel
theorem dX8_formula_27 : decode cX8_formula 27 = .ok (.dload 10, 2) := by decide +kernel
theorem dX8_formula_29 : decode cX8_formula 29 = .ok (.invokestatic 123, 3) := by decide +kernel
theorem dX8_formula_32 : decode cX8_formula 32 = .ok (.ifCond .ne 5, 3) := by decide +kernel
theorem dX8_formula_35 : decode cX8_formula 35 = .ok (.iconst (-1), 1) := by decide +kernel
theorem dX8_formula_36 : decode cX8_formula 36 = .ok (.ireturn, 1) := by decide +kernel
theorem dX8_formula_37 : decode cX8_formula 37 = .ok (.iload_n 1, 1) := by decide +kernel
theorem dX8_formula_38 : decode cX8_formula 38 = .ok (.bipush 9, 2) := by decide +kernel
theorem dX8_formula_40 : decode cX8_formula 40 = .ok (.if_icmp .ge 7, 3) := by decide +kernel
theorem dX8_formula_43 : decode cX8_formula 43 = .ok (.iconst 0, 1) := by decide +kernel
theorem dX8_formula_44 : decode cX8_formula 44 = .ok (.goto 14, 3) := by decide +kernel
theorem dX8_formula_47 : decode cX8_formula 47 = .ok (.iload_n 1, 1) := by decide +kernel
theorem dX8_formula_48 : decode cX8_formula 48 = .ok (.bipush 13, 2) := by decide +kernel
theorem dX8_formula_50 : decode cX8_formula 50 = .ok (.if_icmp .ne 7, 3) := by decide +kernel
theorem dX8_formula_53 : decode cX8_formula 53 = .ok (.iconst 2, 1) := by decide +kernel
theorem dX8_formula_54 : decode cX8_formula 54 = .ok (.goto 4, 3) := by decide +kernel
theorem dX8_formula_57 : decode cX8_formula 57 = .ok (.iconst 1, 1) := by decide +kernel
theorem dX8_formula_58 : decode cX8_formula 58 = .ok (.istore 12, 2) := by decide +kernel
theorem dX8_formula_60 : decode cX8_formula 60 = .ok (.iload_n 1, 1) := by decide +kernel
theorem dX8_formula_61 : decode cX8_formula 61 = .ok (.iconst 1, 1) := by decide +kernel
theorem dX8_formula_62 : decode cX8_formula 62 = .ok (.iconst 5, 1) := by decide +kernel
theorem dX8_formula_63 : decode cX8_formula 63 = .ok (.invokestatic 89, 3) := by decide +kernel
theorem dX8_formula_66 : decode cX8_formula 66 = .ok (.ifCond .eq 12, 3) := by decide +kernel
theorem dX8_formula_69 : decode cX8_formula 69 = .ok (.iload_n 2, 1) := by decide +kernel
theorem dX8_formula_70 : decode cX8_formula 70 = .ok (.iconst 0, 1) := by decide +kernel
theorem dX8_formula_71 : decode cX8_formula 71 = .ok (.iconst 3, 1) := by decide +kernel
theorem dX8_formula_72 : decode cX8_formula 72 = .ok (.invokestatic 89, 3) := by decide +kernel
theorem dX8_formula_75 : decode cX8_formula 75 = .ok (.ifCond .eq 30, 3) := by decide +kernel
theorem dX8_formula_78 : decode cX8_formula 78 = .ok (.iload 12, 2) := by decide +kernel
theorem dX8_formula_80 : decode cX8_formula 80 = .ok (.ifCond .le 11, 3) := by decide +kernel
theorem dX8_formula_83 : decode cX8_formula 83 = .ok (.aload_n 0, 1) := by decide +kernel
theorem dX8_formula_84 : decode cX8_formula 84 = .ok (.iload_n 2, 1) := by decide +kernel
theorem dX8_formula_85 : decode cX8_formula 85 = .ok (.invokevirtual 127, 3) := by decide +kernel
theorem dX8_formula_88 : decode cX8_formula 88 = .ok (.ifCond .eq 17, 3) := by decide +kernel
theorem dX8_formula_91 : decode cX8_formula 91 = .ok (.iload 12, 2) := by decide +kernel
theorem dX8_formula_93 : decode cX8_formula 93 = .ok (.iconst 1, 1) := by decide +kernel
theorem dX8_formula_94 : decode cX8_formula 94 = .ok (.if_icmp .le 13, 3) := by decide +kernel
theorem dX8_formula_97 : decode cX8_formula 97 = .ok (.aload_n 0, 1) := by decide +kernel
theorem dX8_formula_98 : decode cX8_formula 98 = .ok (.iload_n 3, 1) := by decide +kernel
theorem dX8_formula_99 : decode cX8_formula 99 = .ok (.invokevirtual 127, 3) := by decide +kernel
theorem dX8_formula_102 : decode cX8_formula 102 = .ok (.ifCond .ne 5, 3) := by decide +kernel
theorem dX8_formula_105 : decode cX8_formula 105 = .ok (.iconst (-1), 1) := by decide +kernel
theorem dX8_formula_106 : decode cX8_formula 106 = .ok (.ireturn, 1) := by decide +kernel
theorem dX8_formula_107 : decode cX8_formula 107 = .ok (.iconst 1, 1) := by decide +kernel
theorem dX8_formula_108 : decode cX8_formula 108 = .ok (.iload 12, 2) := by decide +kernel
theorem dX8_formula_110 : decode cX8_formula 110 = .ok (.ifCond .le 12, 3) := by decide +kernel
theorem dX8_formula_113 : decode cX8_formula 113 = .ok (.aload_n 0, 1) := by decide +kernel
theorem dX8_formula_114 : decode cX8_formula 114 = .ok (.getfield 48, 3) := by decide +kernel
theorem dX8_formula_117 : decode cX8_formula 117 = .ok (.iload_n 2, 1) := by decide +kernel
theorem dX8_formula_118 : decode cX8_formula 118 = .ok (.iaload, 1) := by decide +kernel
theorem dX8_formula_119 : decode cX8_formula 119 = .ok (.goto 4, 3) := by decide +kernel
theorem dX8_formula_122 : decode cX8_formula 122 = .ok (.iconst 0, 1) := by decide +kernel
theorem dX8_formula_123 : decode cX8_formula 123 = .ok (.iadd, 1) := by decide +kernel
theorem dX8_formula_124 : decode cX8_formula 124 = .ok (.iload 12, 2) := by decide +kernel
theorem dX8_formula_126 : decode cX8_formula 126 = .ok (.iconst 1, 1) := by decide +kernel
theorem dX8_formula_127 : decode cX8_formula 127 = .ok (.if_icmp .le 12, 3) := by decide +kernel
theorem dX8_formula_130 : decode cX8_formula 130 = .ok (.aload_n 0, 1) := by decide +kernel
theorem dX8_formula_131 : decode cX8_formula 131 = .ok (.getfield 48, 3) := by decide +kernel
theorem dX8_formula_134 : decode cX8_formula 134 = .ok (.iload_n 3, 1) := by decide +kernel
theorem dX8_formula_135 : decode cX8_formula 135 = .ok (.iaload, 1) := by decide +kernel
theorem dX8_formula_136 : decode cX8_formula 136 = .ok (.goto 4, 3) := by decide +kernel
theorem dX8_formula_139 : decode cX8_formula 139 = .ok (.iconst 0, 1) := by decide +kernel
theorem dX8_formula_140 : decode cX8_formula 140 = .ok (.iadd, 1) := by decide +kernel
theorem dX8_formula_141 : decode cX8_formula 141 = .ok (.istore 13, 2) := by decide +kernel
theorem dX8_formula_143 : decode cX8_formula 143 = .ok (.aload_n 0, 1) := by decide +kernel
theorem dX8_formula_144 : decode cX8_formula 144 = .ok (.getfield 119, 3) := by decide +kernel
theorem dX8_formula_147 : decode cX8_formula 147 = .ok (.bipush 60, 2) := by decide +kernel
theorem dX8_formula_149 : decode cX8_formula 149 = .ok (.if_icmp .eq 11, 3) := by decide +kernel
theorem dX8_formula_152 : decode cX8_formula 152 = .ok (.iload 13, 2) := by decide +kernel
theorem dX8_formula_154 : decode cX8_formula 154 = .ok (.sipush 200, 3) := by decide +kernel
theorem dX8_formula_157 : decode cX8_formula 157 = .ok (.if_icmp .le 6, 3) := by decide +kernel
theorem dX8_formula_160 : decode cX8_formula 160 = .ok (.bipush (-3), 2) := by decide +kernel
theorem dX8_formula_162 : decode cX8_formula 162 = .ok (.ireturn, 1) := by decide +kernel
theorem dX8_formula_163 : decode cX8_formula 163 = .ok (.aload_n 0, 1) := by decide +kernel
theorem dX8_formula_164 : decode cX8_formula 164 = .ok (.getfield 119, 3) := by decide +kernel
theorem dX8_formula_167 : decode cX8_formula 167 = .ok (.istore 14, 2) := by decide +kernel
theorem dX8_formula_169 : decode cX8_formula 169 = .ok (.aload_n 0, 1) := by decide +kernel
theorem dX8_formula_170 : decode cX8_formula 170 = .ok (.dup, 1) := by decide +kernel
theorem dX8_formula_171 : decode cX8_formula 171 = .ok (.getfield 119, 3) := by decide +kernel
theorem dX8_formula_174 : decode cX8_formula 174 = .ok (.iconst 1, 1) := by decide +kernel
theorem dX8_formula_175 : decode cX8_formula 175 = .ok (.iadd, 1) := by decide +kernel
theorem dX8_formula_176 : decode cX8_formula 176 = .ok (.putfield 119, 3) := by decide +kernel
theorem dX8_formula_179 : decode cX8_formula 179 = .ok (.aload_n 0, 1) := by decide +kernel
theorem dX8_formula_180 : decode cX8_formula 180 = .ok (.getfield 27, 3) := by decide +kernel
theorem dX8_formula_183 : decode cX8_formula 183 = .ok (.iload 14, 2) := by decide +kernel
theorem dX8_formula_185 : decode cX8_formula 185 = .ok (.iload_n 1, 1) := by decide +kernel
theorem dX8_formula_186 : decode cX8_formula 186 = .ok (.iastore, 1) := by decide +kernel
theorem dX8_formula_187 : decode cX8_formula 187 = .ok (.aload_n 0, 1) := by decide +kernel
theorem dX8_formula_188 : decode cX8_formula 188 = .ok (.getfield 30, 3) := by decide +kernel
theorem dX8_formula_191 : decode cX8_formula 191 = .ok (.iload 14, 2) := by decide +kernel
theorem dX8_formula_193 : decode cX8_formula 193 = .ok (.iload_n 2, 1) := by decide +kernel
theorem dX8_formula_194 : decode cX8_formula 194 = .ok (.iastore, 1) := by decide +kernel
theorem dX8_formula_195 : decode cX8_formula 195 = .ok (.aload_n 0, 1) := by decide +kernel
theorem dX8_formula_196 : decode cX8_formula 196 = .ok (.getfield 33, 3) := by decide +kernel
theorem dX8_formula_199 : decode cX8_formula 199 = .ok (.iload 14, 2) := by decide +kernel
theorem dX8_formula_201 : decode cX8_formula 201 = .ok (.dload 8, 2) := by decide +kernel
theorem dX8_formula_203 : decode cX8_formula 203 = .ok (.dastore, 1) := by decide +kernel
theorem dX8_formula_204 : decode cX8_formula 204 = .ok (.aload_n 0, 1) := by decide +kernel
theorem dX8_formula_205 : decode cX8_formula 205 = .ok (.getfield 36, 3) := by decide +kernel
theorem dX8_formula_208 : decode cX8_formula 208 = .ok (.iload 14, 2) := by decide +kernel
theorem dX8_formula_210 : decode cX8_formula 210 = .ok (.dload 10, 2) := by decide +kernel
theorem dX8_formula_212 : decode cX8_formula 212 = .ok (.dastore, 1) := by decide +kernel
theorem dX8_formula_213 : decode cX8_formula 213 = .ok (.aload_n 0, 1) := by decide +kernel
theorem dX8_formula_214 : decode cX8_formula 214 = .ok (.getfield 39, 3) := by decide +kernel
theorem dX8_formula_217 : decode cX8_formula 217 = .ok (.iload 14, 2) := by decide +kernel
theorem dX8_formula_219 : decode cX8_formula 219 = .ok (.iload 12, 2) := by decide +kernel
theorem dX8_formula_221 : decode cX8_formula 221 = .ok (.iastore, 1) := by decide +kernel
theorem dX8_formula_222 : decode cX8_formula 222 = .ok (.aload_n 0, 1) := by decide +kernel
theorem dX8_formula_223 : decode cX8_formula 223 = .ok (.getfield 45, 3) := by decide +kernel
theorem dX8_formula_226 : decode cX8_formula 226 = .ok (.iload 14, 2) := by decide +kernel
theorem dX8_formula_228 : decode cX8_formula 228 = .ok (.iconst 0, 1) := by decide +kernel
theorem dX8_formula_229 : decode cX8_formula 229 = .ok (.bastore, 1) := by decide +kernel
theorem dX8_formula_230 : decode cX8_formula 230 = .ok (.iload 12, 2) := by decide +kernel
theorem dX8_formula_232 : decode cX8_formula 232 = .ok (.ifCond .le 21, 3) := by decide +kernel
theorem dX8_formula_235 : decode cX8_formula 235 = .ok (.aload_n 0, 1) := by decide +kernel
theorem dX8_formula_236 : decode cX8_formula 236 = .ok (.getfield 42, 3) := by decide +kernel
theorem dX8_formula_239 : decode cX8_formula 239 = .ok (.bipush 8, 2) := by decide +kernel
theorem dX8_formula_241 : decode cX8_formula 241 = .ok (.iload 14, 2) := by decide +kernel
theorem dX8_formula_243 : decode cX8_formula 243 = .ok (.imul, 1) := by decide +kernel
theorem dX8_formula_244 : decode cX8_formula 244 = .ok (.iload_n 2, 1) := by decide +kernel
theorem dX8_formula_245 : decode cX8_formula 245 = .ok (.iastore, 1) := by decide +kernel
theorem dX8_formula_246 : decode cX8_formula 246 = .ok (.aload_n 0, 1) := by decide +kernel
theorem dX8_formula_247 : decode cX8_formula 247 = .ok (.getfield 45, 3) := by decide +kernel
theorem dX8_formula_250 : decode cX8_formula 250 = .ok (.iload_n 2, 1) := by decide +kernel
theorem dX8_formula_251 : decode cX8_formula 251 = .ok (.iconst 1, 1) := by decide +kernel
theorem dX8_formula_252 : decode cX8_formula 252 = .ok (.bastore, 1) := by decide +kernel
theorem dX8_formula_253 : decode cX8_formula 253 = .ok (.iload 12, 2) := by decide +kernel
theorem dX8_formula_255 : decode cX8_formula 255 = .ok (.iconst 1, 1) := by decide +kernel
theorem dX8_formula_256 : decode cX8_formula 256 = .ok (.if_icmp .le 23, 3) := by decide +kernel
theorem dX8_formula_259 : decode cX8_formula 259 = .ok (.aload_n 0, 1) := by decide +kernel
theorem dX8_formula_260 : decode cX8_formula 260 = .ok (.getfield 42, 3) := by decide +kernel
theorem dX8_formula_263 : decode cX8_formula 263 = .ok (.bipush 8, 2) := by decide +kernel
theorem dX8_formula_265 : decode cX8_formula 265 = .ok (.iload 14, 2) := by decide +kernel
theorem dX8_formula_267 : decode cX8_formula 267 = .ok (.imul, 1) := by decide +kernel
theorem dX8_formula_268 : decode cX8_formula 268 = .ok (.iconst 1, 1) := by decide +kernel
theorem dX8_formula_269 : decode cX8_formula 269 = .ok (.iadd, 1) := by decide +kernel
theorem dX8_formula_270 : decode cX8_formula 270 = .ok (.iload_n 3, 1) := by decide +kernel
theorem dX8_formula_271 : decode cX8_formula 271 = .ok (.iastore, 1) := by decide +kernel
theorem dX8_formula_272 : decode cX8_formula 272 = .ok (.aload_n 0, 1) := by decide +kernel
theorem dX8_formula_273 : decode cX8_formula 273 = .ok (.getfield 45, 3) := by decide +kernel
theorem dX8_formula_276 : decode cX8_formula 276 = .ok (.iload_n 3, 1) := by decide +kernel
theorem dX8_formula_277 : decode cX8_formula 277 = .ok (.iconst 1, 1) := by decide +kernel
theorem dX8_formula_278 : decode cX8_formula 278 = .ok (.bastore, 1) := by decide +kernel
theorem dX8_formula_279 : decode cX8_formula 279 = .ok (.aload_n 0, 1) := by decide +kernel
theorem dX8_formula_280 : decode cX8_formula 280 = .ok (.iload 14, 2) := by decide +kernel
theorem dX8_formula_282 : decode cX8_formula 282 = .ok (.invokevirtual 131, 3) := by decide +kernel
theorem dX8_formula_285 : decode cX8_formula 285 = .ok (.iload 14, 2) := by decide +kernel
theorem dX8_formula_287 : decode cX8_formula 287 = .ok (.ireturn, 1) := by decide +kernel
theorem dX8_judge_0 : decode cX8_judge 0 = .ok (.aload_n 0, 1) := by decide +kernel
theorem dX8_judge_1 : decode cX8_judge 1 = .ok (.getfield 27, 3) := by decide +kernel
theorem dX8_judge_4 : decode cX8_judge 4 = .ok (.iload_n 1, 1) := by decide +kernel
theorem dX8_judge_5 : decode cX8_judge 5 = .ok (.iaload, 1) := by decide +kernel
theorem dX8_judge_6 : decode cX8_judge 6 = .ok (.istore_n 2, 1) := by decide +kernel
theorem dX8_judge_7 : decode cX8_judge 7 = .ok (.iconst 1, 1) := by decide +kernel
theorem dX8_judge_8 : decode cX8_judge 8 = .ok (.istore_n 3, 1) := by decide +kernel
theorem dX8_judge_9 : decode cX8_judge 9 = .ok (.iload_n 2, 1) := by decide +kernel
theorem dX8_judge_10 : decode cX8_judge 10 = .ok (.iconst 1, 1) := by decide +kernel
theorem dX8_judge_11 : decode cX8_judge 11 = .ok (.iconst 4, 1) := by decide +kernel
theorem dX8_judge_12 : decode cX8_judge 12 = .ok (.invokestatic 89, 3) := by decide +kernel
theorem dX8_judge_15 : decode cX8_judge 15 = .ok (.ifCond .eq 14, 3) := by decide +kernel
theorem dX8_judge_18 : decode cX8_judge 18 = .ok (.iconst 1, 1) := by decide +kernel
theorem dX8_judge_19 : decode cX8_judge 19 = .ok (.aload_n 0, 1) := by decide +kernel
theorem dX8_judge_20 : decode cX8_judge 20 = .ok (.getfield 30, 3) := by decide +kernel
theorem dX8_judge_23 : decode cX8_judge 23 = .ok (.iload_n 1, 1) := by decide +kernel
theorem dX8_judge_24 : decode cX8_judge 24 = .ok (.iaload, 1) := by decide +kernel
theorem dX8_judge_25 : decode cX8_judge 25 = .ok (.ishl, 1) := by decide +kernel
theorem dX8_judge_26 : decode cX8_judge 26 = .ok (.goto 4, 3) := by decide +kernel
theorem dX8_judge_29 : decode cX8_judge 29 = .ok (.iconst 0, 1) := by decide +kernel
theorem dX8_judge_30 : decode cX8_judge 30 = .ok (.istore 4, 2) := by decide +kernel
theorem dX8_judge_32 : decode cX8_judge 32 = .ok (.iconst 1, 1) := by decide +kernel
theorem dX8_judge_33 : decode cX8_judge 33 = .ok (.istore 5, 2) := by decide +kernel
theorem dX8_judge_35 : decode cX8_judge 35 = .ok (.bipush 15, 2) := by decide +kernel
theorem dX8_judge_37 : decode cX8_judge 37 = .ok (.istore 6, 2) := by decide +kernel
theorem dX8_judge_39 : decode cX8_judge 39 = .ok (.iconst 0, 1) := by decide +kernel
theorem dX8_judge_40 : decode cX8_judge 40 = .ok (.istore 7, 2) := by decide +kernel
theorem dX8_judge_42 : decode cX8_judge 42 = .ok (.iload 7, 2) := by decide +kernel
theorem dX8_judge_44 : decode cX8_judge 44 = .ok (.aload_n 0, 1) := by decide +kernel
theorem dX8_judge_45 : decode cX8_judge 45 = .ok (.getfield 39, 3) := by decide +kernel
theorem dX8_judge_48 : decode cX8_judge 48 = .ok (.iload_n 1, 1) := by decide +kernel
theorem dX8_judge_49 : decode cX8_judge 49 = .ok (.iaload, 1) := by decide +kernel
theorem dX8_judge_50 : decode cX8_judge 50 = .ok (.if_icmp .ge 79, 3) := by decide +kernel
theorem dX8_judge_53 : decode cX8_judge 53 = .ok (.aload_n 0, 1) := by decide +kernel
theorem dX8_judge_54 : decode cX8_judge 54 = .ok (.getfield 42, 3) := by decide +kernel
theorem dX8_judge_57 : decode cX8_judge 57 = .ok (.bipush 8, 2) := by decide +kernel
theorem dX8_judge_59 : decode cX8_judge 59 = .ok (.iload_n 1, 1) := by decide +kernel
theorem dX8_judge_60 : decode cX8_judge 60 = .ok (.imul, 1) := by decide +kernel
theorem dX8_judge_61 : decode cX8_judge 61 = .ok (.iload 7, 2) := by decide +kernel
theorem dX8_judge_63 : decode cX8_judge 63 = .ok (.iadd, 1) := by decide +kernel
theorem dX8_judge_64 : decode cX8_judge 64 = .ok (.iaload, 1) := by decide +kernel
theorem dX8_judge_65 : decode cX8_judge 65 = .ok (.istore 8, 2) := by decide +kernel
theorem dX8_judge_67 : decode cX8_judge 67 = .ok (.iload_n 3, 1) := by decide +kernel
theorem dX8_judge_68 : decode cX8_judge 68 = .ok (.aload_n 0, 1) := by decide +kernel
theorem dX8_judge_69 : decode cX8_judge 69 = .ok (.getfield 48, 3) := by decide +kernel
theorem dX8_judge_72 : decode cX8_judge 72 = .ok (.iload 8, 2) := by decide +kernel
theorem dX8_judge_74 : decode cX8_judge 74 = .ok (.iaload, 1) := by decide +kernel
theorem dX8_judge_75 : decode cX8_judge 75 = .ok (.iadd, 1) := by decide +kernel
theorem dX8_judge_76 : decode cX8_judge 76 = .ok (.istore_n 3, 1) := by decide +kernel
theorem dX8_judge_77 : decode cX8_judge 77 = .ok (.iload 4, 2) := by decide +kernel
theorem dX8_judge_79 : decode cX8_judge 79 = .ok (.aload_n 0, 1) := by decide +kernel
theorem dX8_judge_80 : decode cX8_judge 80 = .ok (.getfield 51, 3) := by decide +kernel
theorem dX8_judge_83 : decode cX8_judge 83 = .ok (.iload 8, 2) := by decide +kernel
theorem dX8_judge_85 : decode cX8_judge 85 = .ok (.iaload, 1) := by decide +kernel
theorem dX8_judge_86 : decode cX8_judge 86 = .ok (.ior, 1) := by decide +kernel
theorem dX8_judge_87 : decode cX8_judge 87 = .ok (.istore 4, 2) := by decide +kernel
theorem dX8_judge_89 : decode cX8_judge 89 = .ok (.iload 5, 2) := by decide +kernel
theorem dX8_judge_91 : decode cX8_judge 91 = .ok (.ifCond .eq 17, 3) := by decide +kernel
theorem dX8_judge_94 : decode cX8_judge 94 = .ok (.aload_n 0, 1) := by decide +kernel
theorem dX8_judge_95 : decode cX8_judge 95 = .ok (.getfield 57, 3) := by decide +kernel
theorem dX8_judge_98 : decode cX8_judge 98 = .ok (.iload 8, 2) := by decide +kernel
theorem dX8_judge_100 : decode cX8_judge 100 = .ok (.baload, 1) := by decide +kernel
theorem dX8_judge_101 : decode cX8_judge 101 = .ok (.ifCond .eq 7, 3) := by decide +kernel
theorem dX8_judge_104 : decode cX8_judge 104 = .ok (.iconst 1, 1) := by decide +kernel
theorem dX8_judge_105 : decode cX8_judge 105 = .ok (.goto 4, 3) := by decide +kernel
theorem dX8_judge_108 : decode cX8_judge 108 = .ok (.iconst 0, 1) := by decide +kernel
theorem dX8_judge_109 : decode cX8_judge 109 = .ok (.istore 5, 2) := by decide +kernel
theorem dX8_judge_111 : decode cX8_judge 111 = .ok (.iload 6, 2) := by decide +kernel
theorem dX8_judge_113 : decode cX8_judge 113 = .ok (.aload_n 0, 1) := by decide +kernel
theorem dX8_judge_114 : decode cX8_judge 114 = .ok (.getfield 54, 3) := by decide +kernel
theorem dX8_judge_117 : decode cX8_judge 117 = .ok (.iload 8, 2) := by decide +kernel
theorem dX8_judge_119 : decode cX8_judge 119 = .ok (.iaload, 1) := by decide +kernel
theorem dX8_judge_120 : decode cX8_judge 120 = .ok (.iand, 1) := by decide +kernel
theorem dX8_judge_121 : decode cX8_judge 121 = .ok (.istore 6, 2) := by decide +kernel
theorem dX8_judge_123 : decode cX8_judge 123 = .ok (.iinc 7 1, 3) := by decide +kernel
theorem dX8_judge_126 : decode cX8_judge 126 = .ok (.goto (-84), 3) := by decide +kernel
theorem dX8_judge_129 : decode cX8_judge 129 = .ok (.aload_n 0, 1) := by decide +kernel
theorem dX8_judge_130 : decode cX8_judge 130 = .ok (.getfield 48, 3) := by decide +kernel
theorem dX8_judge_133 : decode cX8_judge 133 = .ok (.iload_n 1, 1) := by decide +kernel
theorem dX8_judge_134 : decode cX8_judge 134 = .ok (.iload_n 3, 1) := by decide +kernel
theorem dX8_judge_135 : decode cX8_judge 135 = .ok (.iastore, 1) := by decide +kernel
theorem dX8_judge_136 : decode cX8_judge 136 = .ok (.aload_n 0, 1) := by decide +kernel
theorem dX8_judge_137 : decode cX8_judge 137 = .ok (.getfield 51, 3) := by decide +kernel
theorem dX8_judge_140 : decode cX8_judge 140 = .ok (.iload_n 1, 1) := by decide +kernel
theorem dX8_judge_141 : decode cX8_judge 141 = .ok (.iload 4, 2) := by decide +kernel
theorem dX8_judge_143 : decode cX8_judge 143 = .ok (.iastore, 1) := by decide +kernel
theorem dX8_judge_144 : decode cX8_judge 144 = .ok (.aload_n 0, 1) := by decide +kernel
theorem dX8_judge_145 : decode cX8_judge 145 = .ok (.getfield 33, 3) := by decide +kernel
theorem dX8_judge_148 : decode cX8_judge 148 = .ok (.iload_n 1, 1) := by decide +kernel
theorem dX8_judge_149 : decode cX8_judge 149 = .ok (.daload, 1) := by decide +kernel
theorem dX8_judge_150 : decode cX8_judge 150 = .ok (.dconst 0, 1) := by decide +kernel
theorem dX8_judge_151 : decode cX8_judge 151 = .ok (.dcmp .g, 1) := by decide +kernel
theorem dX8_judge_152 : decode cX8_judge 152 = .ok (.ifCond .ge 7, 3) := by decide +kernel
theorem dX8_judge_155 : decode cX8_judge 155 = .ok (.iconst 1, 1) := by decide +kernel
theorem dX8_judge_156 : decode cX8_judge 156 = .ok (.goto 4, 3) := by decide +kernel
theorem dX8_judge_159 : decode cX8_judge 159 = .ok (.iconst 0, 1) := by decide +kernel
theorem dX8_judge_160 : decode cX8_judge 160 = .ok (.istore 7, 2) := by decide +kernel
theorem dX8_judge_162 : decode cX8_judge 162 = .ok (.aload_n 0, 1) := by decide +kernel
theorem dX8_judge_163 : decode cX8_judge 163 = .ok (.getfield 57, 3) := by decide +kernel
theorem dX8_judge_166 : decode cX8_judge 166 = .ok (.iload_n 1, 1) := by decide +kernel
theorem dX8_judge_167 : decode cX8_judge 167 = .ok (.iload_n 2, 1) := by decide +kernel
theorem dX8_judge_168 : decode cX8_judge 168 = .ok (.ifCond .ne 16, 3) := by decide +kernel
theorem dX8_judge_171 : decode cX8_judge 171 = .ok (.iload 7, 2) := by decide +kernel
theorem dX8_judge_173 : decode cX8_judge 173 = .ok (.ifCond .ne 7, 3) := by decide +kernel
theorem dX8_judge_176 : decode cX8_judge 176 = .ok (.iconst 1, 1) := by decide +kernel
theorem dX8_judge_177 : decode cX8_judge 177 = .ok (.goto 34, 3) := by decide +kernel
theorem dX8_judge_180 : decode cX8_judge 180 = .ok (.iconst 0, 1) := by decide +kernel
theorem dX8_judge_181 : decode cX8_judge 181 = .ok (.goto 30, 3) := by decide +kernel
theorem dX8_judge_184 : decode cX8_judge 184 = .ok (.iload_n 2, 1) := by decide +kernel
theorem dX8_judge_185 : decode cX8_judge 185 = .ok (.iconst 5, 1) := by decide +kernel
theorem dX8_judge_186 : decode cX8_judge 186 = .ok (.if_icmp .ne 7, 3) := by decide +kernel
theorem dX8_judge_189 : decode cX8_judge 189 = .ok (.iconst 0, 1) := by decide +kernel
theorem dX8_judge_190 : decode cX8_judge 190 = .ok (.goto 21, 3) := by decide +kernel
theorem dX8_judge_193 : decode cX8_judge 193 = .ok (.iload_n 2, 1) := by decide +kernel
theorem dX8_judge_194 : decode cX8_judge 194 = .ok (.bipush 12, 2) := by decide +kernel
theorem dX8_judge_196 : decode cX8_judge 196 = .ok (.if_icmp .eq 9, 3) := by decide +kernel
theorem dX8_judge_199 : decode cX8_judge 199 = .ok (.iload_n 2, 1) := by decide +kernel
theorem dX8_judge_200 : decode cX8_judge 200 = .ok (.bipush 13, 2) := by decide +kernel
theorem dX8_judge_202 : decode cX8_judge 202 = .ok (.if_icmp .ne 8, 3) := by decide +kernel
theorem dX8_judge_205 : decode cX8_judge 205 = .ok (.iload 5, 2) := by decide +kernel
theorem dX8_judge_207 : decode cX8_judge 207 = .ok (.goto 4, 3) := by decide +kernel
theorem dX8_judge_210 : decode cX8_judge 210 = .ok (.iconst 1, 1) := by decide +kernel
theorem dX8_judge_211 : decode cX8_judge 211 = .ok (.bastore, 1) := by decide +kernel
theorem dX8_judge_212 : decode cX8_judge 212 = .ok (.iload_n 2, 1) := by decide +kernel
theorem dX8_judge_213 : decode cX8_judge 213 = .ok (.iconst 1, 1) := by decide +kernel
theorem dX8_judge_214 : decode cX8_judge 214 = .ok (.iconst 4, 1) := by decide +kernel
theorem dX8_judge_215 : decode cX8_judge 215 = .ok (.invokestatic 89, 3) := by decide +kernel
theorem dX8_judge_218 : decode cX8_judge 218 = .ok (.ifCond .eq 8, 3) := by decide +kernel
theorem dX8_judge_221 : decode cX8_judge 221 = .ok (.bipush 15, 2) := by decide +kernel
theorem dX8_judge_223 : decode cX8_judge 223 = .ok (.goto 44, 3) := by decide +kernel
theorem dX8_judge_226 : decode cX8_judge 226 = .ok (.iload_n 2, 1) := by decide +kernel
theorem dX8_judge_227 : decode cX8_judge 227 = .ok (.bipush 6, 2) := by decide +kernel
theorem dX8_judge_229 : decode cX8_judge 229 = .ok (.if_icmp .eq 32, 3) := by decide +kernel
theorem dX8_judge_232 : decode cX8_judge 232 = .ok (.iload_n 2, 1) := by decide +kernel
theorem dX8_judge_233 : decode cX8_judge 233 = .ok (.bipush 8, 2) := by decide +kernel
theorem dX8_judge_235 : decode cX8_judge 235 = .ok (.if_icmp .eq 26, 3) := by decide +kernel
theorem dX8_judge_238 : decode cX8_judge 238 = .ok (.iload_n 2, 1) := by decide +kernel
theorem dX8_judge_239 : decode cX8_judge 239 = .ok (.bipush 9, 2) := by decide +kernel
theorem dX8_judge_241 : decode cX8_judge 241 = .ok (.if_icmp .eq 20, 3) := by decide +kernel
theorem dX8_judge_244 : decode cX8_judge 244 = .ok (.iload_n 2, 1) := by decide +kernel
theorem dX8_judge_245 : decode cX8_judge 245 = .ok (.bipush 12, 2) := by decide +kernel
theorem dX8_judge_247 : decode cX8_judge 247 = .ok (.if_icmp .eq 14, 3) := by decide +kernel
theorem dX8_judge_250 : decode cX8_judge 250 = .ok (.iload_n 2, 1) := by decide +kernel
theorem dX8_judge_251 : decode cX8_judge 251 = .ok (.bipush 7, 2) := by decide +kernel
theorem dX8_judge_253 : decode cX8_judge 253 = .ok (.if_icmp .ne 13, 3) := by decide +kernel
theorem dX8_judge_256 : decode cX8_judge 256 = .ok (.iload 5, 2) := by decide +kernel
theorem dX8_judge_258 : decode cX8_judge 258 = .ok (.ifCond .eq 8, 3) := by decide +kernel
theorem dX8_judge_261 : decode cX8_judge 261 = .ok (.iload 6, 2) := by decide +kernel
theorem dX8_judge_263 : decode cX8_judge 263 = .ok (.goto 4, 3) := by decide +kernel
theorem dX8_judge_266 : decode cX8_judge 266 = .ok (.iconst 0, 1) := by decide +kernel
theorem dX8_judge_267 : decode cX8_judge 267 = .ok (.istore 8, 2) := by decide +kernel
theorem dX8_judge_269 : decode cX8_judge 269 = .ok (.aload_n 0, 1) := by decide +kernel
theorem dX8_judge_270 : decode cX8_judge 270 = .ok (.getfield 54, 3) := by decide +kernel
theorem dX8_judge_273 : decode cX8_judge 273 = .ok (.iload_n 1, 1) := by decide +kernel
theorem dX8_judge_274 : decode cX8_judge 274 = .ok (.iload 8, 2) := by decide +kernel
theorem dX8_judge_276 : decode cX8_judge 276 = .ok (.iload 4, 2) := by decide +kernel
theorem dX8_judge_278 : decode cX8_judge 278 = .ok (.iconst (-1), 1) := by decide +kernel
theorem dX8_judge_279 : decode cX8_judge 279 = .ok (.ixor, 1) := by decide +kernel
theorem dX8_judge_280 : decode cX8_judge 280 = .ok (.ior, 1) := by decide +kernel
theorem dX8_judge_281 : decode cX8_judge 281 = .ok (.bipush 15, 2) := by decide +kernel
theorem dX8_judge_283 : decode cX8_judge 283 = .ok (.iand, 1) := by decide +kernel
theorem dX8_judge_284 : decode cX8_judge 284 = .ok (.iastore, 1) := by decide +kernel
theorem dX8_judge_285 : decode cX8_judge 285 = .ok (.return_, 1) := by decide +kernel
theorem dX8_part_0 : decode cX8_part 0 = .ok (.aload_n 0, 1) := by decide +kernel
theorem dX8_part_1 : decode cX8_part 1 = .ok (.iload_n 1, 1) := by decide +kernel
theorem dX8_part_2 : decode cX8_part 2 = .ok (.invokevirtual 127, 3) := by decide +kernel
theorem dX8_part_5 : decode cX8_part 5 = .ok (.ifCond .eq 30, 3) := by decide +kernel
theorem dX8_part_8 : decode cX8_part 8 = .ok (.aload_n 0, 1) := by decide +kernel
theorem dX8_part_9 : decode cX8_part 9 = .ok (.getfield 27, 3) := by decide +kernel
theorem dX8_part_12 : decode cX8_part 12 = .ok (.iload_n 1, 1) := by decide +kernel
theorem dX8_part_13 : decode cX8_part 13 = .ok (.iaload, 1) := by decide +kernel
theorem dX8_part_14 : decode cX8_part 14 = .ok (.bipush 6, 2) := by decide +kernel
theorem dX8_part_16 : decode cX8_part 16 = .ok (.bipush 8, 2) := by decide +kernel
theorem dX8_part_18 : decode cX8_part 18 = .ok (.invokestatic 89, 3) := by decide +kernel
theorem dX8_part_21 : decode cX8_part 21 = .ok (.ifCond .eq 14, 3) := by decide +kernel
theorem dX8_part_24 : decode cX8_part 24 = .ok (.iload_n 2, 1) := by decide +kernel
theorem dX8_part_25 : decode cX8_part 25 = .ok (.iconst 0, 1) := by decide +kernel
theorem dX8_part_26 : decode cX8_part 26 = .ok (.iload_n 1, 1) := by decide +kernel
theorem dX8_part_27 : decode cX8_part 27 = .ok (.iconst 1, 1) := by decide +kernel
theorem dX8_part_28 : decode cX8_part 28 = .ok (.isub, 1) := by decide +kernel
theorem dX8_part_29 : decode cX8_part 29 = .ok (.invokestatic 89, 3) := by decide +kernel
theorem dX8_part_32 : decode cX8_part 32 = .ok (.ifCond .ne 5, 3) := by decide +kernel
theorem dX8_part_35 : decode cX8_part 35 = .ok (.iconst (-1), 1) := by decide +kernel
theorem dX8_part_36 : decode cX8_part 36 = .ok (.ireturn, 1) := by decide +kernel
theorem dX8_part_37 : decode cX8_part 37 = .ok (.aload_n 0, 1) := by decide +kernel
theorem dX8_part_38 : decode cX8_part 38 = .ok (.getfield 45, 3) := by decide +kernel
theorem dX8_part_41 : decode cX8_part 41 = .ok (.iload_n 1, 1) := by decide +kernel
theorem dX8_part_42 : decode cX8_part 42 = .ok (.baload, 1) := by decide +kernel
theorem dX8_part_43 : decode cX8_part 43 = .ok (.ifCond .eq 6, 3) := by decide +kernel
theorem dX8_part_46 : decode cX8_part 46 = .ok (.bipush (-2), 2) := by decide +kernel
theorem dX8_part_48 : decode cX8_part 48 = .ok (.ireturn, 1) := by decide +kernel
theorem dX8_part_49 : decode cX8_part 49 = .ok (.aload_n 0, 1) := by decide +kernel
theorem dX8_part_50 : decode cX8_part 50 = .ok (.getfield 39, 3) := by decide +kernel
theorem dX8_part_53 : decode cX8_part 53 = .ok (.iload_n 1, 1) := by decide +kernel
theorem dX8_part_54 : decode cX8_part 54 = .ok (.iaload, 1) := by decide +kernel
theorem dX8_part_55 : decode cX8_part 55 = .ok (.bipush 8, 2) := by decide +kernel
theorem dX8_part_57 : decode cX8_part 57 = .ok (.if_icmp .eq 22, 3) := by decide +kernel
theorem dX8_part_60 : decode cX8_part 60 = .ok (.aload_n 0, 1) := by decide +kernel
theorem dX8_part_61 : decode cX8_part 61 = .ok (.getfield 48, 3) := by decide +kernel
theorem dX8_part_64 : decode cX8_part 64 = .ok (.iload_n 1, 1) := by decide +kernel
theorem dX8_part_65 : decode cX8_part 65 = .ok (.iaload, 1) := by decide +kernel
theorem dX8_part_66 : decode cX8_part 66 = .ok (.aload_n 0, 1) := by decide +kernel
theorem dX8_part_67 : decode cX8_part 67 = .ok (.getfield 48, 3) := by decide +kernel
theorem dX8_part_70 : decode cX8_part 70 = .ok (.iload_n 2, 1) := by decide +kernel
theorem dX8_part_71 : decode cX8_part 71 = .ok (.iaload, 1) := by decide +kernel
theorem dX8_part_72 : decode cX8_part 72 = .ok (.iadd, 1) := by decide +kernel
theorem dX8_part_73 : decode cX8_part 73 = .ok (.sipush 200, 3) := by decide +kernel
theorem dX8_part_76 : decode cX8_part 76 = .ok (.if_icmp .le 6, 3) := by decide +kernel
theorem dX8_part_79 : decode cX8_part 79 = .ok (.bipush (-3), 2) := by decide +kernel
theorem dX8_part_81 : decode cX8_part 81 = .ok (.ireturn, 1) := by decide +kernel
theorem dX8_part_82 : decode cX8_part 82 = .ok (.aload_n 0, 1) := by decide +kernel
theorem dX8_part_83 : decode cX8_part 83 = .ok (.getfield 42, 3) := by decide +kernel
theorem dX8_part_86 : decode cX8_part 86 = .ok (.bipush 8, 2) := by decide +kernel
theorem dX8_part_88 : decode cX8_part 88 = .ok (.iload_n 1, 1) := by decide +kernel
theorem dX8_part_89 : decode cX8_part 89 = .ok (.imul, 1) := by decide +kernel
theorem dX8_part_90 : decode cX8_part 90 = .ok (.aload_n 0, 1) := by decide +kernel
theorem dX8_part_91 : decode cX8_part 91 = .ok (.getfield 39, 3) := by decide +kernel
theorem dX8_part_94 : decode cX8_part 94 = .ok (.iload_n 1, 1) := by decide +kernel
theorem dX8_part_95 : decode cX8_part 95 = .ok (.iaload, 1) := by decide +kernel
theorem dX8_part_96 : decode cX8_part 96 = .ok (.iadd, 1) := by decide +kernel
theorem dX8_part_97 : decode cX8_part 97 = .ok (.iload_n 2, 1) := by decide +kernel
theorem dX8_part_98 : decode cX8_part 98 = .ok (.iastore, 1) := by decide +kernel
theorem dX8_part_99 : decode cX8_part 99 = .ok (.aload_n 0, 1) := by decide +kernel
theorem dX8_part_100 : decode cX8_part 100 = .ok (.getfield 39, 3) := by decide +kernel
theorem dX8_part_103 : decode cX8_part 103 = .ok (.iload_n 1, 1) := by decide +kernel
theorem dX8_part_104 : decode cX8_part 104 = .ok (.dup2, 1) := by decide +kernel
theorem dX8_part_105 : decode cX8_part 105 = .ok (.iaload, 1) := by decide +kernel
theorem dX8_part_106 : decode cX8_part 106 = .ok (.iconst 1, 1) := by decide +kernel
theorem dX8_part_107 : decode cX8_part 107 = .ok (.iadd, 1) := by decide +kernel
theorem dX8_part_108 : decode cX8_part 108 = .ok (.iastore, 1) := by decide +kernel
theorem dX8_part_109 : decode cX8_part 109 = .ok (.aload_n 0, 1) := by decide +kernel
theorem dX8_part_110 : decode cX8_part 110 = .ok (.getfield 45, 3) := by decide +kernel
theorem dX8_part_113 : decode cX8_part 113 = .ok (.iload_n 2, 1) := by decide +kernel
theorem dX8_part_114 : decode cX8_part 114 = .ok (.iconst 1, 1) := by decide +kernel
theorem dX8_part_115 : decode cX8_part 115 = .ok (.bastore, 1) := by decide +kernel
theorem dX8_part_116 : decode cX8_part 116 = .ok (.aload_n 0, 1) := by decide +kernel
theorem dX8_part_117 : decode cX8_part 117 = .ok (.iload_n 1, 1) := by decide +kernel
theorem dX8_part_118 : decode cX8_part 118 = .ok (.invokevirtual 131, 3) := by decide +kernel
theorem dX8_part_121 : decode cX8_part 121 = .ok (.aload_n 0, 1) := by decide +kernel
theorem dX8_part_122 : decode cX8_part 122 = .ok (.getfield 39, 3) := by decide +kernel
theorem dX8_part_125 : decode cX8_part 125 = .ok (.iload_n 1, 1) := by decide +kernel
theorem dX8_part_126 : decode cX8_part 126 = .ok (.iaload, 1) := by decide +kernel
theorem dX8_part_127 : decode cX8_part 127 = .ok (.ireturn, 1) := by decide +kernel
theorem dX8_noReal_0 : decode cX8_noReal 0 = .ok (.ldc2_w 135, 3) := by decide +kernel
theorem dX8_noReal_3 : decode cX8_noReal 3 = .ok (.invokestatic 137, 3) := by decide +kernel
theorem dX8_noReal_6 : decode cX8_noReal 6 = .ok (.dreturn, 1) := by decide +kernel
theorem dX8_realOfBits_0 : decode cX8_realOfBits 0 = .ok (.lload_n 0, 1) := by decide +kernel
theorem dX8_realOfBits_1 : decode cX8_realOfBits 1 = .ok (.ldc2_w 140, 3) := by decide +kernel
theorem dX8_realOfBits_4 : decode cX8_realOfBits 4 = .ok (.land, 1) := by decide +kernel
theorem dX8_realOfBits_5 : decode cX8_realOfBits 5 = .ok (.ldc2_w 142, 3) := by decide +kernel
theorem dX8_realOfBits_8 : decode cX8_realOfBits 8 = .ok (.lcmp, 1) := by decide +kernel
theorem dX8_realOfBits_9 : decode cX8_realOfBits 9 = .ok (.ifCond .le 9, 3) := by decide +kernel
theorem dX8_realOfBits_12 : decode cX8_realOfBits 12 = .ok (.invokestatic 85, 3) := by decide +kernel
theorem dX8_realOfBits_15 : decode cX8_realOfBits 15 = .ok (.goto 7, 3) := by decide +kernel
theorem dX8_realOfBits_18 : decode cX8_realOfBits 18 = .ok (.lload_n 0, 1) := by decide +kernel
theorem dX8_realOfBits_19 : decode cX8_realOfBits 19 = .ok (.invokestatic 137, 3) := by decide +kernel
theorem dX8_realOfBits_22 : decode cX8_realOfBits 22 = .ok (.dreturn, 1) := by decide +kernel
theorem dX8_isEndlessReal_0 : decode cX8_isEndlessReal 0 = .ok (.dload_n 0, 1) := by decide +kernel
theorem dX8_isEndlessReal_1 : decode cX8_isEndlessReal 1 = .ok (.ldc2_w 144, 3) := by decide +kernel
theorem dX8_isEndlessReal_4 : decode cX8_isEndlessReal 4 = .ok (.dcmp .l, 1) := by decide +kernel
theorem dX8_isEndlessReal_5 : decode cX8_isEndlessReal 5 = .ok (.ifCond .gt 11, 3) := by decide +kernel
theorem dX8_isEndlessReal_8 : decode cX8_isEndlessReal 8 = .ok (.dload_n 0, 1) := by decide +kernel
theorem dX8_isEndlessReal_9 : decode cX8_isEndlessReal 9 = .ok (.ldc2_w 146, 3) := by decide +kernel
theorem dX8_isEndlessReal_12 : decode cX8_isEndlessReal 12 = .ok (.dcmp .g, 1) := by decide +kernel
theorem dX8_isEndlessReal_13 : decode cX8_isEndlessReal 13 = .ok (.ifCond .ge 7, 3) := by decide +kernel
theorem dX8_isEndlessReal_16 : decode cX8_isEndlessReal 16 = .ok (.iconst 1, 1) := by decide +kernel
theorem dX8_isEndlessReal_17 : decode cX8_isEndlessReal 17 = .ok (.goto 4, 3) := by decide +kernel
theorem dX8_isEndlessReal_20 : decode cX8_isEndlessReal 20 = .ok (.iconst 0, 1) := by decide +kernel
theorem dX8_isEndlessReal_21 : decode cX8_isEndlessReal 21 = .ok (.ireturn, 1) := by decide +kernel
theorem dX8_realPlus_0 : decode cX8_realPlus 0 = .ok (.dload_n 0, 1) := by decide +kernel
theorem dX8_realPlus_1 : decode cX8_realPlus 1 = .ok (.dload_n 0, 1) := by decide +kernel
theorem dX8_realPlus_2 : decode cX8_realPlus 2 = .ok (.dcmp .l, 1) := by decide +kernel
theorem dX8_realPlus_3 : decode cX8_realPlus 3 = .ok (.ifCond .ne 29, 3) := by decide +kernel
theorem dX8_realPlus_6 : decode cX8_realPlus 6 = .ok (.dload_n 2, 1) := by decide +kernel
theorem dX8_realPlus_7 : decode cX8_realPlus 7 = .ok (.dload_n 2, 1) := by decide +kernel
theorem dX8_realPlus_8 : decode cX8_realPlus 8 = .ok (.dcmp .l, 1) := by decide +kernel
theorem dX8_realPlus_9 : decode cX8_realPlus 9 = .ok (.ifCond .ne 23, 3) := by decide +kernel
theorem dX8_realPlus_12 : decode cX8_realPlus 12 = .ok (.dload_n 0, 1) := by decide +kernel
theorem dX8_realPlus_13 : decode cX8_realPlus 13 = .ok (.invokestatic 148, 3) := by decide +kernel
theorem dX8_realPlus_16 : decode cX8_realPlus 16 = .ok (.ifCond .eq 22, 3) := by decide +kernel
theorem dX8_realPlus_19 : decode cX8_realPlus 19 = .ok (.dload_n 2, 1) := by decide +kernel
theorem dX8_realPlus_20 : decode cX8_realPlus 20 = .ok (.invokestatic 148, 3) := by decide +kernel
theorem dX8_realPlus_23 : decode cX8_realPlus 23 = .ok (.ifCond .eq 15, 3) := by decide +kernel
theorem dX8_realPlus_26 : decode cX8_realPlus 26 = .ok (.dload_n 0, 1) := by decide +kernel
theorem dX8_realPlus_27 : decode cX8_realPlus 27 = .ok (.dload_n 2, 1) := by decide +kernel
theorem dX8_realPlus_28 : decode cX8_realPlus 28 = .ok (.dcmp .l, 1) := by decide +kernel
theorem dX8_realPlus_29 : decode cX8_realPlus 29 = .ok (.ifCond .eq 9, 3) := by decide +kernel
theorem dX8_realPlus_32 : decode cX8_realPlus 32 = .ok (.invokestatic 85, 3) := by decide +kernel
theorem dX8_realPlus_35 : decode cX8_realPlus 35 = .ok (.goto 6, 3) := by decide +kernel
theorem dX8_realPlus_38 : decode cX8_realPlus 38 = .ok (.dload_n 0, 1) := by decide +kernel
theorem dX8_realPlus_39 : decode cX8_realPlus 39 = .ok (.dload_n 2, 1) := by decide +kernel
theorem dX8_realPlus_40 : decode cX8_realPlus 40 = .ok (.dadd, 1) := by decide +kernel
theorem dX8_realPlus_41 : decode cX8_realPlus 41 = .ok (.dreturn, 1) := by decide +kernel
theorem dX8_realLess_0 : decode cX8_realLess 0 = .ok (.dload_n 0, 1) := by decide +kernel
theorem dX8_realLess_1 : decode cX8_realLess 1 = .ok (.dload_n 0, 1) := by decide +kernel
theorem dX8_realLess_2 : decode cX8_realLess 2 = .ok (.dcmp .l, 1) := by decide +kernel
theorem dX8_realLess_3 : decode cX8_realLess 3 = .ok (.ifCond .ne 29, 3) := by decide +kernel
theorem dX8_realLess_6 : decode cX8_realLess 6 = .ok (.dload_n 2, 1) := by decide +kernel
theorem dX8_realLess_7 : decode cX8_realLess 7 = .ok (.dload_n 2, 1) := by decide +kernel
theorem dX8_realLess_8 : decode cX8_realLess 8 = .ok (.dcmp .l, 1) := by decide +kernel
theorem dX8_realLess_9 : decode cX8_realLess 9 = .ok (.ifCond .ne 23, 3) := by decide +kernel
theorem dX8_realLess_12 : decode cX8_realLess 12 = .ok (.dload_n 0, 1) := by decide +kernel
theorem dX8_realLess_13 : decode cX8_realLess 13 = .ok (.invokestatic 148, 3) := by decide +kernel
theorem dX8_realLess_16 : decode cX8_realLess 16 = .ok (.ifCond .eq 22, 3) := by decide +kernel
theorem dX8_realLess_19 : decode cX8_realLess 19 = .ok (.dload_n 2, 1) := by decide +kernel
theorem dX8_realLess_20 : decode cX8_realLess 20 = .ok (.invokestatic 148, 3) := by decide +kernel
theorem dX8_realLess_23 : decode cX8_realLess 23 = .ok (.ifCond .eq 15, 3) := by decide +kernel
theorem dX8_realLess_26 : decode cX8_realLess 26 = .ok (.dload_n 0, 1) := by decide +kernel
theorem dX8_realLess_27 : decode cX8_realLess 27 = .ok (.dload_n 2, 1) := by decide +kernel
theorem dX8_realLess_28 : decode cX8_realLess 28 = .ok (.dcmp .l, 1) := by decide +kernel
theorem dX8_realLess_29 : decode cX8_realLess 29 = .ok (.ifCond .ne 9, 3) := by decide +kernel
theorem dX8_realLess_32 : decode cX8_realLess 32 = .ok (.invokestatic 85, 3) := by decide +kernel
theorem dX8_realLess_35 : decode cX8_realLess 35 = .ok (.goto 6, 3) := by decide +kernel
theorem dX8_realLess_38 : decode cX8_realLess 38 = .ok (.dload_n 0, 1) := by decide +kernel
theorem dX8_realLess_39 : decode cX8_realLess 39 = .ok (.dload_n 2, 1) := by decide +kernel
theorem dX8_realLess_40 : decode cX8_realLess 40 = .ok (.dsub, 1) := by decide +kernel
theorem dX8_realLess_41 : decode cX8_realLess 41 = .ok (.dreturn, 1) := by decide +kernel
theorem dX8_realTimes_0 : decode cX8_realTimes 0 = .ok (.dload_n 0, 1) := by decide +kernel
theorem dX8_realTimes_1 : decode cX8_realTimes 1 = .ok (.dload_n 0, 1) := by decide +kernel
theorem dX8_realTimes_2 : decode cX8_realTimes 2 = .ok (.dcmp .l, 1) := by decide +kernel
theorem dX8_realTimes_3 : decode cX8_realTimes 3 = .ok (.ifCond .ne 35, 3) := by decide +kernel
theorem dX8_realTimes_6 : decode cX8_realTimes 6 = .ok (.dload_n 2, 1) := by decide +kernel
theorem dX8_realTimes_7 : decode cX8_realTimes 7 = .ok (.dload_n 2, 1) := by decide +kernel
theorem dX8_realTimes_8 : decode cX8_realTimes 8 = .ok (.dcmp .l, 1) := by decide +kernel
theorem dX8_realTimes_9 : decode cX8_realTimes 9 = .ok (.ifCond .ne 29, 3) := by decide +kernel
theorem dX8_realTimes_12 : decode cX8_realTimes 12 = .ok (.dload_n 0, 1) := by decide +kernel
theorem dX8_realTimes_13 : decode cX8_realTimes 13 = .ok (.invokestatic 148, 3) := by decide +kernel
theorem dX8_realTimes_16 : decode cX8_realTimes 16 = .ok (.ifCond .eq 9, 3) := by decide +kernel
theorem dX8_realTimes_19 : decode cX8_realTimes 19 = .ok (.dload_n 2, 1) := by decide +kernel
theorem dX8_realTimes_20 : decode cX8_realTimes 20 = .ok (.dconst 0, 1) := by decide +kernel
theorem dX8_realTimes_21 : decode cX8_realTimes 21 = .ok (.dcmp .l, 1) := by decide +kernel
theorem dX8_realTimes_22 : decode cX8_realTimes 22 = .ok (.ifCond .eq 16, 3) := by decide +kernel
theorem dX8_realTimes_25 : decode cX8_realTimes 25 = .ok (.dload_n 2, 1) := by decide +kernel
theorem dX8_realTimes_26 : decode cX8_realTimes 26 = .ok (.invokestatic 148, 3) := by decide +kernel
theorem dX8_realTimes_29 : decode cX8_realTimes 29 = .ok (.ifCond .eq 15, 3) := by decide +kernel
theorem dX8_realTimes_32 : decode cX8_realTimes 32 = .ok (.dload_n 0, 1) := by decide +kernel
theorem dX8_realTimes_33 : decode cX8_realTimes 33 = .ok (.dconst 0, 1) := by decide +kernel
theorem dX8_realTimes_34 : decode cX8_realTimes 34 = .ok (.dcmp .l, 1) := by decide +kernel
theorem dX8_realTimes_35 : decode cX8_realTimes 35 = .ok (.ifCond .ne 9, 3) := by decide +kernel
theorem dX8_realTimes_38 : decode cX8_realTimes 38 = .ok (.invokestatic 85, 3) := by decide +kernel
theorem dX8_realTimes_41 : decode cX8_realTimes 41 = .ok (.goto 6, 3) := by decide +kernel
theorem dX8_realTimes_44 : decode cX8_realTimes 44 = .ok (.dload_n 0, 1) := by decide +kernel
theorem dX8_realTimes_45 : decode cX8_realTimes 45 = .ok (.dload_n 2, 1) := by decide +kernel
theorem dX8_realTimes_46 : decode cX8_realTimes 46 = .ok (.dmul, 1) := by decide +kernel
theorem dX8_realTimes_47 : decode cX8_realTimes 47 = .ok (.dreturn, 1) := by decide +kernel
theorem dX8_realOver_0 : decode cX8_realOver 0 = .ok (.dload_n 0, 1) := by decide +kernel
theorem dX8_realOver_1 : decode cX8_realOver 1 = .ok (.dload_n 0, 1) := by decide +kernel
theorem dX8_realOver_2 : decode cX8_realOver 2 = .ok (.dcmp .l, 1) := by decide +kernel
theorem dX8_realOver_3 : decode cX8_realOver 3 = .ok (.ifCond .ne 35, 3) := by decide +kernel
theorem dX8_realOver_6 : decode cX8_realOver 6 = .ok (.dload_n 2, 1) := by decide +kernel
theorem dX8_realOver_7 : decode cX8_realOver 7 = .ok (.dload_n 2, 1) := by decide +kernel
theorem dX8_realOver_8 : decode cX8_realOver 8 = .ok (.dcmp .l, 1) := by decide +kernel
theorem dX8_realOver_9 : decode cX8_realOver 9 = .ok (.ifCond .ne 29, 3) := by decide +kernel
theorem dX8_realOver_12 : decode cX8_realOver 12 = .ok (.dload_n 0, 1) := by decide +kernel
theorem dX8_realOver_13 : decode cX8_realOver 13 = .ok (.invokestatic 148, 3) := by decide +kernel
theorem dX8_realOver_16 : decode cX8_realOver 16 = .ok (.ifCond .eq 10, 3) := by decide +kernel
theorem dX8_realOver_19 : decode cX8_realOver 19 = .ok (.dload_n 2, 1) := by decide +kernel
theorem dX8_realOver_20 : decode cX8_realOver 20 = .ok (.invokestatic 148, 3) := by decide +kernel
theorem dX8_realOver_23 : decode cX8_realOver 23 = .ok (.ifCond .ne 15, 3) := by decide +kernel
theorem dX8_realOver_26 : decode cX8_realOver 26 = .ok (.dload_n 0, 1) := by decide +kernel
theorem dX8_realOver_27 : decode cX8_realOver 27 = .ok (.dconst 0, 1) := by decide +kernel
theorem dX8_realOver_28 : decode cX8_realOver 28 = .ok (.dcmp .l, 1) := by decide +kernel
theorem dX8_realOver_29 : decode cX8_realOver 29 = .ok (.ifCond .ne 15, 3) := by decide +kernel
theorem dX8_realOver_32 : decode cX8_realOver 32 = .ok (.dload_n 2, 1) := by decide +kernel
theorem dX8_realOver_33 : decode cX8_realOver 33 = .ok (.dconst 0, 1) := by decide +kernel
theorem dX8_realOver_34 : decode cX8_realOver 34 = .ok (.dcmp .l, 1) := by decide +kernel
theorem dX8_realOver_35 : decode cX8_realOver 35 = .ok (.ifCond .ne 9, 3) := by decide +kernel
theorem dX8_realOver_38 : decode cX8_realOver 38 = .ok (.invokestatic 85, 3) := by decide +kernel
theorem dX8_realOver_41 : decode cX8_realOver 41 = .ok (.goto 6, 3) := by decide +kernel
theorem dX8_realOver_44 : decode cX8_realOver 44 = .ok (.dload_n 0, 1) := by decide +kernel
theorem dX8_realOver_45 : decode cX8_realOver 45 = .ok (.dload_n 2, 1) := by decide +kernel
theorem dX8_realOver_46 : decode cX8_realOver 46 = .ok (.ddiv, 1) := by decide +kernel
theorem dX8_realOver_47 : decode cX8_realOver 47 = .ok (.dreturn, 1) := by decide +kernel
theorem dX8_greater_0 : decode cX8_greater 0 = .ok (.dload_n 0, 1) := by decide +kernel
theorem dX8_greater_1 : decode cX8_greater 1 = .ok (.dload_n 0, 1) := by decide +kernel
theorem dX8_greater_2 : decode cX8_greater 2 = .ok (.dcmp .l, 1) := by decide +kernel
theorem dX8_greater_3 : decode cX8_greater 3 = .ok (.ifCond .ne 9, 3) := by decide +kernel
theorem dX8_greater_6 : decode cX8_greater 6 = .ok (.dload_n 2, 1) := by decide +kernel
theorem dX8_greater_7 : decode cX8_greater 7 = .ok (.dload_n 2, 1) := by decide +kernel
theorem dX8_greater_8 : decode cX8_greater 8 = .ok (.dcmp .l, 1) := by decide +kernel
theorem dX8_greater_9 : decode cX8_greater 9 = .ok (.ifCond .eq 7, 3) := by decide +kernel
theorem dX8_greater_12 : decode cX8_greater 12 = .ok (.invokestatic 85, 3) := by decide +kernel
theorem dX8_greater_15 : decode cX8_greater 15 = .ok (.dreturn, 1) := by decide +kernel
theorem dX8_greater_16 : decode cX8_greater 16 = .ok (.dload_n 0, 1) := by decide +kernel
theorem dX8_greater_17 : decode cX8_greater 17 = .ok (.dload_n 2, 1) := by decide +kernel
theorem dX8_greater_18 : decode cX8_greater 18 = .ok (.dcmp .l, 1) := by decide +kernel
theorem dX8_greater_19 : decode cX8_greater 19 = .ok (.ifCond .ne 18, 3) := by decide +kernel
theorem dX8_greater_22 : decode cX8_greater 22 = .ok (.dload_n 0, 1) := by decide +kernel
theorem dX8_greater_23 : decode cX8_greater 23 = .ok (.invokestatic 113, 3) := by decide +kernel
theorem dX8_greater_26 : decode cX8_greater 26 = .ok (.lconst 0, 1) := by decide +kernel
theorem dX8_greater_27 : decode cX8_greater 27 = .ok (.lcmp, 1) := by decide +kernel
theorem dX8_greater_28 : decode cX8_greater 28 = .ok (.ifCond .ge 7, 3) := by decide +kernel
theorem dX8_greater_31 : decode cX8_greater 31 = .ok (.dload_n 2, 1) := by decide +kernel
theorem dX8_greater_32 : decode cX8_greater 32 = .ok (.goto 4, 3) := by decide +kernel
theorem dX8_greater_35 : decode cX8_greater 35 = .ok (.dload_n 0, 1) := by decide +kernel
theorem dX8_greater_36 : decode cX8_greater 36 = .ok (.dreturn, 1) := by decide +kernel
theorem dX8_greater_37 : decode cX8_greater 37 = .ok (.dload_n 0, 1) := by decide +kernel
theorem dX8_greater_38 : decode cX8_greater 38 = .ok (.dload_n 2, 1) := by decide +kernel
theorem dX8_greater_39 : decode cX8_greater 39 = .ok (.dcmp .l, 1) := by decide +kernel
theorem dX8_greater_40 : decode cX8_greater 40 = .ok (.ifCond .le 7, 3) := by decide +kernel
theorem dX8_greater_43 : decode cX8_greater 43 = .ok (.dload_n 0, 1) := by decide +kernel
theorem dX8_greater_44 : decode cX8_greater 44 = .ok (.goto 4, 3) := by decide +kernel
theorem dX8_greater_47 : decode cX8_greater 47 = .ok (.dload_n 2, 1) := by decide +kernel
theorem dX8_greater_48 : decode cX8_greater 48 = .ok (.dreturn, 1) := by decide +kernel
theorem dX8_down_0 : decode cX8_down 0 = .ok (.dload_n 0, 1) := by decide +kernel
theorem dX8_down_1 : decode cX8_down 1 = .ok (.dload_n 0, 1) := by decide +kernel
theorem dX8_down_2 : decode cX8_down 2 = .ok (.dcmp .l, 1) := by decide +kernel
theorem dX8_down_3 : decode cX8_down 3 = .ok (.ifCond .ne 25, 3) := by decide +kernel
theorem dX8_down_6 : decode cX8_down 6 = .ok (.dload_n 0, 1) := by decide +kernel
theorem dX8_down_7 : decode cX8_down 7 = .ok (.ldc2_w 152, 3) := by decide +kernel
theorem dX8_down_10 : decode cX8_down 10 = .ok (.dcmp .l, 1) := by decide +kernel
theorem dX8_down_11 : decode cX8_down 11 = .ok (.ifCond .ge 17, 3) := by decide +kernel
theorem dX8_down_14 : decode cX8_down 14 = .ok (.dload_n 0, 1) := by decide +kernel
theorem dX8_down_15 : decode cX8_down 15 = .ok (.ldc2_w 154, 3) := by decide +kernel
theorem dX8_down_18 : decode cX8_down 18 = .ok (.dcmp .g, 1) := by decide +kernel
theorem dX8_down_19 : decode cX8_down 19 = .ok (.ifCond .le 9, 3) := by decide +kernel
theorem dX8_down_22 : decode cX8_down 22 = .ok (.dload_n 0, 1) := by decide +kernel
theorem dX8_down_23 : decode cX8_down 23 = .ok (.dconst 0, 1) := by decide +kernel
theorem dX8_down_24 : decode cX8_down 24 = .ok (.dcmp .l, 1) := by decide +kernel
theorem dX8_down_25 : decode cX8_down 25 = .ok (.ifCond .ne 5, 3) := by decide +kernel
theorem dX8_down_28 : decode cX8_down 28 = .ok (.dload_n 0, 1) := by decide +kernel
theorem dX8_down_29 : decode cX8_down 29 = .ok (.dreturn, 1) := by decide +kernel
theorem dX8_down_30 : decode cX8_down 30 = .ok (.dload_n 0, 1) := by decide +kernel
theorem dX8_down_31 : decode cX8_down 31 = .ok (.d2l, 1) := by decide +kernel
theorem dX8_down_32 : decode cX8_down 32 = .ok (.l2d, 1) := by decide +kernel
theorem dX8_down_33 : decode cX8_down 33 = .ok (.dstore_n 2, 1) := by decide +kernel
theorem dX8_down_34 : decode cX8_down 34 = .ok (.dload_n 2, 1) := by decide +kernel
theorem dX8_down_35 : decode cX8_down 35 = .ok (.dload_n 0, 1) := by decide +kernel
theorem dX8_down_36 : decode cX8_down 36 = .ok (.dcmp .l, 1) := by decide +kernel
theorem dX8_down_37 : decode cX8_down 37 = .ok (.ifCond .le 9, 3) := by decide +kernel
theorem dX8_down_40 : decode cX8_down 40 = .ok (.dload_n 2, 1) := by decide +kernel
theorem dX8_down_41 : decode cX8_down 41 = .ok (.dconst 1, 1) := by decide +kernel
theorem dX8_down_42 : decode cX8_down 42 = .ok (.dsub, 1) := by decide +kernel
theorem dX8_down_43 : decode cX8_down 43 = .ok (.goto 4, 3) := by decide +kernel
theorem dX8_down_46 : decode cX8_down 46 = .ok (.dload_n 2, 1) := by decide +kernel
theorem dX8_down_47 : decode cX8_down 47 = .ok (.dreturn, 1) := by decide +kernel
theorem dX8_root_0 : decode cX8_root 0 = .ok (.dload_n 0, 1) := by decide +kernel
theorem dX8_root_1 : decode cX8_root 1 = .ok (.invokestatic 113, 3) := by decide +kernel
theorem dX8_root_4 : decode cX8_root 4 = .ok (.lstore_n 2, 1) := by decide +kernel
theorem dX8_root_5 : decode cX8_root 5 = .ok (.dload_n 0, 1) := by decide +kernel
theorem dX8_root_6 : decode cX8_root 6 = .ok (.dconst 0, 1) := by decide +kernel
theorem dX8_root_7 : decode cX8_root 7 = .ok (.dcmp .l, 1) := by decide +kernel
theorem dX8_root_8 : decode cX8_root 8 = .ok (.ifCond .ne 5, 3) := by decide +kernel
theorem dX8_root_11 : decode cX8_root 11 = .ok (.dload_n 0, 1) := by decide +kernel
theorem dX8_root_12 : decode cX8_root 12 = .ok (.dreturn, 1) := by decide +kernel
theorem dX8_root_13 : decode cX8_root 13 = .ok (.lload_n 2, 1) := by decide +kernel
theorem dX8_root_14 : decode cX8_root 14 = .ok (.bipush 52, 2) := by decide +kernel
theorem dX8_root_16 : decode cX8_root 16 = .ok (.lshr, 1) := by decide +kernel
theorem dX8_root_17 : decode cX8_root 17 = .ok (.l2i, 1) := by decide +kernel
theorem dX8_root_18 : decode cX8_root 18 = .ok (.sipush 1023, 3) := by decide +kernel
theorem dX8_root_21 : decode cX8_root 21 = .ok (.isub, 1) := by decide +kernel
theorem dX8_root_22 : decode cX8_root 22 = .ok (.istore 4, 2) := by decide +kernel
theorem dX8_root_24 : decode cX8_root 24 = .ok (.lload_n 2, 1) := by decide +kernel
theorem dX8_root_25 : decode cX8_root 25 = .ok (.ldc2_w 156, 3) := by decide +kernel
theorem dX8_root_28 : decode cX8_root 28 = .ok (.land, 1) := by decide +kernel
theorem dX8_root_29 : decode cX8_root 29 = .ok (.ldc2_w 158, 3) := by decide +kernel
theorem dX8_root_32 : decode cX8_root 32 = .ok (.lor, 1) := by decide +kernel
theorem dX8_root_33 : decode cX8_root 33 = .ok (.lstore 5, 2) := by decide +kernel
theorem dX8_root_35 : decode cX8_root 35 = .ok (.iload 4, 2) := by decide +kernel
theorem dX8_root_37 : decode cX8_root 37 = .ok (.iconst 1, 1) := by decide +kernel
theorem dX8_root_38 : decode cX8_root 38 = .ok (.iand, 1) := by decide +kernel
theorem dX8_root_39 : decode cX8_root 39 = .ok (.ifCond .eq 9, 3) := by decide +kernel
theorem dX8_root_42 : decode cX8_root 42 = .ok (.lload 5, 2) := by decide +kernel
theorem dX8_root_44 : decode cX8_root 44 = .ok (.iconst 1, 1) := by decide +kernel
theorem dX8_root_45 : decode cX8_root 45 = .ok (.lshl, 1) := by decide +kernel
theorem dX8_root_46 : decode cX8_root 46 = .ok (.lstore 5, 2) := by decide +kernel
theorem dX8_root_48 : decode cX8_root 48 = .ok (.iload 4, 2) := by decide +kernel
theorem dX8_root_50 : decode cX8_root 50 = .ok (.iconst 1, 1) := by decide +kernel
theorem dX8_root_51 : decode cX8_root 51 = .ok (.ishr, 1) := by decide +kernel
theorem dX8_root_52 : decode cX8_root 52 = .ok (.istore 4, 2) := by decide +kernel
theorem dX8_root_54 : decode cX8_root 54 = .ok (.lload 5, 2) := by decide +kernel
theorem dX8_root_56 : decode cX8_root 56 = .ok (.iconst 1, 1) := by decide +kernel
theorem dX8_root_57 : decode cX8_root 57 = .ok (.lshl, 1) := by decide +kernel
theorem dX8_root_58 : decode cX8_root 58 = .ok (.lstore 5, 2) := by decide +kernel
theorem dX8_root_60 : decode cX8_root 60 = .ok (.lconst 0, 1) := by decide +kernel
theorem dX8_root_61 : decode cX8_root 61 = .ok (.lstore 7, 2) := by decide +kernel
theorem dX8_root_63 : decode cX8_root 63 = .ok (.lconst 0, 1) := by decide +kernel
theorem dX8_root_64 : decode cX8_root 64 = .ok (.lstore 9, 2) := by decide +kernel
theorem dX8_root_66 : decode cX8_root 66 = .ok (.ldc2_w 160, 3) := by decide +kernel
theorem dX8_root_69 : decode cX8_root 69 = .ok (.lstore 11, 2) := by decide +kernel
theorem dX8_root_71 : decode cX8_root 71 = .ok (.lload 11, 2) := by decide +kernel
theorem dX8_root_73 : decode cX8_root 73 = .ok (.lconst 0, 1) := by decide +kernel
theorem dX8_root_74 : decode cX8_root 74 = .ok (.lcmp, 1) := by decide +kernel
theorem dX8_root_75 : decode cX8_root 75 = .ok (.ifCond .eq 54, 3) := by decide +kernel
theorem dX8_root_78 : decode cX8_root 78 = .ok (.lload 9, 2) := by decide +kernel
theorem dX8_root_80 : decode cX8_root 80 = .ok (.lload 11, 2) := by decide +kernel
theorem dX8_root_82 : decode cX8_root 82 = .ok (.ladd, 1) := by decide +kernel
theorem dX8_root_83 : decode cX8_root 83 = .ok (.lstore 13, 2) := by decide +kernel
theorem dX8_root_85 : decode cX8_root 85 = .ok (.lload 13, 2) := by decide +kernel
theorem dX8_root_87 : decode cX8_root 87 = .ok (.lload 5, 2) := by decide +kernel
theorem dX8_root_89 : decode cX8_root 89 = .ok (.lcmp, 1) := by decide +kernel
theorem dX8_root_90 : decode cX8_root 90 = .ok (.ifCond .gt 24, 3) := by decide +kernel
theorem dX8_root_93 : decode cX8_root 93 = .ok (.lload 13, 2) := by decide +kernel
theorem dX8_root_95 : decode cX8_root 95 = .ok (.lload 11, 2) := by decide +kernel
theorem dX8_root_97 : decode cX8_root 97 = .ok (.ladd, 1) := by decide +kernel
theorem dX8_root_98 : decode cX8_root 98 = .ok (.lstore 9, 2) := by decide +kernel
theorem dX8_root_100 : decode cX8_root 100 = .ok (.lload 5, 2) := by decide +kernel
theorem dX8_root_102 : decode cX8_root 102 = .ok (.lload 13, 2) := by decide +kernel
theorem dX8_root_104 : decode cX8_root 104 = .ok (.lsub, 1) := by decide +kernel
theorem dX8_root_105 : decode cX8_root 105 = .ok (.lstore 5, 2) := by decide +kernel
theorem dX8_root_107 : decode cX8_root 107 = .ok (.lload 7, 2) := by decide +kernel
theorem dX8_root_109 : decode cX8_root 109 = .ok (.lload 11, 2) := by decide +kernel
theorem dX8_root_111 : decode cX8_root 111 = .ok (.ladd, 1) := by decide +kernel
theorem dX8_root_112 : decode cX8_root 112 = .ok (.lstore 7, 2) := by decide +kernel
theorem dX8_root_114 : decode cX8_root 114 = .ok (.lload 5, 2) := by decide +kernel
theorem dX8_root_116 : decode cX8_root 116 = .ok (.iconst 1, 1) := by decide +kernel
theorem dX8_root_117 : decode cX8_root 117 = .ok (.lshl, 1) := by decide +kernel
theorem dX8_root_118 : decode cX8_root 118 = .ok (.lstore 5, 2) := by decide +kernel
theorem dX8_root_120 : decode cX8_root 120 = .ok (.lload 11, 2) := by decide +kernel
theorem dX8_root_122 : decode cX8_root 122 = .ok (.iconst 1, 1) := by decide +kernel
theorem dX8_root_123 : decode cX8_root 123 = .ok (.lshr, 1) := by decide +kernel
theorem dX8_root_124 : decode cX8_root 124 = .ok (.lstore 11, 2) := by decide +kernel
theorem dX8_root_126 : decode cX8_root 126 = .ok (.goto (-55), 3) := by decide +kernel
theorem dX8_root_129 : decode cX8_root 129 = .ok (.lload 5, 2) := by decide +kernel
theorem dX8_root_131 : decode cX8_root 131 = .ok (.lconst 0, 1) := by decide +kernel
theorem dX8_root_132 : decode cX8_root 132 = .ok (.lcmp, 1) := by decide +kernel
theorem dX8_root_133 : decode cX8_root 133 = .ok (.ifCond .eq 12, 3) := by decide +kernel
theorem dX8_root_136 : decode cX8_root 136 = .ok (.lload 7, 2) := by decide +kernel
theorem dX8_root_138 : decode cX8_root 138 = .ok (.lload 7, 2) := by decide +kernel
theorem dX8_root_140 : decode cX8_root 140 = .ok (.lconst 1, 1) := by decide +kernel
theorem dX8_root_141 : decode cX8_root 141 = .ok (.land, 1) := by decide +kernel
theorem dX8_root_142 : decode cX8_root 142 = .ok (.ladd, 1) := by decide +kernel
theorem dX8_root_143 : decode cX8_root 143 = .ok (.lstore 7, 2) := by decide +kernel
theorem dX8_root_145 : decode cX8_root 145 = .ok (.lload 7, 2) := by decide +kernel
theorem dX8_root_147 : decode cX8_root 147 = .ok (.iconst 1, 1) := by decide +kernel
theorem dX8_root_148 : decode cX8_root 148 = .ok (.lshr, 1) := by decide +kernel
theorem dX8_root_149 : decode cX8_root 149 = .ok (.ldc2_w 162, 3) := by decide +kernel
theorem dX8_root_152 : decode cX8_root 152 = .ok (.ladd, 1) := by decide +kernel
theorem dX8_root_153 : decode cX8_root 153 = .ok (.iload 4, 2) := by decide +kernel
theorem dX8_root_155 : decode cX8_root 155 = .ok (.i2l, 1) := by decide +kernel
theorem dX8_root_156 : decode cX8_root 156 = .ok (.bipush 52, 2) := by decide +kernel
theorem dX8_root_158 : decode cX8_root 158 = .ok (.lshl, 1) := by decide +kernel
theorem dX8_root_159 : decode cX8_root 159 = .ok (.ladd, 1) := by decide +kernel
theorem dX8_root_160 : decode cX8_root 160 = .ok (.invokestatic 137, 3) := by decide +kernel
theorem dX8_root_163 : decode cX8_root 163 = .ok (.dreturn, 1) := by decide +kernel
theorem dX8_begin_0 : decode cX8_begin 0 = .ok (.aload_n 0, 1) := by decide +kernel
theorem dX8_begin_1 : decode cX8_begin 1 = .ok (.getfield 60, 3) := by decide +kernel
theorem dX8_begin_4 : decode cX8_begin 4 = .ok (.aload_n 0, 1) := by decide +kernel
theorem dX8_begin_5 : decode cX8_begin 5 = .ok (.getfield 164, 3) := by decide +kernel
theorem dX8_begin_8 : decode cX8_begin 8 = .ok (.iload_n 1, 1) := by decide +kernel
theorem dX8_begin_9 : decode cX8_begin 9 = .ok (.iastore, 1) := by decide +kernel
theorem dX8_begin_10 : decode cX8_begin 10 = .ok (.aload_n 0, 1) := by decide +kernel
theorem dX8_begin_11 : decode cX8_begin 11 = .ok (.getfield 63, 3) := by decide +kernel
theorem dX8_begin_14 : decode cX8_begin 14 = .ok (.aload_n 0, 1) := by decide +kernel
theorem dX8_begin_15 : decode cX8_begin 15 = .ok (.getfield 164, 3) := by decide +kernel
theorem dX8_begin_18 : decode cX8_begin 18 = .ok (.iconst 0, 1) := by decide +kernel
theorem dX8_begin_19 : decode cX8_begin 19 = .ok (.iastore, 1) := by decide +kernel
theorem dX8_begin_20 : decode cX8_begin 20 = .ok (.aload_n 0, 1) := by decide +kernel
theorem dX8_begin_21 : decode cX8_begin 21 = .ok (.getfield 66, 3) := by decide +kernel
theorem dX8_begin_24 : decode cX8_begin 24 = .ok (.aload_n 0, 1) := by decide +kernel
theorem dX8_begin_25 : decode cX8_begin 25 = .ok (.getfield 164, 3) := by decide +kernel
theorem dX8_begin_28 : decode cX8_begin 28 = .ok (.aload_n 0, 1) := by decide +kernel
theorem dX8_begin_29 : decode cX8_begin 29 = .ok (.getfield 27, 3) := by decide +kernel
theorem dX8_begin_32 : decode cX8_begin 32 = .ok (.iload_n 1, 1) := by decide +kernel
theorem dX8_begin_33 : decode cX8_begin 33 = .ok (.iaload, 1) := by decide +kernel
theorem dX8_begin_34 : decode cX8_begin 34 = .ok (.bipush 7, 2) := by decide +kernel
theorem dX8_begin_36 : decode cX8_begin 36 = .ok (.if_icmp .ne 7, 3) := by decide +kernel
theorem dX8_begin_39 : decode cX8_begin 39 = .ok (.dconst 1, 1) := by decide +kernel
theorem dX8_begin_40 : decode cX8_begin 40 = .ok (.goto 4, 3) := by decide +kernel
theorem dX8_begin_43 : decode cX8_begin 43 = .ok (.dconst 0, 1) := by decide +kernel
theorem dX8_begin_44 : decode cX8_begin 44 = .ok (.dastore, 1) := by decide +kernel
theorem dX8_begin_45 : decode cX8_begin 45 = .ok (.aload_n 0, 1) := by decide +kernel
theorem dX8_begin_46 : decode cX8_begin 46 = .ok (.getfield 69, 3) := by decide +kernel
theorem dX8_begin_49 : decode cX8_begin 49 = .ok (.aload_n 0, 1) := by decide +kernel
theorem dX8_begin_50 : decode cX8_begin 50 = .ok (.getfield 164, 3) := by decide +kernel
theorem dX8_begin_53 : decode cX8_begin 53 = .ok (.dconst 0, 1) := by decide +kernel
theorem dX8_begin_54 : decode cX8_begin 54 = .ok (.dastore, 1) := by decide +kernel
theorem dX8_begin_55 : decode cX8_begin 55 = .ok (.aload_n 0, 1) := by decide +kernel
theorem dX8_begin_56 : decode cX8_begin 56 = .ok (.dup, 1) := by decide +kernel
theorem dX8_begin_57 : decode cX8_begin 57 = .ok (.getfield 164, 3) := by decide +kernel
theorem dX8_begin_60 : decode cX8_begin 60 = .ok (.iconst 1, 1) := by decide +kernel
theorem dX8_begin_61 : decode cX8_begin 61 = .ok (.iadd, 1) := by decide +kernel
theorem dX8_begin_62 : decode cX8_begin 62 = .ok (.putfield 164, 3) := by decide +kernel
theorem dX8_begin_65 : decode cX8_begin 65 = .ok (.aload_n 0, 1) := by decide +kernel
theorem dX8_begin_66 : decode cX8_begin 66 = .ok (.dup, 1) := by decide +kernel
theorem dX8_begin_67 : decode cX8_begin 67 = .ok (.getfield 167, 3) := by decide +kernel
theorem dX8_begin_70 : decode cX8_begin 70 = .ok (.iconst 1, 1) := by decide +kernel
theorem dX8_begin_71 : decode cX8_begin 71 = .ok (.iadd, 1) := by decide +kernel
theorem dX8_begin_72 : decode cX8_begin 72 = .ok (.putfield 167, 3) := by decide +kernel
theorem dX8_begin_75 : decode cX8_begin 75 = .ok (.aload_n 0, 1) := by decide +kernel
theorem dX8_begin_76 : decode cX8_begin 76 = .ok (.aload_n 0, 1) := by decide +kernel
theorem dX8_begin_77 : decode cX8_begin 77 = .ok (.getfield 164, 3) := by decide +kernel
theorem dX8_begin_80 : decode cX8_begin 80 = .ok (.aload_n 0, 1) := by decide +kernel
theorem dX8_begin_81 : decode cX8_begin 81 = .ok (.getfield 170, 3) := by decide +kernel
theorem dX8_begin_84 : decode cX8_begin 84 = .ok (.if_icmp .le 10, 3) := by decide +kernel
theorem dX8_begin_87 : decode cX8_begin 87 = .ok (.aload_n 0, 1) := by decide +kernel
theorem dX8_begin_88 : decode cX8_begin 88 = .ok (.getfield 164, 3) := by decide +kernel
theorem dX8_begin_91 : decode cX8_begin 91 = .ok (.goto 7, 3) := by decide +kernel
theorem dX8_begin_94 : decode cX8_begin 94 = .ok (.aload_n 0, 1) := by decide +kernel
theorem dX8_begin_95 : decode cX8_begin 95 = .ok (.getfield 170, 3) := by decide +kernel
theorem dX8_begin_98 : decode cX8_begin 98 = .ok (.putfield 170, 3) := by decide +kernel
theorem dX8_begin_101 : decode cX8_begin 101 = .ok (.return_, 1) := by decide +kernel
theorem dX8_worked_0 : decode cX8_worked 0 = .ok (.aload_n 0, 1) := by decide +kernel
theorem dX8_worked_1 : decode cX8_worked 1 = .ok (.getfield 27, 3) := by decide +kernel
theorem dX8_worked_4 : decode cX8_worked 4 = .ok (.iload_n 2, 1) := by decide +kernel
theorem dX8_worked_5 : decode cX8_worked 5 = .ok (.iaload, 1) := by decide +kernel
theorem dX8_worked_6 : decode cX8_worked 6 = .ok (.istore 7, 2) := by decide +kernel
theorem dX8_worked_8 : decode cX8_worked 8 = .ok (.aload_n 0, 1) := by decide +kernel
theorem dX8_worked_9 : decode cX8_worked 9 = .ok (.getfield 33, 3) := by decide +kernel
theorem dX8_worked_12 : decode cX8_worked 12 = .ok (.iload_n 2, 1) := by decide +kernel
theorem dX8_worked_13 : decode cX8_worked 13 = .ok (.daload, 1) := by decide +kernel
theorem dX8_worked_14 : decode cX8_worked 14 = .ok (.dstore 8, 2) := by decide +kernel
theorem dX8_worked_16 : decode cX8_worked 16 = .ok (.aload_n 0, 1) := by decide +kernel
theorem dX8_worked_17 : decode cX8_worked 17 = .ok (.getfield 36, 3) := by decide +kernel
theorem dX8_worked_20 : decode cX8_worked 20 = .ok (.iload_n 2, 1) := by decide +kernel
theorem dX8_worked_21 : decode cX8_worked 21 = .ok (.daload, 1) := by decide +kernel
theorem dX8_worked_22 : decode cX8_worked 22 = .ok (.dstore 10, 2) := by decide +kernel
theorem dX8_worked_24 : decode cX8_worked 24 = .ok (.iconst 4, 1) := by decide +kernel
theorem dX8_worked_25 : decode cX8_worked 25 = .ok (.iload_n 1, 1) := by decide +kernel
theorem dX8_worked_26 : decode cX8_worked 26 = .ok (.imul, 1) := by decide +kernel
theorem dX8_worked_27 : decode cX8_worked 27 = .ok (.iload 7, 2) := by decide +kernel
theorem dX8_worked_29 : decode cX8_worked 29 = .ok (.iconst 1, 1) := by decide +kernel
theorem dX8_worked_30 : decode cX8_worked 30 = .ok (.iconst 5, 1) := by decide +kernel
theorem dX8_worked_31 : decode cX8_worked 31 = .ok (.invokestatic 89, 3) := by decide +kernel
theorem dX8_worked_34 : decode cX8_worked 34 = .ok (.ifCond .eq 12, 3) := by decide +kernel
theorem dX8_worked_37 : decode cX8_worked 37 = .ok (.aload_n 0, 1) := by decide +kernel
theorem dX8_worked_38 : decode cX8_worked 38 = .ok (.getfield 30, 3) := by decide +kernel
theorem dX8_worked_41 : decode cX8_worked 41 = .ok (.iload_n 2, 1) := by decide +kernel
theorem dX8_worked_42 : decode cX8_worked 42 = .ok (.iaload, 1) := by decide +kernel
theorem dX8_worked_43 : decode cX8_worked 43 = .ok (.goto 4, 3) := by decide +kernel
theorem dX8_worked_46 : decode cX8_worked 46 = .ok (.iconst 0, 1) := by decide +kernel
theorem dX8_worked_47 : decode cX8_worked 47 = .ok (.iadd, 1) := by decide +kernel
theorem dX8_worked_48 : decode cX8_worked 48 = .ok (.istore 12, 2) := by decide +kernel
theorem dX8_worked_50 : decode cX8_worked 50 = .ok (.aload_n 0, 1) := by decide +kernel
theorem dX8_worked_51 : decode cX8_worked 51 = .ok (.getfield 7, 3) := by decide +kernel
theorem dX8_worked_54 : decode cX8_worked 54 = .ok (.iload 12, 2) := by decide +kernel
theorem dX8_worked_56 : decode cX8_worked 56 = .ok (.iaload, 1) := by decide +kernel
theorem dX8_worked_57 : decode cX8_worked 57 = .ok (.i2d, 1) := by decide +kernel
theorem dX8_worked_58 : decode cX8_worked 58 = .ok (.dstore 13, 2) := by decide +kernel
theorem dX8_worked_60 : decode cX8_worked 60 = .ok (.iload 7, 2) := by decide +kernel
theorem dX8_worked_62 : decode cX8_worked 62 = .ok (.iconst 3, 1) := by decide +kernel
theorem dX8_worked_63 : decode cX8_worked 63 = .ok (.if_icmp .ge 30, 3) := by decide +kernel
theorem dX8_worked_66 : decode cX8_worked 66 = .ok (.iload 7, 2) := by decide +kernel
theorem dX8_worked_68 : decode cX8_worked 68 = .ok (.ifCond .ne 8, 3) := by decide +kernel
theorem dX8_worked_71 : decode cX8_worked 71 = .ok (.dload 8, 2) := by decide +kernel
theorem dX8_worked_73 : decode cX8_worked 73 = .ok (.goto 19, 3) := by decide +kernel
theorem dX8_worked_76 : decode cX8_worked 76 = .ok (.iload 7, 2) := by decide +kernel
theorem dX8_worked_78 : decode cX8_worked 78 = .ok (.iconst 1, 1) := by decide +kernel
theorem dX8_worked_79 : decode cX8_worked 79 = .ok (.if_icmp .ne 8, 3) := by decide +kernel
theorem dX8_worked_82 : decode cX8_worked 82 = .ok (.dload 13, 2) := by decide +kernel
theorem dX8_worked_84 : decode cX8_worked 84 = .ok (.goto 8, 3) := by decide +kernel
theorem dX8_worked_87 : decode cX8_worked 87 = .ok (.dload 13, 2) := by decide +kernel
theorem dX8_worked_89 : decode cX8_worked 89 = .ok (.invokestatic 173, 3) := by decide +kernel
theorem dX8_worked_92 : decode cX8_worked 92 = .ok (.dreturn, 1) := by decide +kernel
theorem dX8_worked_93 : decode cX8_worked 93 = .ok (.iload 7, 2) := by decide +kernel
theorem dX8_worked_95 : decode cX8_worked 95 = .ok (.iconst 3, 1) := by decide +kernel
theorem dX8_worked_96 : decode cX8_worked 96 = .ok (.if_icmp .ne 16, 3) := by decide +kernel
theorem dX8_worked_99 : decode cX8_worked 99 = .ok (.dload 13, 2) := by decide +kernel
theorem dX8_worked_101 : decode cX8_worked 101 = .ok (.dload 13, 2) := by decide +kernel
theorem dX8_worked_103 : decode cX8_worked 103 = .ok (.dload 8, 2) := by decide +kernel
theorem dX8_worked_105 : decode cX8_worked 105 = .ok (.invokestatic 177, 3) := by decide +kernel
theorem dX8_worked_108 : decode cX8_worked 108 = .ok (.invokestatic 105, 3) := by decide +kernel
theorem dX8_worked_111 : decode cX8_worked 111 = .ok (.dreturn, 1) := by decide +kernel
theorem dX8_worked_112 : decode cX8_worked 112 = .ok (.iload 7, 2) := by decide +kernel
theorem dX8_worked_114 : decode cX8_worked 114 = .ok (.iconst 4, 1) := by decide +kernel
theorem dX8_worked_115 : decode cX8_worked 115 = .ok (.if_icmp .ne 77, 3) := by decide +kernel
theorem dX8_worked_118 : decode cX8_worked 118 = .ok (.aload_n 0, 1) := by decide +kernel
theorem dX8_worked_119 : decode cX8_worked 119 = .ok (.getfield 13, 3) := by decide +kernel
theorem dX8_worked_122 : decode cX8_worked 122 = .ok (.iload 12, 2) := by decide +kernel
theorem dX8_worked_124 : decode cX8_worked 124 = .ok (.iaload, 1) := by decide +kernel
theorem dX8_worked_125 : decode cX8_worked 125 = .ok (.invokestatic 102, 3) := by decide +kernel
theorem dX8_worked_128 : decode cX8_worked 128 = .ok (.invokestatic 98, 3) := by decide +kernel
theorem dX8_worked_131 : decode cX8_worked 131 = .ok (.i2d, 1) := by decide +kernel
theorem dX8_worked_132 : decode cX8_worked 132 = .ok (.dstore 15, 2) := by decide +kernel
theorem dX8_worked_134 : decode cX8_worked 134 = .ok (.dconst 1, 1) := by decide +kernel
theorem dX8_worked_135 : decode cX8_worked 135 = .ok (.dload 10, 2) := by decide +kernel
theorem dX8_worked_137 : decode cX8_worked 137 = .ok (.invokestatic 180, 3) := by decide +kernel
theorem dX8_worked_140 : decode cX8_worked 140 = .ok (.dload 10, 2) := by decide +kernel
theorem dX8_worked_142 : decode cX8_worked 142 = .ok (.dload 15, 2) := by decide +kernel
theorem dX8_worked_144 : decode cX8_worked 144 = .ok (.aload_n 0, 1) := by decide +kernel
theorem dX8_worked_145 : decode cX8_worked 145 = .ok (.aload_n 0, 1) := by decide +kernel
theorem dX8_worked_146 : decode cX8_worked 146 = .ok (.getfield 30, 3) := by decide +kernel
theorem dX8_worked_149 : decode cX8_worked 149 = .ok (.iload_n 2, 1) := by decide +kernel
theorem dX8_worked_150 : decode cX8_worked 150 = .ok (.iaload, 1) := by decide +kernel
theorem dX8_worked_151 : decode cX8_worked 151 = .ok (.invokevirtual 109, 3) := by decide +kernel
theorem dX8_worked_154 : decode cX8_worked 154 = .ok (.invokestatic 105, 3) := by decide +kernel
theorem dX8_worked_157 : decode cX8_worked 157 = .ok (.invokestatic 183, 3) := by decide +kernel
theorem dX8_worked_160 : decode cX8_worked 160 = .ok (.invokestatic 177, 3) := by decide +kernel
theorem dX8_worked_163 : decode cX8_worked 163 = .ok (.dstore 17, 2) := by decide +kernel
theorem dX8_worked_165 : decode cX8_worked 165 = .ok (.dload 13, 2) := by decide +kernel
theorem dX8_worked_167 : decode cX8_worked 167 = .ok (.dload 8, 2) := by decide +kernel
theorem dX8_worked_169 : decode cX8_worked 169 = .ok (.dconst 1, 1) := by decide +kernel
theorem dX8_worked_170 : decode cX8_worked 170 = .ok (.invokestatic 177, 3) := by decide +kernel
theorem dX8_worked_173 : decode cX8_worked 173 = .ok (.invokestatic 183, 3) := by decide +kernel
theorem dX8_worked_176 : decode cX8_worked 176 = .ok (.dload 13, 2) := by decide +kernel
theorem dX8_worked_178 : decode cX8_worked 178 = .ok (.dload 8, 2) := by decide +kernel
theorem dX8_worked_180 : decode cX8_worked 180 = .ok (.dload 17, 2) := by decide +kernel
theorem dX8_worked_182 : decode cX8_worked 182 = .ok (.invokestatic 183, 3) := by decide +kernel
theorem dX8_worked_185 : decode cX8_worked 185 = .ok (.invokestatic 177, 3) := by decide +kernel
theorem dX8_worked_188 : decode cX8_worked 188 = .ok (.invokestatic 105, 3) := by decide +kernel
theorem dX8_worked_191 : decode cX8_worked 191 = .ok (.dreturn, 1) := by decide +kernel
theorem dX8_worked_192 : decode cX8_worked 192 = .ok (.iload 7, 2) := by decide +kernel
theorem dX8_worked_194 : decode cX8_worked 194 = .ok (.iconst 5, 1) := by decide +kernel
theorem dX8_worked_195 : decode cX8_worked 195 = .ok (.if_icmp .ne 11, 3) := by decide +kernel
theorem dX8_worked_198 : decode cX8_worked 198 = .ok (.aload_n 0, 1) := by decide +kernel
theorem dX8_worked_199 : decode cX8_worked 199 = .ok (.getfield 16, 3) := by decide +kernel
theorem dX8_worked_202 : decode cX8_worked 202 = .ok (.iload 12, 2) := by decide +kernel
theorem dX8_worked_204 : decode cX8_worked 204 = .ok (.daload, 1) := by decide +kernel
theorem dX8_worked_205 : decode cX8_worked 205 = .ok (.dreturn, 1) := by decide +kernel
theorem dX8_worked_206 : decode cX8_worked 206 = .ok (.iload 7, 2) := by decide +kernel
theorem dX8_worked_208 : decode cX8_worked 208 = .ok (.bipush 8, 2) := by decide +kernel
theorem dX8_worked_210 : decode cX8_worked 210 = .ok (.if_icmp .ne 20, 3) := by decide +kernel
theorem dX8_worked_213 : decode cX8_worked 213 = .ok (.dload 5, 2) := by decide +kernel
theorem dX8_worked_215 : decode cX8_worked 215 = .ok (.dload 8, 2) := by decide +kernel
theorem dX8_worked_217 : decode cX8_worked 217 = .ok (.dload_n 3, 1) := by decide +kernel
theorem dX8_worked_218 : decode cX8_worked 218 = .ok (.dload 5, 2) := by decide +kernel
theorem dX8_worked_220 : decode cX8_worked 220 = .ok (.invokestatic 180, 3) := by decide +kernel
theorem dX8_worked_223 : decode cX8_worked 223 = .ok (.invokestatic 183, 3) := by decide +kernel
theorem dX8_worked_226 : decode cX8_worked 226 = .ok (.invokestatic 177, 3) := by decide +kernel
theorem dX8_worked_229 : decode cX8_worked 229 = .ok (.dreturn, 1) := by decide +kernel
theorem dX8_worked_230 : decode cX8_worked 230 = .ok (.iload 7, 2) := by decide +kernel
theorem dX8_worked_232 : decode cX8_worked 232 = .ok (.bipush 9, 2) := by decide +kernel
theorem dX8_worked_234 : decode cX8_worked 234 = .ok (.if_icmp .ne 10, 3) := by decide +kernel
theorem dX8_worked_237 : decode cX8_worked 237 = .ok (.dload 8, 2) := by decide +kernel
theorem dX8_worked_239 : decode cX8_worked 239 = .ok (.dload_n 3, 1) := by decide +kernel
theorem dX8_worked_240 : decode cX8_worked 240 = .ok (.invokestatic 183, 3) := by decide +kernel
theorem dX8_worked_243 : decode cX8_worked 243 = .ok (.dreturn, 1) := by decide +kernel
theorem dX8_worked_244 : decode cX8_worked 244 = .ok (.iload 7, 2) := by decide +kernel
theorem dX8_worked_246 : decode cX8_worked 246 = .ok (.bipush 10, 2) := by decide +kernel
theorem dX8_worked_248 : decode cX8_worked 248 = .ok (.if_icmp .ne 46, 3) := by decide +kernel
theorem dX8_worked_251 : decode cX8_worked 251 = .ok (.dload_n 3, 1) := by decide +kernel
theorem dX8_worked_252 : decode cX8_worked 252 = .ok (.dload 8, 2) := by decide +kernel
theorem dX8_worked_254 : decode cX8_worked 254 = .ok (.invokestatic 180, 3) := by decide +kernel
theorem dX8_worked_257 : decode cX8_worked 257 = .ok (.dstore 15, 2) := by decide +kernel
theorem dX8_worked_259 : decode cX8_worked 259 = .ok (.dload 15, 2) := by decide +kernel
theorem dX8_worked_261 : decode cX8_worked 261 = .ok (.dconst 0, 1) := by decide +kernel
theorem dX8_worked_262 : decode cX8_worked 262 = .ok (.dcmp .g, 1) := by decide +kernel
theorem dX8_worked_263 : decode cX8_worked 263 = .ok (.ifCond .gt 10, 3) := by decide +kernel
theorem dX8_worked_266 : decode cX8_worked 266 = .ok (.dconst 0, 1) := by decide +kernel
theorem dX8_worked_267 : decode cX8_worked 267 = .ok (.dload 15, 2) := by decide +kernel
theorem dX8_worked_269 : decode cX8_worked 269 = .ok (.dsub, 1) := by decide +kernel
theorem dX8_worked_270 : decode cX8_worked 270 = .ok (.goto 5, 3) := by decide +kernel
theorem dX8_worked_273 : decode cX8_worked 273 = .ok (.dload 15, 2) := by decide +kernel
theorem dX8_worked_275 : decode cX8_worked 275 = .ok (.dstore 15, 2) := by decide +kernel
theorem dX8_worked_277 : decode cX8_worked 277 = .ok (.dconst 0, 1) := by decide +kernel
theorem dX8_worked_278 : decode cX8_worked 278 = .ok (.dload 10, 2) := by decide +kernel
theorem dX8_worked_280 : decode cX8_worked 280 = .ok (.dload 15, 2) := by decide +kernel
theorem dX8_worked_282 : decode cX8_worked 282 = .ok (.invokestatic 180, 3) := by decide +kernel
theorem dX8_worked_285 : decode cX8_worked 285 = .ok (.dload 10, 2) := by decide +kernel
theorem dX8_worked_287 : decode cX8_worked 287 = .ok (.invokestatic 105, 3) := by decide +kernel
theorem dX8_worked_290 : decode cX8_worked 290 = .ok (.invokestatic 186, 3) := by decide +kernel
theorem dX8_worked_293 : decode cX8_worked 293 = .ok (.dreturn, 1) := by decide +kernel
theorem dX8_worked_294 : decode cX8_worked 294 = .ok (.iload 7, 2) := by decide +kernel
theorem dX8_worked_296 : decode cX8_worked 296 = .ok (.bipush 11, 2) := by decide +kernel
theorem dX8_worked_298 : decode cX8_worked 298 = .ok (.if_icmp .ne 32, 3) := by decide +kernel
theorem dX8_worked_301 : decode cX8_worked 301 = .ok (.dload_n 3, 1) := by decide +kernel
theorem dX8_worked_302 : decode cX8_worked 302 = .ok (.dload 8, 2) := by decide +kernel
theorem dX8_worked_304 : decode cX8_worked 304 = .ok (.invokestatic 180, 3) := by decide +kernel
theorem dX8_worked_307 : decode cX8_worked 307 = .ok (.dload 10, 2) := by decide +kernel
theorem dX8_worked_309 : decode cX8_worked 309 = .ok (.invokestatic 105, 3) := by decide +kernel
theorem dX8_worked_312 : decode cX8_worked 312 = .ok (.dstore 15, 2) := by decide +kernel
theorem dX8_worked_314 : decode cX8_worked 314 = .ok (.dconst 1, 1) := by decide +kernel
theorem dX8_worked_315 : decode cX8_worked 315 = .ok (.dconst 1, 1) := by decide +kernel
theorem dX8_worked_316 : decode cX8_worked 316 = .ok (.dload 15, 2) := by decide +kernel
theorem dX8_worked_318 : decode cX8_worked 318 = .ok (.dload 15, 2) := by decide +kernel
theorem dX8_worked_320 : decode cX8_worked 320 = .ok (.invokestatic 183, 3) := by decide +kernel
theorem dX8_worked_323 : decode cX8_worked 323 = .ok (.invokestatic 177, 3) := by decide +kernel
theorem dX8_worked_326 : decode cX8_worked 326 = .ok (.invokestatic 105, 3) := by decide +kernel
theorem dX8_worked_329 : decode cX8_worked 329 = .ok (.dreturn, 1) := by decide +kernel
theorem dX8_worked_330 : decode cX8_worked 330 = .ok (.iload 7, 2) := by decide +kernel
theorem dX8_worked_332 : decode cX8_worked 332 = .ok (.bipush 12, 2) := by decide +kernel
theorem dX8_worked_334 : decode cX8_worked 334 = .ok (.if_icmp .ne 10, 3) := by decide +kernel
theorem dX8_worked_337 : decode cX8_worked 337 = .ok (.dload_n 3, 1) := by decide +kernel
theorem dX8_worked_338 : decode cX8_worked 338 = .ok (.invokestatic 189, 3) := by decide +kernel
theorem dX8_worked_341 : decode cX8_worked 341 = .ok (.goto 4, 3) := by decide +kernel
theorem dX8_worked_344 : decode cX8_worked 344 = .ok (.dload_n 3, 1) := by decide +kernel
theorem dX8_worked_345 : decode cX8_worked 345 = .ok (.dreturn, 1) := by decide +kernel
theorem dX8_give_0 : decode cX8_give 0 = .ok (.aload_n 0, 1) := by decide +kernel
theorem dX8_give_1 : decode cX8_give 1 = .ok (.dup, 1) := by decide +kernel
theorem dX8_give_2 : decode cX8_give 2 = .ok (.getfield 164, 3) := by decide +kernel
theorem dX8_give_5 : decode cX8_give 5 = .ok (.iconst 1, 1) := by decide +kernel
theorem dX8_give_6 : decode cX8_give 6 = .ok (.isub, 1) := by decide +kernel
