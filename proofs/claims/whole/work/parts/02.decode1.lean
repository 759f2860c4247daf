theorem dX5_product_28 : decode cX5_product 28 = .ok (.dstore_n 3, 1) := by decide +kernel
theorem dX5_product_29 : decode cX5_product 29 = .ok (.iinc 5 1, 3) := by decide +kernel
theorem dX5_product_32 : decode cX5_product 32 = .ok (.goto (-27), 3) := by decide +kernel
theorem dX5_product_35 : decode cX5_product 35 = .ok (.dload_n 3, 1) := by decide +kernel
theorem dX5_product_36 : decode cX5_product 36 = .ok (.dreturn, 1) := by decide +kernel
theorem dX5_best_0 : decode cX5_best 0 = .ok (.aload_n 0, 1) := by decide +kernel
theorem dX5_best_1 : decode cX5_best 1 = .ok (.getfield 22, 3) := by decide +kernel
theorem dX5_best_4 : decode cX5_best 4 = .ok (.iload_n 1, 1) := by decide +kernel
theorem dX5_best_5 : decode cX5_best 5 = .ok (.daload, 1) := by decide +kernel
theorem dX5_best_6 : decode cX5_best 6 = .ok (.dstore 5, 2) := by decide +kernel
theorem dX5_best_8 : decode cX5_best 8 = .ok (.dconst 0, 1) := by decide +kernel
theorem dX5_best_9 : decode cX5_best 9 = .ok (.dstore 7, 2) := by decide +kernel
theorem dX5_best_11 : decode cX5_best 11 = .ok (.iconst 0, 1) := by decide +kernel
theorem dX5_best_12 : decode cX5_best 12 = .ok (.istore 9, 2) := by decide +kernel
theorem dX5_best_14 : decode cX5_best 14 = .ok (.iload 9, 2) := by decide +kernel
theorem dX5_best_16 : decode cX5_best 16 = .ok (.iload_n 2, 1) := by decide +kernel
theorem dX5_best_17 : decode cX5_best 17 = .ok (.if_icmp .ge 45, 3) := by decide +kernel
theorem dX5_best_20 : decode cX5_best 20 = .ok (.dload 5, 2) := by decide +kernel
theorem dX5_best_22 : decode cX5_best 22 = .ok (.aload_n 0, 1) := by decide +kernel
theorem dX5_best_23 : decode cX5_best 23 = .ok (.getfield 22, 3) := by decide +kernel
theorem dX5_best_26 : decode cX5_best 26 = .ok (.iload_n 1, 1) := by decide +kernel
theorem dX5_best_27 : decode cX5_best 27 = .ok (.iload 9, 2) := by decide +kernel
theorem dX5_best_29 : decode cX5_best 29 = .ok (.iadd, 1) := by decide +kernel
theorem dX5_best_30 : decode cX5_best 30 = .ok (.daload, 1) := by decide +kernel
theorem dX5_best_31 : decode cX5_best 31 = .ok (.invokestatic 183, 3) := by decide +kernel
theorem dX5_best_34 : decode cX5_best 34 = .ok (.dstore 5, 2) := by decide +kernel
theorem dX5_best_36 : decode cX5_best 36 = .ok (.aload_n 0, 1) := by decide +kernel
theorem dX5_best_37 : decode cX5_best 37 = .ok (.getfield 18, 3) := by decide +kernel
theorem dX5_best_40 : decode cX5_best 40 = .ok (.dload 7, 2) := by decide +kernel
theorem dX5_best_42 : decode cX5_best 42 = .ok (.aload_n 0, 1) := by decide +kernel
theorem dX5_best_43 : decode cX5_best 43 = .ok (.getfield 22, 3) := by decide +kernel
theorem dX5_best_46 : decode cX5_best 46 = .ok (.iload_n 1, 1) := by decide +kernel
theorem dX5_best_47 : decode cX5_best 47 = .ok (.iload 9, 2) := by decide +kernel
theorem dX5_best_49 : decode cX5_best 49 = .ok (.iadd, 1) := by decide +kernel
theorem dX5_best_50 : decode cX5_best 50 = .ok (.daload, 1) := by decide +kernel
theorem dX5_best_51 : decode cX5_best 51 = .ok (.invokevirtual 165, 3) := by decide +kernel
theorem dX5_best_54 : decode cX5_best 54 = .ok (.dstore 7, 2) := by decide +kernel
theorem dX5_best_56 : decode cX5_best 56 = .ok (.iinc 9 1, 3) := by decide +kernel
theorem dX5_best_59 : decode cX5_best 59 = .ok (.goto (-45), 3) := by decide +kernel
theorem dX5_best_62 : decode cX5_best 62 = .ok (.aload_n 0, 1) := by decide +kernel
theorem dX5_best_63 : decode cX5_best 63 = .ok (.getfield 18, 3) := by decide +kernel
theorem dX5_best_66 : decode cX5_best 66 = .ok (.dload 5, 2) := by decide +kernel
theorem dX5_best_68 : decode cX5_best 68 = .ok (.aload_n 0, 1) := by decide +kernel
theorem dX5_best_69 : decode cX5_best 69 = .ok (.getfield 18, 3) := by decide +kernel
theorem dX5_best_72 : decode cX5_best 72 = .ok (.dload_n 3, 1) := by decide +kernel
theorem dX5_best_73 : decode cX5_best 73 = .ok (.aload_n 0, 1) := by decide +kernel
theorem dX5_best_74 : decode cX5_best 74 = .ok (.getfield 18, 3) := by decide +kernel
theorem dX5_best_77 : decode cX5_best 77 = .ok (.dload 7, 2) := by decide +kernel
theorem dX5_best_79 : decode cX5_best 79 = .ok (.dload 5, 2) := by decide +kernel
theorem dX5_best_81 : decode cX5_best 81 = .ok (.invokevirtual 180, 3) := by decide +kernel
theorem dX5_best_84 : decode cX5_best 84 = .ok (.invokevirtual 139, 3) := by decide +kernel
theorem dX5_best_87 : decode cX5_best 87 = .ok (.invokevirtual 165, 3) := by decide +kernel
theorem dX5_best_90 : decode cX5_best 90 = .ok (.dreturn, 1) := by decide +kernel
theorem dX5_decay_0 : decode cX5_decay 0 = .ok (.aload_n 0, 1) := by decide +kernel
theorem dX5_decay_1 : decode cX5_decay 1 = .ok (.getfield 18, 3) := by decide +kernel
theorem dX5_decay_4 : decode cX5_decay 4 = .ok (.dload_n 1, 1) := by decide +kernel
theorem dX5_decay_5 : decode cX5_decay 5 = .ok (.dload_n 3, 1) := by decide +kernel
theorem dX5_decay_6 : decode cX5_decay 6 = .ok (.invokevirtual 180, 3) := by decide +kernel
theorem dX5_decay_9 : decode cX5_decay 9 = .ok (.invokestatic 186, 3) := by decide +kernel
theorem dX5_decay_12 : decode cX5_decay 12 = .ok (.dstore 7, 2) := by decide +kernel
theorem dX5_decay_14 : decode cX5_decay 14 = .ok (.aload_n 0, 1) := by decide +kernel
theorem dX5_decay_15 : decode cX5_decay 15 = .ok (.getfield 18, 3) := by decide +kernel
theorem dX5_decay_18 : decode cX5_decay 18 = .ok (.aload_n 0, 1) := by decide +kernel
theorem dX5_decay_19 : decode cX5_decay 19 = .ok (.getfield 18, 3) := by decide +kernel
theorem dX5_decay_22 : decode cX5_decay 22 = .ok (.dload 5, 2) := by decide +kernel
theorem dX5_decay_24 : decode cX5_decay 24 = .ok (.dload 7, 2) := by decide +kernel
theorem dX5_decay_26 : decode cX5_decay 26 = .ok (.invokevirtual 180, 3) := by decide +kernel
theorem dX5_decay_29 : decode cX5_decay 29 = .ok (.dload 5, 2) := by decide +kernel
theorem dX5_decay_31 : decode cX5_decay 31 = .ok (.invokevirtual 168, 3) := by decide +kernel
theorem dX5_decay_34 : decode cX5_decay 34 = .ok (.dstore 9, 2) := by decide +kernel
theorem dX5_decay_36 : decode cX5_decay 36 = .ok (.dload 9, 2) := by decide +kernel
theorem dX5_decay_38 : decode cX5_decay 38 = .ok (.dconst 0, 1) := by decide +kernel
theorem dX5_decay_39 : decode cX5_decay 39 = .ok (.dcmp .l, 1) := by decide +kernel
theorem dX5_decay_40 : decode cX5_decay 40 = .ok (.ifCond .le 8, 3) := by decide +kernel
theorem dX5_decay_43 : decode cX5_decay 43 = .ok (.dload 9, 2) := by decide +kernel
theorem dX5_decay_45 : decode cX5_decay 45 = .ok (.goto 4, 3) := by decide +kernel
theorem dX5_decay_48 : decode cX5_decay 48 = .ok (.dconst 0, 1) := by decide +kernel
theorem dX5_decay_49 : decode cX5_decay 49 = .ok (.dreturn, 1) := by decide +kernel
theorem dX5_near_0 : decode cX5_near 0 = .ok (.aload_n 0, 1) := by decide +kernel
theorem dX5_near_1 : decode cX5_near 1 = .ok (.getfield 18, 3) := by decide +kernel
theorem dX5_near_4 : decode cX5_near 4 = .ok (.aload_n 0, 1) := by decide +kernel
theorem dX5_near_5 : decode cX5_near 5 = .ok (.getfield 18, 3) := by decide +kernel
theorem dX5_near_8 : decode cX5_near 8 = .ok (.dload_n 1, 1) := by decide +kernel
theorem dX5_near_9 : decode cX5_near 9 = .ok (.dload_n 3, 1) := by decide +kernel
theorem dX5_near_10 : decode cX5_near 10 = .ok (.invokevirtual 180, 3) := by decide +kernel
theorem dX5_near_13 : decode cX5_near 13 = .ok (.dload 5, 2) := by decide +kernel
theorem dX5_near_15 : decode cX5_near 15 = .ok (.invokevirtual 168, 3) := by decide +kernel
theorem dX5_near_18 : decode cX5_near 18 = .ok (.dstore 7, 2) := by decide +kernel
theorem dX5_near_20 : decode cX5_near 20 = .ok (.aload_n 0, 1) := by decide +kernel
theorem dX5_near_21 : decode cX5_near 21 = .ok (.getfield 18, 3) := by decide +kernel
theorem dX5_near_24 : decode cX5_near 24 = .ok (.dconst 1, 1) := by decide +kernel
theorem dX5_near_25 : decode cX5_near 25 = .ok (.aload_n 0, 1) := by decide +kernel
theorem dX5_near_26 : decode cX5_near 26 = .ok (.getfield 18, 3) := by decide +kernel
theorem dX5_near_29 : decode cX5_near 29 = .ok (.dconst 1, 1) := by decide +kernel
theorem dX5_near_30 : decode cX5_near 30 = .ok (.aload_n 0, 1) := by decide +kernel
theorem dX5_near_31 : decode cX5_near 31 = .ok (.getfield 18, 3) := by decide +kernel
theorem dX5_near_34 : decode cX5_near 34 = .ok (.dload 7, 2) := by decide +kernel
theorem dX5_near_36 : decode cX5_near 36 = .ok (.dload 7, 2) := by decide +kernel
theorem dX5_near_38 : decode cX5_near 38 = .ok (.invokevirtual 139, 3) := by decide +kernel
theorem dX5_near_41 : decode cX5_near 41 = .ok (.invokevirtual 165, 3) := by decide +kernel
theorem dX5_near_44 : decode cX5_near 44 = .ok (.invokevirtual 168, 3) := by decide +kernel
theorem dX5_near_47 : decode cX5_near 47 = .ok (.dreturn, 1) := by decide +kernel
theorem dX6_init_0 : decode cX6_init 0 = .ok (.aload_n 0, 1) := by decide +kernel
theorem dX6_init_1 : decode cX6_init 1 = .ok (.invokespecial 3, 3) := by decide +kernel
theorem dX6_init_4 : decode cX6_init 4 = .ok (.aload_n 0, 1) := by decide +kernel
theorem dX6_init_5 : decode cX6_init 5 = .ok (.sipush 160, 3) := by decide +kernel
theorem dX6_init_8 : decode cX6_init 8 = .ok (.newarray .int, 2) := by decide +kernel
theorem dX6_init_10 : decode cX6_init 10 = .ok (.putfield 9, 3) := by decide +kernel
theorem dX6_init_13 : decode cX6_init 13 = .ok (.aload_n 0, 1) := by decide +kernel
theorem dX6_init_14 : decode cX6_init 14 = .ok (.sipush 160, 3) := by decide +kernel
theorem dX6_init_17 : decode cX6_init 17 = .ok (.newarray .double, 2) := by decide +kernel
theorem dX6_init_19 : decode cX6_init 19 = .ok (.putfield 15, 3) := by decide +kernel
theorem dX6_init_22 : decode cX6_init 22 = .ok (.aload_n 0, 1) := by decide +kernel
theorem dX6_init_23 : decode cX6_init 23 = .ok (.sipush 160, 3) := by decide +kernel
theorem dX6_init_26 : decode cX6_init 26 = .ok (.newarray .int, 2) := by decide +kernel
theorem dX6_init_28 : decode cX6_init 28 = .ok (.putfield 19, 3) := by decide +kernel
theorem dX6_init_31 : decode cX6_init 31 = .ok (.aload_n 0, 1) := by decide +kernel
theorem dX6_init_32 : decode cX6_init 32 = .ok (.iconst 4, 1) := by decide +kernel
theorem dX6_init_33 : decode cX6_init 33 = .ok (.newarray .int, 2) := by decide +kernel
theorem dX6_init_35 : decode cX6_init 35 = .ok (.putfield 22, 3) := by decide +kernel
theorem dX6_init_38 : decode cX6_init 38 = .ok (.aload_n 0, 1) := by decide +kernel
theorem dX6_init_39 : decode cX6_init 39 = .ok (.iconst 4, 1) := by decide +kernel
theorem dX6_init_40 : decode cX6_init 40 = .ok (.newarray .int, 2) := by decide +kernel
theorem dX6_init_42 : decode cX6_init 42 = .ok (.putfield 25, 3) := by decide +kernel
theorem dX6_init_45 : decode cX6_init 45 = .ok (.aload_n 0, 1) := by decide +kernel
theorem dX6_init_46 : decode cX6_init 46 = .ok (.sipush 160, 3) := by decide +kernel
theorem dX6_init_49 : decode cX6_init 49 = .ok (.newarray .boolean, 2) := by decide +kernel
theorem dX6_init_51 : decode cX6_init 51 = .ok (.putfield 28, 3) := by decide +kernel
theorem dX6_init_54 : decode cX6_init 54 = .ok (.aload_n 0, 1) := by decide +kernel
theorem dX6_init_55 : decode cX6_init 55 = .ok (.sipush 160, 3) := by decide +kernel
theorem dX6_init_58 : decode cX6_init 58 = .ok (.newarray .double, 2) := by decide +kernel
theorem dX6_init_60 : decode cX6_init 60 = .ok (.putfield 32, 3) := by decide +kernel
theorem dX6_init_63 : decode cX6_init 63 = .ok (.aload_n 0, 1) := by decide +kernel
theorem dX6_init_64 : decode cX6_init 64 = .ok (.iconst 4, 1) := by decide +kernel
theorem dX6_init_65 : decode cX6_init 65 = .ok (.newarray .boolean, 2) := by decide +kernel
theorem dX6_init_67 : decode cX6_init 67 = .ok (.putfield 35, 3) := by decide +kernel
theorem dX6_init_70 : decode cX6_init 70 = .ok (.aload_n 0, 1) := by decide +kernel
theorem dX6_init_71 : decode cX6_init 71 = .ok (.iconst 4, 1) := by decide +kernel
theorem dX6_init_72 : decode cX6_init 72 = .ok (.newarray .double, 2) := by decide +kernel
theorem dX6_init_74 : decode cX6_init 74 = .ok (.putfield 38, 3) := by decide +kernel
theorem dX6_init_77 : decode cX6_init 77 = .ok (.return_, 1) := by decide +kernel
theorem dX6_put_0 : decode cX6_put 0 = .ok (.iload_n 1, 1) := by decide +kernel
theorem dX6_put_1 : decode cX6_put 1 = .ok (.iconst 4, 1) := by decide +kernel
theorem dX6_put_2 : decode cX6_put 2 = .ok (.imul, 1) := by decide +kernel
theorem dX6_put_3 : decode cX6_put 3 = .ok (.iload_n 2, 1) := by decide +kernel
theorem dX6_put_4 : decode cX6_put 4 = .ok (.iadd, 1) := by decide +kernel
theorem dX6_put_5 : decode cX6_put 5 = .ok (.istore 5, 2) := by decide +kernel
theorem dX6_put_7 : decode cX6_put 7 = .ok (.iload 4, 2) := by decide +kernel
theorem dX6_put_9 : decode cX6_put 9 = .ok (.invokestatic 41, 3) := by decide +kernel
theorem dX6_put_12 : decode cX6_put 12 = .ok (.invokestatic 47, 3) := by decide +kernel
theorem dX6_put_15 : decode cX6_put 15 = .ok (.istore 6, 2) := by decide +kernel
theorem dX6_put_17 : decode cX6_put 17 = .ok (.aload_n 0, 1) := by decide +kernel
theorem dX6_put_18 : decode cX6_put 18 = .ok (.getfield 22, 3) := by decide +kernel
theorem dX6_put_21 : decode cX6_put 21 = .ok (.iload_n 2, 1) := by decide +kernel
theorem dX6_put_22 : decode cX6_put 22 = .ok (.dup2, 1) := by decide +kernel
theorem dX6_put_23 : decode cX6_put 23 = .ok (.iaload, 1) := by decide +kernel
theorem dX6_put_24 : decode cX6_put 24 = .ok (.iload 6, 2) := by decide +kernel
theorem dX6_put_26 : decode cX6_put 26 = .ok (.aload_n 0, 1) := by decide +kernel
theorem dX6_put_27 : decode cX6_put 27 = .ok (.getfield 19, 3) := by decide +kernel
theorem dX6_put_30 : decode cX6_put 30 = .ok (.iload 5, 2) := by decide +kernel
theorem dX6_put_32 : decode cX6_put 32 = .ok (.iaload, 1) := by decide +kernel
theorem dX6_put_33 : decode cX6_put 33 = .ok (.isub, 1) := by decide +kernel
theorem dX6_put_34 : decode cX6_put 34 = .ok (.iadd, 1) := by decide +kernel
theorem dX6_put_35 : decode cX6_put 35 = .ok (.iastore, 1) := by decide +kernel
theorem dX6_put_36 : decode cX6_put 36 = .ok (.aload_n 0, 1) := by decide +kernel
theorem dX6_put_37 : decode cX6_put 37 = .ok (.getfield 25, 3) := by decide +kernel
theorem dX6_put_40 : decode cX6_put 40 = .ok (.iload_n 2, 1) := by decide +kernel
theorem dX6_put_41 : decode cX6_put 41 = .ok (.dup2, 1) := by decide +kernel
theorem dX6_put_42 : decode cX6_put 42 = .ok (.iaload, 1) := by decide +kernel
theorem dX6_put_43 : decode cX6_put 43 = .ok (.iload 6, 2) := by decide +kernel
theorem dX6_put_45 : decode cX6_put 45 = .ok (.ifCond .ne 7, 3) := by decide +kernel
theorem dX6_put_48 : decode cX6_put 48 = .ok (.iconst 0, 1) := by decide +kernel
theorem dX6_put_49 : decode cX6_put 49 = .ok (.goto 4, 3) := by decide +kernel
theorem dX6_put_52 : decode cX6_put 52 = .ok (.iconst 1, 1) := by decide +kernel
theorem dX6_put_53 : decode cX6_put 53 = .ok (.aload_n 0, 1) := by decide +kernel
theorem dX6_put_54 : decode cX6_put 54 = .ok (.getfield 19, 3) := by decide +kernel
theorem dX6_put_57 : decode cX6_put 57 = .ok (.iload 5, 2) := by decide +kernel
theorem dX6_put_59 : decode cX6_put 59 = .ok (.iaload, 1) := by decide +kernel
theorem dX6_put_60 : decode cX6_put 60 = .ok (.ifCond .ne 7, 3) := by decide +kernel
theorem dX6_put_63 : decode cX6_put 63 = .ok (.iconst 0, 1) := by decide +kernel
theorem dX6_put_64 : decode cX6_put 64 = .ok (.goto 4, 3) := by decide +kernel
theorem dX6_put_67 : decode cX6_put 67 = .ok (.iconst 1, 1) := by decide +kernel
theorem dX6_put_68 : decode cX6_put 68 = .ok (.isub, 1) := by decide +kernel
theorem dX6_put_69 : decode cX6_put 69 = .ok (.iadd, 1) := by decide +kernel
theorem dX6_put_70 : decode cX6_put 70 = .ok (.iastore, 1) := by decide +kernel
theorem dX6_put_71 : decode cX6_put 71 = .ok (.aload_n 0, 1) := by decide +kernel
theorem dX6_put_72 : decode cX6_put 72 = .ok (.getfield 19, 3) := by decide +kernel
theorem dX6_put_75 : decode cX6_put 75 = .ok (.iload 5, 2) := by decide +kernel
theorem dX6_put_77 : decode cX6_put 77 = .ok (.iload 6, 2) := by decide +kernel
theorem dX6_put_79 : decode cX6_put 79 = .ok (.iastore, 1) := by decide +kernel
theorem dX6_put_80 : decode cX6_put 80 = .ok (.aload_n 0, 1) := by decide +kernel
theorem dX6_put_81 : decode cX6_put 81 = .ok (.getfield 9, 3) := by decide +kernel
theorem dX6_put_84 : decode cX6_put 84 = .ok (.iload 5, 2) := by decide +kernel
theorem dX6_put_86 : decode cX6_put 86 = .ok (.iload_n 3, 1) := by decide +kernel
theorem dX6_put_87 : decode cX6_put 87 = .ok (.iastore, 1) := by decide +kernel
theorem dX6_put_88 : decode cX6_put 88 = .ok (.aload_n 0, 1) := by decide +kernel
theorem dX6_put_89 : decode cX6_put 89 = .ok (.getfield 15, 3) := by decide +kernel
theorem dX6_put_92 : decode cX6_put 92 = .ok (.iload 5, 2) := by decide +kernel
theorem dX6_put_94 : decode cX6_put 94 = .ok (.iload_n 3, 1) := by decide +kernel
theorem dX6_put_95 : decode cX6_put 95 = .ok (.invokestatic 50, 3) := by decide +kernel
theorem dX6_put_98 : decode cX6_put 98 = .ok (.dastore, 1) := by decide +kernel
theorem dX6_put_99 : decode cX6_put 99 = .ok (.return_, 1) := by decide +kernel
theorem dX6_countOf_0 : decode cX6_countOf 0 = .ok (.aload_n 0, 1) := by decide +kernel
theorem dX6_countOf_1 : decode cX6_countOf 1 = .ok (.getfield 9, 3) := by decide +kernel
theorem dX6_countOf_4 : decode cX6_countOf 4 = .ok (.iload_n 1, 1) := by decide +kernel
theorem dX6_countOf_5 : decode cX6_countOf 5 = .ok (.iconst 4, 1) := by decide +kernel
theorem dX6_countOf_6 : decode cX6_countOf 6 = .ok (.imul, 1) := by decide +kernel
theorem dX6_countOf_7 : decode cX6_countOf 7 = .ok (.iload_n 2, 1) := by decide +kernel
theorem dX6_countOf_8 : decode cX6_countOf 8 = .ok (.iadd, 1) := by decide +kernel
theorem dX6_countOf_9 : decode cX6_countOf 9 = .ok (.iaload, 1) := by decide +kernel
theorem dX6_countOf_10 : decode cX6_countOf 10 = .ok (.i2d, 1) := by decide +kernel
theorem dX6_countOf_11 : decode cX6_countOf 11 = .ok (.dreturn, 1) := by decide +kernel
theorem dX6_rootOfCount_0 : decode cX6_rootOfCount 0 = .ok (.aload_n 0, 1) := by decide +kernel
theorem dX6_rootOfCount_1 : decode cX6_rootOfCount 1 = .ok (.getfield 15, 3) := by decide +kernel
theorem dX6_rootOfCount_4 : decode cX6_rootOfCount 4 = .ok (.iload_n 1, 1) := by decide +kernel
theorem dX6_rootOfCount_5 : decode cX6_rootOfCount 5 = .ok (.iconst 4, 1) := by decide +kernel
theorem dX6_rootOfCount_6 : decode cX6_rootOfCount 6 = .ok (.imul, 1) := by decide +kernel
theorem dX6_rootOfCount_7 : decode cX6_rootOfCount 7 = .ok (.iload_n 2, 1) := by decide +kernel
theorem dX6_rootOfCount_8 : decode cX6_rootOfCount 8 = .ok (.iadd, 1) := by decide +kernel
theorem dX6_rootOfCount_9 : decode cX6_rootOfCount 9 = .ok (.daload, 1) := by decide +kernel
theorem dX6_rootOfCount_10 : decode cX6_rootOfCount 10 = .ok (.dreturn, 1) := by decide +kernel
theorem dX6_lengthOf_0 : decode cX6_lengthOf 0 = .ok (.aload_n 0, 1) := by decide +kernel
theorem dX6_lengthOf_1 : decode cX6_lengthOf 1 = .ok (.getfield 19, 3) := by decide +kernel
theorem dX6_lengthOf_4 : decode cX6_lengthOf 4 = .ok (.iload_n 1, 1) := by decide +kernel
theorem dX6_lengthOf_5 : decode cX6_lengthOf 5 = .ok (.iconst 4, 1) := by decide +kernel
theorem dX6_lengthOf_6 : decode cX6_lengthOf 6 = .ok (.imul, 1) := by decide +kernel
theorem dX6_lengthOf_7 : decode cX6_lengthOf 7 = .ok (.iload_n 2, 1) := by decide +kernel
theorem dX6_lengthOf_8 : decode cX6_lengthOf 8 = .ok (.iadd, 1) := by decide +kernel
theorem dX6_lengthOf_9 : decode cX6_lengthOf 9 = .ok (.iaload, 1) := by decide +kernel
theorem dX6_lengthOf_10 : decode cX6_lengthOf 10 = .ok (.i2d, 1) := by decide +kernel
theorem dX6_lengthOf_11 : decode cX6_lengthOf 11 = .ok (.dreturn, 1) := by decide +kernel
theorem dX6_fillColumn_0 : decode cX6_fillColumn 0 = .ok (.iload_n 1, 1) := by decide +kernel
theorem dX6_fillColumn_1 : decode cX6_fillColumn 1 = .ok (.iconst 4, 1) := by decide +kernel
theorem dX6_fillColumn_2 : decode cX6_fillColumn 2 = .ok (.imul, 1) := by decide +kernel
theorem dX6_fillColumn_3 : decode cX6_fillColumn 3 = .ok (.iload_n 2, 1) := by decide +kernel
theorem dX6_fillColumn_4 : decode cX6_fillColumn 4 = .ok (.iadd, 1) := by decide +kernel
theorem dX6_fillColumn_5 : decode cX6_fillColumn 5 = .ok (.istore 5, 2) := by decide +kernel
theorem dX6_fillColumn_7 : decode cX6_fillColumn 7 = .ok (.aload_n 0, 1) := by decide +kernel
theorem dX6_fillColumn_8 : decode cX6_fillColumn 8 = .ok (.getfield 28, 3) := by decide +kernel
theorem dX6_fillColumn_11 : decode cX6_fillColumn 11 = .ok (.iload 5, 2) := by decide +kernel
theorem dX6_fillColumn_13 : decode cX6_fillColumn 13 = .ok (.lload_n 3, 1) := by decide +kernel
theorem dX6_fillColumn_14 : decode cX6_fillColumn 14 = .ok (.invokestatic 56, 3) := by decide +kernel
theorem dX6_fillColumn_17 : decode cX6_fillColumn 17 = .ok (.bastore, 1) := by decide +kernel
theorem dX6_fillColumn_18 : decode cX6_fillColumn 18 = .ok (.aload_n 0, 1) := by decide +kernel
theorem dX6_fillColumn_19 : decode cX6_fillColumn 19 = .ok (.getfield 32, 3) := by decide +kernel
theorem dX6_fillColumn_22 : decode cX6_fillColumn 22 = .ok (.iload 5, 2) := by decide +kernel
theorem dX6_fillColumn_24 : decode cX6_fillColumn 24 = .ok (.aload_n 0, 1) := by decide +kernel
theorem dX6_fillColumn_25 : decode cX6_fillColumn 25 = .ok (.getfield 28, 3) := by decide +kernel
theorem dX6_fillColumn_28 : decode cX6_fillColumn 28 = .ok (.iload 5, 2) := by decide +kernel
theorem dX6_fillColumn_30 : decode cX6_fillColumn 30 = .ok (.baload, 1) := by decide +kernel
theorem dX6_fillColumn_31 : decode cX6_fillColumn 31 = .ok (.ifCond .eq 10, 3) := by decide +kernel
theorem dX6_fillColumn_34 : decode cX6_fillColumn 34 = .ok (.lload_n 3, 1) := by decide +kernel
theorem dX6_fillColumn_35 : decode cX6_fillColumn 35 = .ok (.invokestatic 60, 3) := by decide +kernel
theorem dX6_fillColumn_38 : decode cX6_fillColumn 38 = .ok (.goto 4, 3) := by decide +kernel
theorem dX6_fillColumn_41 : decode cX6_fillColumn 41 = .ok (.dconst 0, 1) := by decide +kernel
theorem dX6_fillColumn_42 : decode cX6_fillColumn 42 = .ok (.dastore, 1) := by decide +kernel
theorem dX6_fillColumn_43 : decode cX6_fillColumn 43 = .ok (.return_, 1) := by decide +kernel
theorem dX6_hasColumn_0 : decode cX6_hasColumn 0 = .ok (.aload_n 0, 1) := by decide +kernel
theorem dX6_hasColumn_1 : decode cX6_hasColumn 1 = .ok (.getfield 28, 3) := by decide +kernel
theorem dX6_hasColumn_4 : decode cX6_hasColumn 4 = .ok (.iload_n 1, 1) := by decide +kernel
theorem dX6_hasColumn_5 : decode cX6_hasColumn 5 = .ok (.iconst 4, 1) := by decide +kernel
theorem dX6_hasColumn_6 : decode cX6_hasColumn 6 = .ok (.imul, 1) := by decide +kernel
theorem dX6_hasColumn_7 : decode cX6_hasColumn 7 = .ok (.iload_n 2, 1) := by decide +kernel
theorem dX6_hasColumn_8 : decode cX6_hasColumn 8 = .ok (.iadd, 1) := by decide +kernel
theorem dX6_hasColumn_9 : decode cX6_hasColumn 9 = .ok (.baload, 1) := by decide +kernel
theorem dX6_hasColumn_10 : decode cX6_hasColumn 10 = .ok (.ireturn, 1) := by decide +kernel
theorem dX6_columnOf_0 : decode cX6_columnOf 0 = .ok (.aload_n 0, 1) := by decide +kernel
theorem dX6_columnOf_1 : decode cX6_columnOf 1 = .ok (.getfield 32, 3) := by decide +kernel
theorem dX6_columnOf_4 : decode cX6_columnOf 4 = .ok (.iload_n 1, 1) := by decide +kernel
theorem dX6_columnOf_5 : decode cX6_columnOf 5 = .ok (.iconst 4, 1) := by decide +kernel
theorem dX6_columnOf_6 : decode cX6_columnOf 6 = .ok (.imul, 1) := by decide +kernel
theorem dX6_columnOf_7 : decode cX6_columnOf 7 = .ok (.iload_n 2, 1) := by decide +kernel
theorem dX6_columnOf_8 : decode cX6_columnOf 8 = .ok (.iadd, 1) := by decide +kernel
theorem dX6_columnOf_9 : decode cX6_columnOf 9 = .ok (.daload, 1) := by decide +kernel
theorem dX6_columnOf_10 : decode cX6_columnOf 10 = .ok (.dreturn, 1) := by decide +kernel
theorem dX6_giveAverage_0 : decode cX6_giveAverage 0 = .ok (.aload_n 0, 1) := by decide +kernel
theorem dX6_giveAverage_1 : decode cX6_giveAverage 1 = .ok (.getfield 35, 3) := by decide +kernel
theorem dX6_giveAverage_4 : decode cX6_giveAverage 4 = .ok (.iload_n 1, 1) := by decide +kernel
theorem dX6_giveAverage_5 : decode cX6_giveAverage 5 = .ok (.iconst 1, 1) := by decide +kernel
theorem dX6_giveAverage_6 : decode cX6_giveAverage 6 = .ok (.bastore, 1) := by decide +kernel
theorem dX6_giveAverage_7 : decode cX6_giveAverage 7 = .ok (.aload_n 0, 1) := by decide +kernel
theorem dX6_giveAverage_8 : decode cX6_giveAverage 8 = .ok (.getfield 38, 3) := by decide +kernel
theorem dX6_giveAverage_11 : decode cX6_giveAverage 11 = .ok (.iload_n 1, 1) := by decide +kernel
theorem dX6_giveAverage_12 : decode cX6_giveAverage 12 = .ok (.dload_n 2, 1) := by decide +kernel
theorem dX6_giveAverage_13 : decode cX6_giveAverage 13 = .ok (.dastore, 1) := by decide +kernel
theorem dX6_giveAverage_14 : decode cX6_giveAverage 14 = .ok (.return_, 1) := by decide +kernel
theorem dX6_giveNoAverage_0 : decode cX6_giveNoAverage 0 = .ok (.aload_n 0, 1) := by decide +kernel
theorem dX6_giveNoAverage_1 : decode cX6_giveNoAverage 1 = .ok (.getfield 35, 3) := by decide +kernel
theorem dX6_giveNoAverage_4 : decode cX6_giveNoAverage 4 = .ok (.iload_n 1, 1) := by decide +kernel
theorem dX6_giveNoAverage_5 : decode cX6_giveNoAverage 5 = .ok (.iconst 0, 1) := by decide +kernel
theorem dX6_giveNoAverage_6 : decode cX6_giveNoAverage 6 = .ok (.bastore, 1) := by decide +kernel
theorem dX6_giveNoAverage_7 : decode cX6_giveNoAverage 7 = .ok (.return_, 1) := by decide +kernel
theorem dX6_hasAverage_0 : decode cX6_hasAverage 0 = .ok (.aload_n 0, 1) := by decide +kernel
theorem dX6_hasAverage_1 : decode cX6_hasAverage 1 = .ok (.getfield 35, 3) := by decide +kernel
theorem dX6_hasAverage_4 : decode cX6_hasAverage 4 = .ok (.iload_n 1, 1) := by decide +kernel
theorem dX6_hasAverage_5 : decode cX6_hasAverage 5 = .ok (.baload, 1) := by decide +kernel
theorem dX6_hasAverage_6 : decode cX6_hasAverage 6 = .ok (.ifCond .ne 12, 3) := by decide +kernel
theorem dX6_hasAverage_9 : decode cX6_hasAverage 9 = .ok (.aload_n 0, 1) := by decide +kernel
theorem dX6_hasAverage_10 : decode cX6_hasAverage 10 = .ok (.getfield 25, 3) := by decide +kernel
theorem dX6_hasAverage_13 : decode cX6_hasAverage 13 = .ok (.iload_n 1, 1) := by decide +kernel
theorem dX6_hasAverage_14 : decode cX6_hasAverage 14 = .ok (.iaload, 1) := by decide +kernel
theorem dX6_hasAverage_15 : decode cX6_hasAverage 15 = .ok (.ifCond .le 7, 3) := by decide +kernel
theorem dX6_hasAverage_18 : decode cX6_hasAverage 18 = .ok (.iconst 1, 1) := by decide +kernel
theorem dX6_hasAverage_19 : decode cX6_hasAverage 19 = .ok (.goto 4, 3) := by decide +kernel
theorem dX6_hasAverage_22 : decode cX6_hasAverage 22 = .ok (.iconst 0, 1) := by decide +kernel
theorem dX6_hasAverage_23 : decode cX6_hasAverage 23 = .ok (.ireturn, 1) := by decide +kernel
theorem dX6_averageOf_0 : decode cX6_averageOf 0 = .ok (.aload_n 0, 1) := by decide +kernel
theorem dX6_averageOf_1 : decode cX6_averageOf 1 = .ok (.getfield 35, 3) := by decide +kernel
theorem dX6_averageOf_4 : decode cX6_averageOf 4 = .ok (.iload_n 1, 1) := by decide +kernel
theorem dX6_averageOf_5 : decode cX6_averageOf 5 = .ok (.baload, 1) := by decide +kernel
theorem dX6_averageOf_6 : decode cX6_averageOf 6 = .ok (.ifCond .eq 10, 3) := by decide +kernel
theorem dX6_averageOf_9 : decode cX6_averageOf 9 = .ok (.aload_n 0, 1) := by decide +kernel
theorem dX6_averageOf_10 : decode cX6_averageOf 10 = .ok (.getfield 38, 3) := by decide +kernel
theorem dX6_averageOf_13 : decode cX6_averageOf 13 = .ok (.iload_n 1, 1) := by decide +kernel
theorem dX6_averageOf_14 : decode cX6_averageOf 14 = .ok (.daload, 1) := by decide +kernel
theorem dX6_averageOf_15 : decode cX6_averageOf 15 = .ok (.dreturn, 1) := by decide +kernel
theorem dX6_averageOf_16 : decode cX6_averageOf 16 = .ok (.aload_n 0, 1) := by decide +kernel
theorem dX6_averageOf_17 : decode cX6_averageOf 17 = .ok (.getfield 25, 3) := by decide +kernel
theorem dX6_averageOf_20 : decode cX6_averageOf 20 = .ok (.iload_n 1, 1) := by decide +kernel
theorem dX6_averageOf_21 : decode cX6_averageOf 21 = .ok (.iaload, 1) := by decide +kernel
theorem dX6_averageOf_22 : decode cX6_averageOf 22 = .ok (.istore_n 2, 1) := by decide +kernel
theorem dX6_averageOf_23 : decode cX6_averageOf 23 = .ok (.iload_n 2, 1) := by decide +kernel
theorem dX6_averageOf_24 : decode cX6_averageOf 24 = .ok (.ifCond .le 16, 3) := by decide +kernel
theorem dX6_averageOf_27 : decode cX6_averageOf 27 = .ok (.aload_n 0, 1) := by decide +kernel
theorem dX6_averageOf_28 : decode cX6_averageOf 28 = .ok (.getfield 22, 3) := by decide +kernel
theorem dX6_averageOf_31 : decode cX6_averageOf 31 = .ok (.iload_n 1, 1) := by decide +kernel
theorem dX6_averageOf_32 : decode cX6_averageOf 32 = .ok (.iaload, 1) := by decide +kernel
theorem dX6_averageOf_33 : decode cX6_averageOf 33 = .ok (.i2d, 1) := by decide +kernel
theorem dX6_averageOf_34 : decode cX6_averageOf 34 = .ok (.iload_n 2, 1) := by decide +kernel
theorem dX6_averageOf_35 : decode cX6_averageOf 35 = .ok (.i2d, 1) := by decide +kernel
theorem dX6_averageOf_36 : decode cX6_averageOf 36 = .ok (.ddiv, 1) := by decide +kernel
theorem dX6_averageOf_37 : decode cX6_averageOf 37 = .ok (.goto 4, 3) := by decide +kernel
theorem dX6_averageOf_40 : decode cX6_averageOf 40 = .ok (.dconst 0, 1) := by decide +kernel
theorem dX6_averageOf_41 : decode cX6_averageOf 41 = .ok (.dreturn, 1) := by decide +kernel
theorem dX6_reset_0 : decode cX6_reset 0 = .ok (.iconst 0, 1) := by decide +kernel
theorem dX6_reset_1 : decode cX6_reset 1 = .ok (.istore_n 1, 1) := by decide +kernel
theorem dX6_reset_2 : decode cX6_reset 2 = .ok (.iload_n 1, 1) := by decide +kernel
theorem dX6_reset_3 : decode cX6_reset 3 = .ok (.bipush 40, 2) := by decide +kernel
theorem dX6_reset_5 : decode cX6_reset 5 = .ok (.if_icmp .ge 52, 3) := by decide +kernel
theorem dX6_reset_8 : decode cX6_reset 8 = .ok (.iconst 0, 1) := by decide +kernel
theorem dX6_reset_9 : decode cX6_reset 9 = .ok (.istore_n 2, 1) := by decide +kernel
theorem dX6_reset_10 : decode cX6_reset 10 = .ok (.iload_n 2, 1) := by decide +kernel
theorem dX6_reset_11 : decode cX6_reset 11 = .ok (.iconst 4, 1) := by decide +kernel
theorem dX6_reset_12 : decode cX6_reset 12 = .ok (.if_icmp .ge 17, 3) := by decide +kernel
theorem dX6_reset_15 : decode cX6_reset 15 = .ok (.aload_n 0, 1) := by decide +kernel
theorem dX6_reset_16 : decode cX6_reset 16 = .ok (.iload_n 1, 1) := by decide +kernel
theorem dX6_reset_17 : decode cX6_reset 17 = .ok (.iload_n 2, 1) := by decide +kernel
theorem dX6_reset_18 : decode cX6_reset 18 = .ok (.iconst 0, 1) := by decide +kernel
theorem dX6_reset_19 : decode cX6_reset 19 = .ok (.iconst 0, 1) := by decide +kernel
theorem dX6_reset_20 : decode cX6_reset 20 = .ok (.invokevirtual 64, 3) := by decide +kernel
theorem dX6_reset_23 : decode cX6_reset 23 = .ok (.iinc 2 1, 3) := by decide +kernel
theorem dX6_reset_26 : decode cX6_reset 26 = .ok (.goto (-16), 3) := by decide +kernel
theorem dX6_reset_29 : decode cX6_reset 29 = .ok (.iconst 0, 1) := by decide +kernel
theorem dX6_reset_30 : decode cX6_reset 30 = .ok (.istore_n 2, 1) := by decide +kernel
theorem dX6_reset_31 : decode cX6_reset 31 = .ok (.iload_n 2, 1) := by decide +kernel
theorem dX6_reset_32 : decode cX6_reset 32 = .ok (.iconst 4, 1) := by decide +kernel
theorem dX6_reset_33 : decode cX6_reset 33 = .ok (.if_icmp .ge 18, 3) := by decide +kernel
theorem dX6_reset_36 : decode cX6_reset 36 = .ok (.aload_n 0, 1) := by decide +kernel
theorem dX6_reset_37 : decode cX6_reset 37 = .ok (.iload_n 1, 1) := by decide +kernel
theorem dX6_reset_38 : decode cX6_reset 38 = .ok (.iload_n 2, 1) := by decide +kernel
theorem dX6_reset_39 : decode cX6_reset 39 = .ok (.ldc2_w 68, 3) := by decide +kernel
theorem dX6_reset_42 : decode cX6_reset 42 = .ok (.invokevirtual 70, 3) := by decide +kernel
theorem dX6_reset_45 : decode cX6_reset 45 = .ok (.iinc 2 1, 3) := by decide +kernel
theorem dX6_reset_48 : decode cX6_reset 48 = .ok (.goto (-17), 3) := by decide +kernel
theorem dX6_reset_51 : decode cX6_reset 51 = .ok (.iinc 1 1, 3) := by decide +kernel
theorem dX6_reset_54 : decode cX6_reset 54 = .ok (.goto (-52), 3) := by decide +kernel
theorem dX6_reset_57 : decode cX6_reset 57 = .ok (.iconst 0, 1) := by decide +kernel
theorem dX6_reset_58 : decode cX6_reset 58 = .ok (.istore_n 1, 1) := by decide +kernel
theorem dX6_reset_59 : decode cX6_reset 59 = .ok (.iload_n 1, 1) := by decide +kernel
theorem dX6_reset_60 : decode cX6_reset 60 = .ok (.iconst 4, 1) := by decide +kernel
theorem dX6_reset_61 : decode cX6_reset 61 = .ok (.if_icmp .ge 14, 3) := by decide +kernel
theorem dX6_reset_64 : decode cX6_reset 64 = .ok (.aload_n 0, 1) := by decide +kernel
theorem dX6_reset_65 : decode cX6_reset 65 = .ok (.iload_n 1, 1) := by decide +kernel
theorem dX6_reset_66 : decode cX6_reset 66 = .ok (.invokevirtual 74, 3) := by decide +kernel
theorem dX6_reset_69 : decode cX6_reset 69 = .ok (.iinc 1 1, 3) := by decide +kernel
theorem dX6_reset_72 : decode cX6_reset 72 = .ok (.goto (-13), 3) := by decide +kernel
theorem dX6_reset_75 : decode cX6_reset 75 = .ok (.return_, 1) := by decide +kernel
theorem dX7_init_0 : decode cX7_init 0 = .ok (.aload_n 0, 1) := by decide +kernel
theorem dX7_init_1 : decode cX7_init 1 = .ok (.invokespecial 1, 3) := by decide +kernel
theorem dX7_init_4 : decode cX7_init 4 = .ok (.aload_n 0, 1) := by decide +kernel
theorem dX7_init_5 : decode cX7_init 5 = .ok (.new 7, 3) := by decide +kernel
theorem dX7_init_8 : decode cX7_init 8 = .ok (.dup, 1) := by decide +kernel
theorem dX7_init_9 : decode cX7_init 9 = .ok (.invokespecial 9, 3) := by decide +kernel
theorem dX7_init_12 : decode cX7_init 12 = .ok (.putfield 10, 3) := by decide +kernel
theorem dX7_init_15 : decode cX7_init 15 = .ok (.aload_n 0, 1) := by decide +kernel
theorem dX7_init_16 : decode cX7_init 16 = .ok (.new 16, 3) := by decide +kernel
theorem dX7_init_19 : decode cX7_init 19 = .ok (.dup, 1) := by decide +kernel
theorem dX7_init_20 : decode cX7_init 20 = .ok (.aload_n 0, 1) := by decide +kernel
theorem dX7_init_21 : decode cX7_init 21 = .ok (.getfield 10, 3) := by decide +kernel
theorem dX7_init_24 : decode cX7_init 24 = .ok (.invokespecial 18, 3) := by decide +kernel
theorem dX7_init_27 : decode cX7_init 27 = .ok (.putfield 21, 3) := by decide +kernel
theorem dX7_init_30 : decode cX7_init 30 = .ok (.aload_n 0, 1) := by decide +kernel
theorem dX7_init_31 : decode cX7_init 31 = .ok (.bipush 60, 2) := by decide +kernel
theorem dX7_init_33 : decode cX7_init 33 = .ok (.anewarray 25, 3) := by decide +kernel
theorem dX7_init_36 : decode cX7_init 36 = .ok (.putfield 27, 3) := by decide +kernel
theorem dX7_init_39 : decode cX7_init 39 = .ok (.iconst 0, 1) := by decide +kernel
theorem dX7_init_40 : decode cX7_init 40 = .ok (.istore_n 1, 1) := by decide +kernel
theorem dX7_init_41 : decode cX7_init 41 = .ok (.iload_n 1, 1) := by decide +kernel
theorem dX7_init_42 : decode cX7_init 42 = .ok (.bipush 60, 2) := by decide +kernel
theorem dX7_init_44 : decode cX7_init 44 = .ok (.if_icmp .ge 23, 3) := by decide +kernel
theorem dX7_init_47 : decode cX7_init 47 = .ok (.aload_n 0, 1) := by decide +kernel
theorem dX7_init_48 : decode cX7_init 48 = .ok (.getfield 27, 3) := by decide +kernel
theorem dX7_init_51 : decode cX7_init 51 = .ok (.iload_n 1, 1) := by decide +kernel
theorem dX7_init_52 : decode cX7_init 52 = .ok (.new 25, 3) := by decide +kernel
theorem dX7_init_55 : decode cX7_init 55 = .ok (.dup, 1) := by decide +kernel
theorem dX7_init_56 : decode cX7_init 56 = .ok (.iload_n 1, 1) := by decide +kernel
theorem dX7_init_57 : decode cX7_init 57 = .ok (.invokespecial 31, 3) := by decide +kernel
theorem dX7_init_60 : decode cX7_init 60 = .ok (.aastore, 1) := by decide +kernel
theorem dX7_init_61 : decode cX7_init 61 = .ok (.iinc 1 1, 3) := by decide +kernel
theorem dX7_init_64 : decode cX7_init 64 = .ok (.goto (-23), 3) := by decide +kernel
theorem dX7_init_67 : decode cX7_init 67 = .ok (.aload_n 0, 1) := by decide +kernel
theorem dX7_init_68 : decode cX7_init 68 = .ok (.iconst 5, 1) := by decide +kernel
theorem dX7_init_69 : decode cX7_init 69 = .ok (.newarray .int, 2) := by decide +kernel
theorem dX7_init_71 : decode cX7_init 71 = .ok (.putfield 34, 3) := by decide +kernel
theorem dX7_init_74 : decode cX7_init 74 = .ok (.aload_n 0, 1) := by decide +kernel
theorem dX7_init_75 : decode cX7_init 75 = .ok (.getfield 34, 3) := by decide +kernel
theorem dX7_init_78 : decode cX7_init 78 = .ok (.iconst 1, 1) := by decide +kernel
theorem dX7_init_79 : decode cX7_init 79 = .ok (.bipush (-9), 2) := by decide +kernel
theorem dX7_init_81 : decode cX7_init 81 = .ok (.iastore, 1) := by decide +kernel
theorem dX7_init_82 : decode cX7_init 82 = .ok (.aload_n 0, 1) := by decide +kernel
theorem dX7_init_83 : decode cX7_init 83 = .ok (.bipush 40, 2) := by decide +kernel
theorem dX7_init_85 : decode cX7_init 85 = .ok (.newarray .double, 2) := by decide +kernel
theorem dX7_init_87 : decode cX7_init 87 = .ok (.putfield 38, 3) := by decide +kernel
theorem dX7_init_90 : decode cX7_init 90 = .ok (.aload_n 0, 1) := by decide +kernel
theorem dX7_init_91 : decode cX7_init 91 = .ok (.bipush 40, 2) := by decide +kernel
theorem dX7_init_93 : decode cX7_init 93 = .ok (.newarray .boolean, 2) := by decide +kernel
theorem dX7_init_95 : decode cX7_init 95 = .ok (.putfield 42, 3) := by decide +kernel
theorem dX7_init_98 : decode cX7_init 98 = .ok (.return_, 1) := by decide +kernel
theorem dX7_tell_0 : decode cX7_tell 0 = .ok (.iload_n 1, 1) := by decide +kernel
theorem dX7_tell_1 : decode cX7_tell 1 = .ok (.bipush 40, 2) := by decide +kernel
theorem dX7_tell_3 : decode cX7_tell 3 = .ok (.invokestatic 46, 3) := by decide +kernel
theorem dX7_tell_6 : decode cX7_tell 6 = .ok (.ifCond .eq 11, 3) := by decide +kernel
theorem dX7_tell_9 : decode cX7_tell 9 = .ok (.iload_n 2, 1) := by decide +kernel
theorem dX7_tell_10 : decode cX7_tell 10 = .ok (.iconst 4, 1) := by decide +kernel
theorem dX7_tell_11 : decode cX7_tell 11 = .ok (.invokestatic 46, 3) := by decide +kernel
theorem dX7_tell_14 : decode cX7_tell 14 = .ok (.ifCond .ne 5, 3) := by decide +kernel
theorem dX7_tell_17 : decode cX7_tell 17 = .ok (.iconst (-1), 1) := by decide +kernel
theorem dX7_tell_18 : decode cX7_tell 18 = .ok (.ireturn, 1) := by decide +kernel
theorem dX7_tell_19 : decode cX7_tell 19 = .ok (.iload_n 3, 1) := by decide +kernel
theorem dX7_tell_20 : decode cX7_tell 20 = .ok (.sipush 1001, 3) := by decide +kernel
theorem dX7_tell_23 : decode cX7_tell 23 = .ok (.invokestatic 46, 3) := by decide +kernel
theorem dX7_tell_26 : decode cX7_tell 26 = .ok (.ifCond .eq 13, 3) := by decide +kernel
theorem dX7_tell_29 : decode cX7_tell 29 = .ok (.iload 4, 2) := by decide +kernel
theorem dX7_tell_31 : decode cX7_tell 31 = .ok (.ldc 50, 2) := by decide +kernel
theorem dX7_tell_33 : decode cX7_tell 33 = .ok (.invokestatic 46, 3) := by decide +kernel
theorem dX7_tell_36 : decode cX7_tell 36 = .ok (.ifCond .ne 5, 3) := by decide +kernel
theorem dX7_tell_39 : decode cX7_tell 39 = .ok (.iconst (-1), 1) := by decide +kernel
theorem dX7_tell_40 : decode cX7_tell 40 = .ok (.ireturn, 1) := by decide +kernel
theorem dX7_tell_41 : decode cX7_tell 41 = .ok (.aload_n 0, 1) := by decide +kernel
theorem dX7_tell_42 : decode cX7_tell 42 = .ok (.getfield 10, 3) := by decide +kernel
theorem dX7_tell_45 : decode cX7_tell 45 = .ok (.iload_n 1, 1) := by decide +kernel
theorem dX7_tell_46 : decode cX7_tell 46 = .ok (.iload_n 2, 1) := by decide +kernel
theorem dX7_tell_47 : decode cX7_tell 47 = .ok (.iload_n 3, 1) := by decide +kernel
theorem dX7_tell_48 : decode cX7_tell 48 = .ok (.iload 4, 2) := by decide +kernel
theorem dX7_tell_50 : decode cX7_tell 50 = .ok (.invokevirtual 51, 3) := by decide +kernel
theorem dX7_tell_53 : decode cX7_tell 53 = .ok (.iconst 0, 1) := by decide +kernel
theorem dX7_tell_54 : decode cX7_tell 54 = .ok (.ireturn, 1) := by decide +kernel
theorem dX7_column_0 : decode cX7_column 0 = .ok (.iload_n 1, 1) := by decide +kernel
theorem dX7_column_1 : decode cX7_column 1 = .ok (.bipush 40, 2) := by decide +kernel
theorem dX7_column_3 : decode cX7_column 3 = .ok (.invokestatic 46, 3) := by decide +kernel
theorem dX7_column_6 : decode cX7_column 6 = .ok (.ifCond .eq 11, 3) := by decide +kernel
theorem dX7_column_9 : decode cX7_column 9 = .ok (.iload_n 2, 1) := by decide +kernel
theorem dX7_column_10 : decode cX7_column 10 = .ok (.iconst 4, 1) := by decide +kernel
theorem dX7_column_11 : decode cX7_column 11 = .ok (.invokestatic 46, 3) := by decide +kernel
theorem dX7_column_14 : decode cX7_column 14 = .ok (.ifCond .ne 5, 3) := by decide +kernel
theorem dX7_column_17 : decode cX7_column 17 = .ok (.iconst (-1), 1) := by decide +kernel
theorem dX7_column_18 : decode cX7_column 18 = .ok (.ireturn, 1) := by decide +kernel
theorem dX7_column_19 : decode cX7_column 19 = .ok (.aload_n 0, 1) := by decide +kernel
theorem dX7_column_20 : decode cX7_column 20 = .ok (.getfield 10, 3) := by decide +kernel
theorem dX7_column_23 : decode cX7_column 23 = .ok (.iload_n 1, 1) := by decide +kernel
theorem dX7_column_24 : decode cX7_column 24 = .ok (.iload_n 2, 1) := by decide +kernel
theorem dX7_column_25 : decode cX7_column 25 = .ok (.lload_n 3, 1) := by decide +kernel
theorem dX7_column_26 : decode cX7_column 26 = .ok (.invokevirtual 55, 3) := by decide +kernel
theorem dX7_column_29 : decode cX7_column 29 = .ok (.iconst 0, 1) := by decide +kernel
theorem dX7_column_30 : decode cX7_column 30 = .ok (.ireturn, 1) := by decide +kernel
theorem dX7_given_0 : decode cX7_given 0 = .ok (.iload_n 1, 1) := by decide +kernel
theorem dX7_given_1 : decode cX7_given 1 = .ok (.iconst 4, 1) := by decide +kernel
theorem dX7_given_2 : decode cX7_given 2 = .ok (.invokestatic 46, 3) := by decide +kernel
theorem dX7_given_5 : decode cX7_given 5 = .ok (.ifCond .ne 5, 3) := by decide +kernel
theorem dX7_given_8 : decode cX7_given 8 = .ok (.iconst (-1), 1) := by decide +kernel
theorem dX7_given_9 : decode cX7_given 9 = .ok (.ireturn, 1) := by decide +kernel
theorem dX7_given_10 : decode cX7_given 10 = .ok (.lload_n 2, 1) := by decide +kernel
theorem dX7_given_11 : decode cX7_given 11 = .ok (.invokestatic 59, 3) := by decide +kernel
theorem dX7_given_14 : decode cX7_given 14 = .ok (.ifCond .ne 13, 3) := by decide +kernel
theorem dX7_given_17 : decode cX7_given 17 = .ok (.aload_n 0, 1) := by decide +kernel
theorem dX7_given_18 : decode cX7_given 18 = .ok (.getfield 10, 3) := by decide +kernel
theorem dX7_given_21 : decode cX7_given 21 = .ok (.iload_n 1, 1) := by decide +kernel
theorem dX7_given_22 : decode cX7_given 22 = .ok (.invokevirtual 65, 3) := by decide +kernel
theorem dX7_given_25 : decode cX7_given 25 = .ok (.iconst 0, 1) := by decide +kernel
theorem dX7_given_26 : decode cX7_given 26 = .ok (.ireturn, 1) := by decide +kernel
theorem dX7_given_27 : decode cX7_given 27 = .ok (.lload_n 2, 1) := by decide +kernel
theorem dX7_given_28 : decode cX7_given 28 = .ok (.invokestatic 68, 3) := by decide +kernel
theorem dX7_given_31 : decode cX7_given 31 = .ok (.dstore 4, 2) := by decide +kernel
theorem dX7_given_33 : decode cX7_given 33 = .ok (.dload 4, 2) := by decide +kernel
theorem dX7_given_35 : decode cX7_given 35 = .ok (.dconst 0, 1) := by decide +kernel
theorem dX7_given_36 : decode cX7_given 36 = .ok (.dcmp .l, 1) := by decide +kernel
theorem dX7_given_37 : decode cX7_given 37 = .ok (.ifCond .gt 5, 3) := by decide +kernel
theorem dX7_given_40 : decode cX7_given 40 = .ok (.iconst (-1), 1) := by decide +kernel
theorem dX7_given_41 : decode cX7_given 41 = .ok (.ireturn, 1) := by decide +kernel
theorem dX7_given_42 : decode cX7_given 42 = .ok (.aload_n 0, 1) := by decide +kernel
theorem dX7_given_43 : decode cX7_given 43 = .ok (.getfield 10, 3) := by decide +kernel
theorem dX7_given_46 : decode cX7_given 46 = .ok (.iload_n 1, 1) := by decide +kernel
theorem dX7_given_47 : decode cX7_given 47 = .ok (.dload 4, 2) := by decide +kernel
theorem dX7_given_49 : decode cX7_given 49 = .ok (.invokevirtual 72, 3) := by decide +kernel
theorem dX7_given_52 : decode cX7_given 52 = .ok (.iconst 0, 1) := by decide +kernel
theorem dX7_given_53 : decode cX7_given 53 = .ok (.ireturn, 1) := by decide +kernel
theorem dX7_average_0 : decode cX7_average 0 = .ok (.iload_n 1, 1) := by decide +kernel
theorem dX7_average_1 : decode cX7_average 1 = .ok (.iconst 4, 1) := by decide +kernel
theorem dX7_average_2 : decode cX7_average 2 = .ok (.invokestatic 46, 3) := by decide +kernel
theorem dX7_average_5 : decode cX7_average 5 = .ok (.ifCond .ne 5, 3) := by decide +kernel
theorem dX7_average_8 : decode cX7_average 8 = .ok (.lconst 0, 1) := by decide +kernel
theorem dX7_average_9 : decode cX7_average 9 = .ok (.lreturn, 1) := by decide +kernel
theorem dX7_average_10 : decode cX7_average 10 = .ok (.aload_n 0, 1) := by decide +kernel
theorem dX7_average_11 : decode cX7_average 11 = .ok (.getfield 10, 3) := by decide +kernel
theorem dX7_average_14 : decode cX7_average 14 = .ok (.iload_n 1, 1) := by decide +kernel
theorem dX7_average_15 : decode cX7_average 15 = .ok (.invokevirtual 76, 3) := by decide +kernel
theorem dX7_average_18 : decode cX7_average 18 = .ok (.ifCond .eq 17, 3) := by decide +kernel
theorem dX7_average_21 : decode cX7_average 21 = .ok (.aload_n 0, 1) := by decide +kernel
theorem dX7_average_22 : decode cX7_average 22 = .ok (.getfield 10, 3) := by decide +kernel
theorem dX7_average_25 : decode cX7_average 25 = .ok (.iload_n 1, 1) := by decide +kernel
theorem dX7_average_26 : decode cX7_average 26 = .ok (.invokevirtual 80, 3) := by decide +kernel
theorem dX7_average_29 : decode cX7_average 29 = .ok (.invokestatic 84, 3) := by decide +kernel
theorem dX7_average_32 : decode cX7_average 32 = .ok (.goto 6, 3) := by decide +kernel
theorem dX7_average_35 : decode cX7_average 35 = .ok (.ldc2_w 88, 3) := by decide +kernel
theorem dX7_average_38 : decode cX7_average 38 = .ok (.lreturn, 1) := by decide +kernel
theorem dX7_packed_0 : decode cX7_packed 0 = .ok (.iload_n 1, 1) := by decide +kernel
theorem dX7_packed_1 : decode cX7_packed 1 = .ok (.ldc 50, 2) := by decide +kernel
theorem dX7_packed_3 : decode cX7_packed 3 = .ok (.invokestatic 46, 3) := by decide +kernel
theorem dX7_packed_6 : decode cX7_packed 6 = .ok (.ifCond .eq 11, 3) := by decide +kernel
theorem dX7_packed_9 : decode cX7_packed 9 = .ok (.iload_n 2, 1) := by decide +kernel
theorem dX7_packed_10 : decode cX7_packed 10 = .ok (.iconst 2, 1) := by decide +kernel
theorem dX7_packed_11 : decode cX7_packed 11 = .ok (.invokestatic 46, 3) := by decide +kernel
theorem dX7_packed_14 : decode cX7_packed 14 = .ok (.ifCond .ne 5, 3) := by decide +kernel
theorem dX7_packed_17 : decode cX7_packed 17 = .ok (.iconst (-1), 1) := by decide +kernel
theorem dX7_packed_18 : decode cX7_packed 18 = .ok (.ireturn, 1) := by decide +kernel
theorem dX7_packed_19 : decode cX7_packed 19 = .ok (.iload_n 1, 1) := by decide +kernel
theorem dX7_packed_20 : decode cX7_packed 20 = .ok (.invokestatic 90, 3) := by decide +kernel
theorem dX7_packed_23 : decode cX7_packed 23 = .ok (.istore_n 3, 1) := by decide +kernel
theorem dX7_packed_24 : decode cX7_packed 24 = .ok (.iload_n 2, 1) := by decide +kernel
theorem dX7_packed_25 : decode cX7_packed 25 = .ok (.ifCond .ne 7, 3) := by decide +kernel
theorem dX7_packed_28 : decode cX7_packed 28 = .ok (.iload_n 3, 1) := by decide +kernel
theorem dX7_packed_29 : decode cX7_packed 29 = .ok (.goto 7, 3) := by decide +kernel
theorem dX7_packed_32 : decode cX7_packed 32 = .ok (.iload_n 3, 1) := by decide +kernel
theorem dX7_packed_33 : decode cX7_packed 33 = .ok (.invokestatic 96, 3) := by decide +kernel
theorem dX7_packed_36 : decode cX7_packed 36 = .ok (.ireturn, 1) := by decide +kernel
theorem dX7_formula_0 : decode cX7_formula 0 = .ok (.iload_n 1, 1) := by decide +kernel
theorem dX7_formula_1 : decode cX7_formula 1 = .ok (.bipush 14, 2) := by decide +kernel
theorem dX7_formula_3 : decode cX7_formula 3 = .ok (.invokestatic 46, 3) := by decide +kernel
theorem dX7_formula_6 : decode cX7_formula 6 = .ok (.ifCond .eq 24, 3) := by decide +kernel
theorem dX7_formula_9 : decode cX7_formula 9 = .ok (.aload_n 0, 1) := by decide +kernel
theorem dX7_formula_10 : decode cX7_formula 10 = .ok (.iload_n 1, 1) := by decide +kernel
theorem dX7_formula_11 : decode cX7_formula 11 = .ok (.iload_n 2, 1) := by decide +kernel
theorem dX7_formula_12 : decode cX7_formula 12 = .ok (.iload_n 3, 1) := by decide +kernel
theorem dX7_formula_13 : decode cX7_formula 13 = .ok (.invokevirtual 101, 3) := by decide +kernel
theorem dX7_formula_16 : decode cX7_formula 16 = .ok (.ifCond .eq 14, 3) := by decide +kernel
theorem dX7_formula_19 : decode cX7_formula 19 = .ok (.iload_n 1, 1) := by decide +kernel
theorem dX7_formula_20 : decode cX7_formula 20 = .ok (.lload 4, 2) := by decide +kernel
theorem dX7_formula_22 : decode cX7_formula 22 = .ok (.lload 6, 2) := by decide +kernel
theorem dX7_formula_24 : decode cX7_formula 24 = .ok (.invokestatic 105, 3) := by decide +kernel
theorem dX7_formula_27 : decode cX7_formula 27 = .ok (.ifCond .ne 5, 3) := by decide +kernel
theorem dX7_formula_30 : decode cX7_formula 30 = .ok (.iconst (-1), 1) := by decide +kernel
theorem dX7_formula_31 : decode cX7_formula 31 = .ok (.ireturn, 1) := by decide +kernel
theorem dX7_formula_32 : decode cX7_formula 32 = .ok (.aload_n 0, 1) := by decide +kernel
theorem dX7_formula_33 : decode cX7_formula 33 = .ok (.getfield 109, 3) := by decide +kernel
theorem dX7_formula_36 : decode cX7_formula 36 = .ok (.bipush 60, 2) := by decide +kernel
theorem dX7_formula_38 : decode cX7_formula 38 = .ok (.if_icmp .lt 6, 3) := by decide +kernel
theorem dX7_formula_41 : decode cX7_formula 41 = .ok (.bipush (-3), 2) := by decide +kernel
theorem dX7_formula_43 : decode cX7_formula 43 = .ok (.ireturn, 1) := by decide +kernel
theorem dX7_formula_44 : decode cX7_formula 44 = .ok (.iload_n 1, 1) := by decide +kernel
theorem dX7_formula_45 : decode cX7_formula 45 = .ok (.invokestatic 113, 3) := by decide +kernel
theorem dX7_formula_48 : decode cX7_formula 48 = .ok (.ifCond .eq 12, 3) := by decide +kernel
theorem dX7_formula_51 : decode cX7_formula 51 = .ok (.aload_n 0, 1) := by decide +kernel
theorem dX7_formula_52 : decode cX7_formula 52 = .ok (.getfield 27, 3) := by decide +kernel
theorem dX7_formula_55 : decode cX7_formula 55 = .ok (.iload_n 2, 1) := by decide +kernel
theorem dX7_formula_56 : decode cX7_formula 56 = .ok (.aaload, 1) := by decide +kernel
theorem dX7_formula_57 : decode cX7_formula 57 = .ok (.goto 4, 3) := by decide +kernel
theorem dX7_formula_60 : decode cX7_formula 60 = .ok (.aconst_null, 1) := by decide +kernel
theorem dX7_formula_61 : decode cX7_formula 61 = .ok (.astore 8, 2) := by decide +kernel
theorem dX7_formula_63 : decode cX7_formula 63 = .ok (.iload_n 1, 1) := by decide +kernel
theorem dX7_formula_64 : decode cX7_formula 64 = .ok (.bipush 13, 2) := by decide +kernel
theorem dX7_formula_66 : decode cX7_formula 66 = .ok (.if_icmp .ne 12, 3) := by decide +kernel
theorem dX7_formula_69 : decode cX7_formula 69 = .ok (.aload_n 0, 1) := by decide +kernel
theorem dX7_formula_70 : decode cX7_formula 70 = .ok (.getfield 27, 3) := by decide +kernel
theorem dX7_formula_73 : decode cX7_formula 73 = .ok (.iload_n 3, 1) := by decide +kernel
theorem dX7_formula_74 : decode cX7_formula 74 = .ok (.aaload, 1) := by decide +kernel
theorem dX7_formula_75 : decode cX7_formula 75 = .ok (.goto 4, 3) := by decide +kernel
theorem dX7_formula_78 : decode cX7_formula 78 = .ok (.aconst_null, 1) := by decide +kernel
theorem dX7_formula_79 : decode cX7_formula 79 = .ok (.astore 9, 2) := by decide +kernel
theorem dX7_formula_81 : decode cX7_formula 81 = .ok (.iconst 1, 1) := by decide +kernel
theorem dX7_formula_82 : decode cX7_formula 82 = .ok (.aload 8, 2) := by decide +kernel
theorem dX7_formula_84 : decode cX7_formula 84 = .ok (.invokestatic 116, 3) := by decide +kernel
theorem dX7_formula_87 : decode cX7_formula 87 = .ok (.iadd, 1) := by decide +kernel
theorem dX7_formula_88 : decode cX7_formula 88 = .ok (.aload 9, 2) := by decide +kernel
theorem dX7_formula_90 : decode cX7_formula 90 = .ok (.invokestatic 116, 3) := by decide +kernel
theorem dX7_formula_93 : decode cX7_formula 93 = .ok (.iadd, 1) := by decide +kernel
theorem dX7_formula_94 : decode cX7_formula 94 = .ok (.sipush 200, 3) := by decide +kernel
theorem dX7_formula_97 : decode cX7_formula 97 = .ok (.if_icmp .le 6, 3) := by decide +kernel
theorem dX7_formula_100 : decode cX7_formula 100 = .ok (.bipush (-3), 2) := by decide +kernel
theorem dX7_formula_102 : decode cX7_formula 102 = .ok (.ireturn, 1) := by decide +kernel
theorem dX7_formula_103 : decode cX7_formula 103 = .ok (.aload_n 0, 1) := by decide +kernel
theorem dX7_formula_104 : decode cX7_formula 104 = .ok (.getfield 27, 3) := by decide +kernel
theorem dX7_formula_107 : decode cX7_formula 107 = .ok (.aload_n 0, 1) := by decide +kernel
theorem dX7_formula_108 : decode cX7_formula 108 = .ok (.getfield 109, 3) := by decide +kernel
theorem dX7_formula_111 : decode cX7_formula 111 = .ok (.aaload, 1) := by decide +kernel
theorem dX7_formula_112 : decode cX7_formula 112 = .ok (.astore 10, 2) := by decide +kernel
theorem dX7_formula_114 : decode cX7_formula 114 = .ok (.aload 10, 2) := by decide +kernel
theorem dX7_formula_116 : decode cX7_formula 116 = .ok (.iload_n 1, 1) := by decide +kernel
theorem dX7_formula_117 : decode cX7_formula 117 = .ok (.iload_n 2, 1) := by decide +kernel
theorem dX7_formula_118 : decode cX7_formula 118 = .ok (.lload 4, 2) := by decide +kernel
theorem dX7_formula_120 : decode cX7_formula 120 = .ok (.lload 6, 2) := by decide +kernel
theorem dX7_formula_122 : decode cX7_formula 122 = .ok (.invokevirtual 120, 3) := by decide +kernel
theorem dX7_formula_125 : decode cX7_formula 125 = .ok (.aload 8, 2) := by decide +kernel
theorem dX7_formula_127 : decode cX7_formula 127 = .ok (.ifnull 10, 3) := by decide +kernel
theorem dX7_formula_130 : decode cX7_formula 130 = .ok (.aload 10, 2) := by decide +kernel
theorem dX7_formula_132 : decode cX7_formula 132 = .ok (.aload 8, 2) := by decide +kernel
theorem dX7_formula_134 : decode cX7_formula 134 = .ok (.invokevirtual 124, 3) := by decide +kernel
theorem dX7_formula_137 : decode cX7_formula 137 = .ok (.aload 9, 2) := by decide +kernel
theorem dX7_formula_139 : decode cX7_formula 139 = .ok (.ifnull 10, 3) := by decide +kernel
theorem dX7_formula_142 : decode cX7_formula 142 = .ok (.aload 10, 2) := by decide +kernel
theorem dX7_formula_144 : decode cX7_formula 144 = .ok (.aload 9, 2) := by decide +kernel
theorem dX7_formula_146 : decode cX7_formula 146 = .ok (.invokevirtual 124, 3) := by decide +kernel
theorem dX7_formula_149 : decode cX7_formula 149 = .ok (.aload_n 0, 1) := by decide +kernel
theorem dX7_formula_150 : decode cX7_formula 150 = .ok (.dup, 1) := by decide +kernel
theorem dX7_formula_151 : decode cX7_formula 151 = .ok (.getfield 109, 3) := by decide +kernel
theorem dX7_formula_154 : decode cX7_formula 154 = .ok (.iconst 1, 1) := by decide +kernel
theorem dX7_formula_155 : decode cX7_formula 155 = .ok (.iadd, 1) := by decide +kernel
theorem dX7_formula_156 : decode cX7_formula 156 = .ok (.putfield 109, 3) := by decide +kernel
theorem dX7_formula_159 : decode cX7_formula 159 = .ok (.aload 10, 2) := by decide +kernel
theorem dX7_formula_161 : decode cX7_formula 161 = .ok (.getfield 128, 3) := by decide +kernel
theorem dX7_formula_164 : decode cX7_formula 164 = .ok (.ireturn, 1) := by decide +kernel
theorem dX7_part_0 : decode cX7_part 0 = .ok (.aload_n 0, 1) := by decide +kernel
theorem dX7_part_1 : decode cX7_part 1 = .ok (.iload_n 1, 1) := by decide +kernel
theorem dX7_part_2 : decode cX7_part 2 = .ok (.invokevirtual 131, 3) := by decide +kernel
theorem dX7_part_5 : decode cX7_part 5 = .ok (.ifCond .eq 16, 3) := by decide +kernel
theorem dX7_part_8 : decode cX7_part 8 = .ok (.aload_n 0, 1) := by decide +kernel
theorem dX7_part_9 : decode cX7_part 9 = .ok (.iload_n 2, 1) := by decide +kernel
theorem dX7_part_10 : decode cX7_part 10 = .ok (.invokevirtual 131, 3) := by decide +kernel
theorem dX7_part_13 : decode cX7_part 13 = .ok (.ifCond .eq 8, 3) := by decide +kernel
theorem dX7_part_16 : decode cX7_part 16 = .ok (.iload_n 2, 1) := by decide +kernel
theorem dX7_part_17 : decode cX7_part 17 = .ok (.iload_n 1, 1) := by decide +kernel
theorem dX7_part_18 : decode cX7_part 18 = .ok (.if_icmp .lt 5, 3) := by decide +kernel
theorem dX7_part_21 : decode cX7_part 21 = .ok (.iconst (-1), 1) := by decide +kernel
theorem dX7_part_22 : decode cX7_part 22 = .ok (.ireturn, 1) := by decide +kernel
theorem dX7_part_23 : decode cX7_part 23 = .ok (.aload_n 0, 1) := by decide +kernel
theorem dX7_part_24 : decode cX7_part 24 = .ok (.getfield 27, 3) := by decide +kernel
theorem dX7_part_27 : decode cX7_part 27 = .ok (.iload_n 1, 1) := by decide +kernel
theorem dX7_part_28 : decode cX7_part 28 = .ok (.aaload, 1) := by decide +kernel
theorem dX7_part_29 : decode cX7_part 29 = .ok (.astore_n 3, 1) := by decide +kernel
theorem dX7_part_30 : decode cX7_part 30 = .ok (.aload_n 0, 1) := by decide +kernel
theorem dX7_part_31 : decode cX7_part 31 = .ok (.getfield 27, 3) := by decide +kernel
theorem dX7_part_34 : decode cX7_part 34 = .ok (.iload_n 2, 1) := by decide +kernel
theorem dX7_part_35 : decode cX7_part 35 = .ok (.aaload, 1) := by decide +kernel
theorem dX7_part_36 : decode cX7_part 36 = .ok (.astore 4, 2) := by decide +kernel
theorem dX7_part_38 : decode cX7_part 38 = .ok (.aload_n 3, 1) := by decide +kernel
theorem dX7_part_39 : decode cX7_part 39 = .ok (.getfield 134, 3) := by decide +kernel
theorem dX7_part_42 : decode cX7_part 42 = .ok (.invokestatic 137, 3) := by decide +kernel
theorem dX7_part_45 : decode cX7_part 45 = .ok (.ifCond .ne 5, 3) := by decide +kernel
theorem dX7_part_48 : decode cX7_part 48 = .ok (.iconst (-1), 1) := by decide +kernel
theorem dX7_part_49 : decode cX7_part 49 = .ok (.ireturn, 1) := by decide +kernel
theorem dX7_part_50 : decode cX7_part 50 = .ok (.aload_n 3, 1) := by decide +kernel
theorem dX7_part_51 : decode cX7_part 51 = .ok (.getfield 140, 3) := by decide +kernel
theorem dX7_part_54 : decode cX7_part 54 = .ok (.ifCond .eq 6, 3) := by decide +kernel
theorem dX7_part_57 : decode cX7_part 57 = .ok (.bipush (-2), 2) := by decide +kernel
theorem dX7_part_59 : decode cX7_part 59 = .ok (.ireturn, 1) := by decide +kernel
theorem dX7_part_60 : decode cX7_part 60 = .ok (.aload_n 3, 1) := by decide +kernel
theorem dX7_part_61 : decode cX7_part 61 = .ok (.getfield 144, 3) := by decide +kernel
theorem dX7_part_64 : decode cX7_part 64 = .ok (.bipush 8, 2) := by decide +kernel
theorem dX7_part_66 : decode cX7_part 66 = .ok (.if_icmp .ge 19, 3) := by decide +kernel
theorem dX7_part_69 : decode cX7_part 69 = .ok (.aload_n 3, 1) := by decide +kernel
theorem dX7_part_70 : decode cX7_part 70 = .ok (.getfield 147, 3) := by decide +kernel
theorem dX7_part_73 : decode cX7_part 73 = .ok (.aload 4, 2) := by decide +kernel
theorem dX7_part_75 : decode cX7_part 75 = .ok (.getfield 147, 3) := by decide +kernel
theorem dX7_part_78 : decode cX7_part 78 = .ok (.iadd, 1) := by decide +kernel
theorem dX7_part_79 : decode cX7_part 79 = .ok (.sipush 200, 3) := by decide +kernel
theorem dX7_part_82 : decode cX7_part 82 = .ok (.if_icmp .le 6, 3) := by decide +kernel
theorem dX7_part_85 : decode cX7_part 85 = .ok (.bipush (-3), 2) := by decide +kernel
theorem dX7_part_87 : decode cX7_part 87 = .ok (.ireturn, 1) := by decide +kernel
theorem dX7_part_88 : decode cX7_part 88 = .ok (.aload_n 3, 1) := by decide +kernel
theorem dX7_part_89 : decode cX7_part 89 = .ok (.aload 4, 2) := by decide +kernel
theorem dX7_part_91 : decode cX7_part 91 = .ok (.invokevirtual 124, 3) := by decide +kernel
theorem dX7_part_94 : decode cX7_part 94 = .ok (.aload_n 3, 1) := by decide +kernel
theorem dX7_part_95 : decode cX7_part 95 = .ok (.getfield 144, 3) := by decide +kernel
theorem dX7_part_98 : decode cX7_part 98 = .ok (.ireturn, 1) := by decide +kernel
theorem dX7_score_0 : decode cX7_score 0 = .ok (.aload_n 0, 1) := by decide +kernel
theorem dX7_score_1 : decode cX7_score 1 = .ok (.iload_n 1, 1) := by decide +kernel
theorem dX7_score_2 : decode cX7_score 2 = .ok (.invokevirtual 131, 3) := by decide +kernel
theorem dX7_score_5 : decode cX7_score 5 = .ok (.ifCond .eq 12, 3) := by decide +kernel
theorem dX7_score_8 : decode cX7_score 8 = .ok (.iload_n 2, 1) := by decide +kernel
theorem dX7_score_9 : decode cX7_score 9 = .ok (.bipush 40, 2) := by decide +kernel
theorem dX7_score_11 : decode cX7_score 11 = .ok (.invokestatic 46, 3) := by decide +kernel
theorem dX7_score_14 : decode cX7_score 14 = .ok (.ifCond .ne 5, 3) := by decide +kernel
theorem dX7_score_17 : decode cX7_score 17 = .ok (.lconst 0, 1) := by decide +kernel
theorem dX7_score_18 : decode cX7_score 18 = .ok (.lreturn, 1) := by decide +kernel
theorem dX7_score_19 : decode cX7_score 19 = .ok (.aload_n 0, 1) := by decide +kernel
theorem dX7_score_20 : decode cX7_score 20 = .ok (.getfield 21, 3) := by decide +kernel
theorem dX7_score_23 : decode cX7_score 23 = .ok (.aload_n 0, 1) := by decide +kernel
theorem dX7_score_24 : decode cX7_score 24 = .ok (.getfield 27, 3) := by decide +kernel
theorem dX7_score_27 : decode cX7_score 27 = .ok (.iload_n 1, 1) := by decide +kernel
theorem dX7_score_28 : decode cX7_score 28 = .ok (.aaload, 1) := by decide +kernel
theorem dX7_score_29 : decode cX7_score 29 = .ok (.iload_n 2, 1) := by decide +kernel
theorem dX7_score_30 : decode cX7_score 30 = .ok (.invokevirtual 150, 3) := by decide +kernel
theorem dX7_score_33 : decode cX7_score 33 = .ok (.dstore_n 3, 1) := by decide +kernel
theorem dX7_score_34 : decode cX7_score 34 = .ok (.aload_n 0, 1) := by decide +kernel
theorem dX7_score_35 : decode cX7_score 35 = .ok (.getfield 34, 3) := by decide +kernel
theorem dX7_score_38 : decode cX7_score 38 = .ok (.iconst 0, 1) := by decide +kernel
theorem dX7_score_39 : decode cX7_score 39 = .ok (.aload_n 0, 1) := by decide +kernel
theorem dX7_score_40 : decode cX7_score 40 = .ok (.getfield 21, 3) := by decide +kernel
theorem dX7_score_43 : decode cX7_score 43 = .ok (.getfield 153, 3) := by decide +kernel
theorem dX7_score_46 : decode cX7_score 46 = .ok (.iastore, 1) := by decide +kernel
theorem dX7_score_47 : decode cX7_score 47 = .ok (.aload_n 0, 1) := by decide +kernel
theorem dX7_score_48 : decode cX7_score 48 = .ok (.getfield 34, 3) := by decide +kernel
theorem dX7_score_51 : decode cX7_score 51 = .ok (.iconst 1, 1) := by decide +kernel
theorem dX7_score_52 : decode cX7_score 52 = .ok (.aload_n 0, 1) := by decide +kernel
theorem dX7_score_53 : decode cX7_score 53 = .ok (.getfield 21, 3) := by decide +kernel
theorem dX7_score_56 : decode cX7_score 56 = .ok (.getfield 156, 3) := by decide +kernel
theorem dX7_score_59 : decode cX7_score 59 = .ok (.iastore, 1) := by decide +kernel
theorem dX7_score_60 : decode cX7_score 60 = .ok (.aload_n 0, 1) := by decide +kernel
theorem dX7_score_61 : decode cX7_score 61 = .ok (.getfield 34, 3) := by decide +kernel
theorem dX7_score_64 : decode cX7_score 64 = .ok (.iconst 2, 1) := by decide +kernel
theorem dX7_score_65 : decode cX7_score 65 = .ok (.aload_n 0, 1) := by decide +kernel
theorem dX7_score_66 : decode cX7_score 66 = .ok (.getfield 21, 3) := by decide +kernel
theorem dX7_score_69 : decode cX7_score 69 = .ok (.getfield 159, 3) := by decide +kernel
theorem dX7_score_72 : decode cX7_score 72 = .ok (.iastore, 1) := by decide +kernel
theorem dX7_score_73 : decode cX7_score 73 = .ok (.aload_n 0, 1) := by decide +kernel
theorem dX7_score_74 : decode cX7_score 74 = .ok (.getfield 34, 3) := by decide +kernel
theorem dX7_score_77 : decode cX7_score 77 = .ok (.iconst 3, 1) := by decide +kernel
theorem dX7_score_78 : decode cX7_score 78 = .ok (.aload_n 0, 1) := by decide +kernel
theorem dX7_score_79 : decode cX7_score 79 = .ok (.getfield 21, 3) := by decide +kernel
theorem dX7_score_82 : decode cX7_score 82 = .ok (.getfield 162, 3) := by decide +kernel
theorem dX7_score_85 : decode cX7_score 85 = .ok (.iastore, 1) := by decide +kernel
theorem dX7_score_86 : decode cX7_score 86 = .ok (.aload_n 0, 1) := by decide +kernel
theorem dX7_score_87 : decode cX7_score 87 = .ok (.getfield 34, 3) := by decide +kernel
theorem dX7_score_90 : decode cX7_score 90 = .ok (.iconst 4, 1) := by decide +kernel
theorem dX7_score_91 : decode cX7_score 91 = .ok (.aload_n 0, 1) := by decide +kernel
theorem dX7_score_92 : decode cX7_score 92 = .ok (.getfield 21, 3) := by decide +kernel
theorem dX7_score_95 : decode cX7_score 95 = .ok (.getfield 165, 3) := by decide +kernel
theorem dX7_score_98 : decode cX7_score 98 = .ok (.iastore, 1) := by decide +kernel
theorem dX7_score_99 : decode cX7_score 99 = .ok (.aload_n 0, 1) := by decide +kernel
theorem dX7_score_100 : decode cX7_score 100 = .ok (.getfield 21, 3) := by decide +kernel
theorem dX7_score_103 : decode cX7_score 103 = .ok (.getfield 153, 3) := by decide +kernel
theorem dX7_score_106 : decode cX7_score 106 = .ok (.ifCond .ne 10, 3) := by decide +kernel
theorem dX7_score_109 : decode cX7_score 109 = .ok (.dload_n 3, 1) := by decide +kernel
theorem dX7_score_110 : decode cX7_score 110 = .ok (.invokestatic 84, 3) := by decide +kernel
theorem dX7_score_113 : decode cX7_score 113 = .ok (.goto 4, 3) := by decide +kernel
theorem dX7_score_116 : decode cX7_score 116 = .ok (.lconst 0, 1) := by decide +kernel
theorem dX7_score_117 : decode cX7_score 117 = .ok (.lreturn, 1) := by decide +kernel
theorem dX7_told_0 : decode cX7_told 0 = .ok (.iload_n 1, 1) := by decide +kernel
theorem dX7_told_1 : decode cX7_told 1 = .ok (.iconst 5, 1) := by decide +kernel
theorem dX7_told_2 : decode cX7_told 2 = .ok (.invokestatic 46, 3) := by decide +kernel
theorem dX7_told_5 : decode cX7_told 5 = .ok (.ifCond .eq 12, 3) := by decide +kernel
theorem dX7_told_8 : decode cX7_told 8 = .ok (.aload_n 0, 1) := by decide +kernel
theorem dX7_told_9 : decode cX7_told 9 = .ok (.getfield 34, 3) := by decide +kernel
theorem dX7_told_12 : decode cX7_told 12 = .ok (.iload_n 1, 1) := by decide +kernel
theorem dX7_told_13 : decode cX7_told 13 = .ok (.iaload, 1) := by decide +kernel
theorem dX7_told_14 : decode cX7_told 14 = .ok (.goto 4, 3) := by decide +kernel
theorem dX7_told_17 : decode cX7_told 17 = .ok (.iconst (-1), 1) := by decide +kernel
theorem dX7_told_18 : decode cX7_told 18 = .ok (.ireturn, 1) := by decide +kernel
theorem dX7_about_0 : decode cX7_about 0 = .ok (.aload_n 0, 1) := by decide +kernel
theorem dX7_about_1 : decode cX7_about 1 = .ok (.iload_n 1, 1) := by decide +kernel
theorem dX7_about_2 : decode cX7_about 2 = .ok (.invokevirtual 131, 3) := by decide +kernel
theorem dX7_about_5 : decode cX7_about 5 = .ok (.ifCond .eq 12, 3) := by decide +kernel
theorem dX7_about_8 : decode cX7_about 8 = .ok (.iload_n 2, 1) := by decide +kernel
theorem dX7_about_9 : decode cX7_about 9 = .ok (.bipush 12, 2) := by decide +kernel
theorem dX7_about_11 : decode cX7_about 11 = .ok (.invokestatic 46, 3) := by decide +kernel
theorem dX7_about_14 : decode cX7_about 14 = .ok (.ifCond .ne 5, 3) := by decide +kernel
theorem dX7_about_17 : decode cX7_about 17 = .ok (.iconst (-1), 1) := by decide +kernel
theorem dX7_about_18 : decode cX7_about 18 = .ok (.ireturn, 1) := by decide +kernel
theorem dX7_about_19 : decode cX7_about 19 = .ok (.aload_n 0, 1) := by decide +kernel
theorem dX7_about_20 : decode cX7_about 20 = .ok (.getfield 27, 3) := by decide +kernel
theorem dX7_about_23 : decode cX7_about 23 = .ok (.iload_n 1, 1) := by decide +kernel
theorem dX7_about_24 : decode cX7_about 24 = .ok (.aaload, 1) := by decide +kernel
theorem dX7_about_25 : decode cX7_about 25 = .ok (.astore_n 3, 1) := by decide +kernel
theorem dX7_about_26 : decode cX7_about 26 = .ok (.iload_n 2, 1) := by decide +kernel
theorem dX7_about_27 : decode cX7_about 27 = .ok (.ifCond .ne 8, 3) := by decide +kernel
theorem dX7_about_30 : decode cX7_about 30 = .ok (.aload_n 3, 1) := by decide +kernel
theorem dX7_about_31 : decode cX7_about 31 = .ok (.getfield 134, 3) := by decide +kernel
theorem dX7_about_34 : decode cX7_about 34 = .ok (.ireturn, 1) := by decide +kernel
theorem dX7_about_35 : decode cX7_about 35 = .ok (.iload_n 2, 1) := by decide +kernel
theorem dX7_about_36 : decode cX7_about 36 = .ok (.iconst 1, 1) := by decide +kernel
theorem dX7_about_37 : decode cX7_about 37 = .ok (.if_icmp .ne 8, 3) := by decide +kernel
theorem dX7_about_40 : decode cX7_about 40 = .ok (.aload_n 3, 1) := by decide +kernel
theorem dX7_about_41 : decode cX7_about 41 = .ok (.getfield 144, 3) := by decide +kernel
theorem dX7_about_44 : decode cX7_about 44 = .ok (.ireturn, 1) := by decide +kernel
theorem dX7_about_45 : decode cX7_about 45 = .ok (.iload_n 2, 1) := by decide +kernel
theorem dX7_about_46 : decode cX7_about 46 = .ok (.iconst 2, 1) := by decide +kernel
theorem dX7_about_47 : decode cX7_about 47 = .ok (.if_icmp .ne 8, 3) := by decide +kernel
theorem dX7_about_50 : decode cX7_about 50 = .ok (.aload_n 3, 1) := by decide +kernel
theorem dX7_about_51 : decode cX7_about 51 = .ok (.getfield 147, 3) := by decide +kernel
theorem dX7_about_54 : decode cX7_about 54 = .ok (.ireturn, 1) := by decide +kernel
theorem dX7_about_55 : decode cX7_about 55 = .ok (.iload_n 2, 1) := by decide +kernel
theorem dX7_about_56 : decode cX7_about 56 = .ok (.iconst 3, 1) := by decide +kernel
theorem dX7_about_57 : decode cX7_about 57 = .ok (.if_icmp .ne 16, 3) := by decide +kernel
theorem dX7_about_60 : decode cX7_about 60 = .ok (.aload_n 3, 1) := by decide +kernel
theorem dX7_about_61 : decode cX7_about 61 = .ok (.getfield 168, 3) := by decide +kernel
theorem dX7_about_64 : decode cX7_about 64 = .ok (.ifCond .eq 7, 3) := by decide +kernel
theorem dX7_about_67 : decode cX7_about 67 = .ok (.iconst 1, 1) := by decide +kernel
theorem dX7_about_68 : decode cX7_about 68 = .ok (.goto 4, 3) := by decide +kernel
theorem dX7_about_71 : decode cX7_about 71 = .ok (.iconst 0, 1) := by decide +kernel
theorem dX7_about_72 : decode cX7_about 72 = .ok (.ireturn, 1) := by decide +kernel
theorem dX7_about_73 : decode cX7_about 73 = .ok (.iload_n 2, 1) := by decide +kernel
theorem dX7_about_74 : decode cX7_about 74 = .ok (.bipush 8, 2) := by decide +kernel
theorem dX7_about_76 : decode cX7_about 76 = .ok (.if_icmp .ge 14, 3) := by decide +kernel
theorem dX7_about_79 : decode cX7_about 79 = .ok (.aload_n 3, 1) := by decide +kernel
theorem dX7_about_80 : decode cX7_about 80 = .ok (.getfield 171, 3) := by decide +kernel
theorem dX7_about_83 : decode cX7_about 83 = .ok (.iload_n 2, 1) := by decide +kernel
theorem dX7_about_84 : decode cX7_about 84 = .ok (.iconst 4, 1) := by decide +kernel
theorem dX7_about_85 : decode cX7_about 85 = .ok (.isub, 1) := by decide +kernel
theorem dX7_about_86 : decode cX7_about 86 = .ok (.ishr, 1) := by decide +kernel
theorem dX7_about_87 : decode cX7_about 87 = .ok (.iconst 1, 1) := by decide +kernel
theorem dX7_about_88 : decode cX7_about 88 = .ok (.iand, 1) := by decide +kernel
theorem dX7_about_89 : decode cX7_about 89 = .ok (.ireturn, 1) := by decide +kernel
theorem dX7_about_90 : decode cX7_about 90 = .ok (.aload_n 3, 1) := by decide +kernel
theorem dX7_about_91 : decode cX7_about 91 = .ok (.getfield 174, 3) := by decide +kernel
theorem dX7_about_94 : decode cX7_about 94 = .ok (.iload_n 2, 1) := by decide +kernel
theorem dX7_about_95 : decode cX7_about 95 = .ok (.iconst 4, 1) := by decide +kernel
theorem dX7_about_96 : decode cX7_about 96 = .ok (.isub, 1) := by decide +kernel
theorem dX7_about_97 : decode cX7_about 97 = .ok (.iconst 4, 1) := by decide +kernel
theorem dX7_about_98 : decode cX7_about 98 = .ok (.isub, 1) := by decide +kernel
theorem dX7_about_99 : decode cX7_about 99 = .ok (.ishr, 1) := by decide +kernel
theorem dX7_about_100 : decode cX7_about 100 = .ok (.iconst 1, 1) := by decide +kernel
theorem dX7_about_101 : decode cX7_about 101 = .ok (.iand, 1) := by decide +kernel
theorem dX7_about_102 : decode cX7_about 102 = .ok (.ireturn, 1) := by decide +kernel
theorem dX7_partOf_0 : decode cX7_partOf 0 = .ok (.aload_n 0, 1) := by decide +kernel
theorem dX7_partOf_1 : decode cX7_partOf 1 = .ok (.iload_n 1, 1) := by decide +kernel
theorem dX7_partOf_2 : decode cX7_partOf 2 = .ok (.invokevirtual 131, 3) := by decide +kernel
theorem dX7_partOf_5 : decode cX7_partOf 5 = .ok (.ifCond .eq 19, 3) := by decide +kernel
theorem dX7_partOf_8 : decode cX7_partOf 8 = .ok (.iload_n 2, 1) := by decide +kernel
theorem dX7_partOf_9 : decode cX7_partOf 9 = .ok (.aload_n 0, 1) := by decide +kernel
theorem dX7_partOf_10 : decode cX7_partOf 10 = .ok (.getfield 27, 3) := by decide +kernel
theorem dX7_partOf_13 : decode cX7_partOf 13 = .ok (.iload_n 1, 1) := by decide +kernel
theorem dX7_partOf_14 : decode cX7_partOf 14 = .ok (.aaload, 1) := by decide +kernel
theorem dX7_partOf_15 : decode cX7_partOf 15 = .ok (.getfield 144, 3) := by decide +kernel
theorem dX7_partOf_18 : decode cX7_partOf 18 = .ok (.invokestatic 46, 3) := by decide +kernel
theorem dX7_partOf_21 : decode cX7_partOf 21 = .ok (.ifCond .ne 5, 3) := by decide +kernel
theorem dX7_partOf_24 : decode cX7_partOf 24 = .ok (.iconst (-1), 1) := by decide +kernel
theorem dX7_partOf_25 : decode cX7_partOf 25 = .ok (.ireturn, 1) := by decide +kernel
theorem dX7_partOf_26 : decode cX7_partOf 26 = .ok (.aload_n 0, 1) := by decide +kernel
theorem dX7_partOf_27 : decode cX7_partOf 27 = .ok (.getfield 27, 3) := by decide +kernel
theorem dX7_partOf_30 : decode cX7_partOf 30 = .ok (.iload_n 1, 1) := by decide +kernel
theorem dX7_partOf_31 : decode cX7_partOf 31 = .ok (.aaload, 1) := by decide +kernel
theorem dX7_partOf_32 : decode cX7_partOf 32 = .ok (.getfield 177, 3) := by decide +kernel
theorem dX7_partOf_35 : decode cX7_partOf 35 = .ok (.iload_n 2, 1) := by decide +kernel
theorem dX7_partOf_36 : decode cX7_partOf 36 = .ok (.aaload, 1) := by decide +kernel
theorem dX7_partOf_37 : decode cX7_partOf 37 = .ok (.getfield 128, 3) := by decide +kernel
theorem dX7_partOf_40 : decode cX7_partOf 40 = .ok (.ireturn, 1) := by decide +kernel
theorem dX7_top_0 : decode cX7_top 0 = .ok (.aload_n 0, 1) := by decide +kernel
theorem dX7_top_1 : decode cX7_top 1 = .ok (.iload_n 1, 1) := by decide +kernel
theorem dX7_top_2 : decode cX7_top 2 = .ok (.invokevirtual 131, 3) := by decide +kernel
theorem dX7_top_5 : decode cX7_top 5 = .ok (.ifCond .eq 12, 3) := by decide +kernel
theorem dX7_top_8 : decode cX7_top 8 = .ok (.iload_n 2, 1) := by decide +kernel
theorem dX7_top_9 : decode cX7_top 9 = .ok (.bipush 40, 2) := by decide +kernel
theorem dX7_top_11 : decode cX7_top 11 = .ok (.invokestatic 46, 3) := by decide +kernel
theorem dX7_top_14 : decode cX7_top 14 = .ok (.ifCond .ne 5, 3) := by decide +kernel
theorem dX7_top_17 : decode cX7_top 17 = .ok (.iconst (-1), 1) := by decide +kernel
theorem dX7_top_18 : decode cX7_top 18 = .ok (.ireturn, 1) := by decide +kernel
theorem dX7_top_19 : decode cX7_top 19 = .ok (.iconst 0, 1) := by decide +kernel
theorem dX7_top_20 : decode cX7_top 20 = .ok (.istore_n 3, 1) := by decide +kernel
theorem dX7_top_21 : decode cX7_top 21 = .ok (.iload_n 3, 1) := by decide +kernel
theorem dX7_top_22 : decode cX7_top 22 = .ok (.bipush 40, 2) := by decide +kernel
theorem dX7_top_24 : decode cX7_top 24 = .ok (.if_icmp .ge 50, 3) := by decide +kernel
theorem dX7_top_27 : decode cX7_top 27 = .ok (.aload_n 0, 1) := by decide +kernel
theorem dX7_top_28 : decode cX7_top 28 = .ok (.getfield 38, 3) := by decide +kernel
theorem dX7_top_31 : decode cX7_top 31 = .ok (.iload_n 3, 1) := by decide +kernel
theorem dX7_top_32 : decode cX7_top 32 = .ok (.aload_n 0, 1) := by decide +kernel
theorem dX7_top_33 : decode cX7_top 33 = .ok (.getfield 21, 3) := by decide +kernel
theorem dX7_top_36 : decode cX7_top 36 = .ok (.aload_n 0, 1) := by decide +kernel
theorem dX7_top_37 : decode cX7_top 37 = .ok (.getfield 27, 3) := by decide +kernel
theorem dX7_top_40 : decode cX7_top 40 = .ok (.iload_n 1, 1) := by decide +kernel
theorem dX7_top_41 : decode cX7_top 41 = .ok (.aaload, 1) := by decide +kernel
theorem dX7_top_42 : decode cX7_top 42 = .ok (.iload_n 3, 1) := by decide +kernel
theorem dX7_top_43 : decode cX7_top 43 = .ok (.invokevirtual 150, 3) := by decide +kernel
theorem dX7_top_46 : decode cX7_top 46 = .ok (.dastore, 1) := by decide +kernel
theorem dX7_top_47 : decode cX7_top 47 = .ok (.aload_n 0, 1) := by decide +kernel
theorem dX7_top_48 : decode cX7_top 48 = .ok (.getfield 42, 3) := by decide +kernel
theorem dX7_top_51 : decode cX7_top 51 = .ok (.iload_n 3, 1) := by decide +kernel
theorem dX7_top_52 : decode cX7_top 52 = .ok (.aload_n 0, 1) := by decide +kernel
theorem dX7_top_53 : decode cX7_top 53 = .ok (.getfield 21, 3) := by decide +kernel
theorem dX7_top_56 : decode cX7_top 56 = .ok (.getfield 153, 3) := by decide +kernel
theorem dX7_top_59 : decode cX7_top 59 = .ok (.ifCond .eq 7, 3) := by decide +kernel
theorem dX7_top_62 : decode cX7_top 62 = .ok (.iconst 1, 1) := by decide +kernel
theorem dX7_top_63 : decode cX7_top 63 = .ok (.goto 4, 3) := by decide +kernel
theorem dX7_top_66 : decode cX7_top 66 = .ok (.iconst 0, 1) := by decide +kernel
theorem dX7_top_67 : decode cX7_top 67 = .ok (.bastore, 1) := by decide +kernel
theorem dX7_top_68 : decode cX7_top 68 = .ok (.iinc 3 1, 3) := by decide +kernel
theorem dX7_top_71 : decode cX7_top 71 = .ok (.goto (-50), 3) := by decide +kernel
theorem dX7_top_74 : decode cX7_top 74 = .ok (.iconst 0, 1) := by decide +kernel
theorem dX7_top_75 : decode cX7_top 75 = .ok (.istore_n 3, 1) := by decide +kernel
theorem dX7_top_76 : decode cX7_top 76 = .ok (.iload_n 3, 1) := by decide +kernel
theorem dX7_top_77 : decode cX7_top 77 = .ok (.bipush 40, 2) := by decide +kernel
theorem dX7_top_79 : decode cX7_top 79 = .ok (.if_icmp .ge 20, 3) := by decide +kernel
theorem dX7_top_82 : decode cX7_top 82 = .ok (.aload_n 0, 1) := by decide +kernel
theorem dX7_top_83 : decode cX7_top 83 = .ok (.iload_n 3, 1) := by decide +kernel
theorem dX7_top_84 : decode cX7_top 84 = .ok (.invokevirtual 180, 3) := by decide +kernel
theorem dX7_top_87 : decode cX7_top 87 = .ok (.iload_n 2, 1) := by decide +kernel
theorem dX7_top_88 : decode cX7_top 88 = .ok (.if_icmp .ne 5, 3) := by decide +kernel
theorem dX7_top_91 : decode cX7_top 91 = .ok (.iload_n 3, 1) := by decide +kernel
theorem dX7_top_92 : decode cX7_top 92 = .ok (.ireturn, 1) := by decide +kernel
theorem dX7_top_93 : decode cX7_top 93 = .ok (.iinc 3 1, 3) := by decide +kernel
theorem dX7_top_96 : decode cX7_top 96 = .ok (.goto (-20), 3) := by decide +kernel
theorem dX7_top_99 : decode cX7_top 99 = .ok (.iconst (-1), 1) := by decide +kernel
theorem dX7_top_100 : decode cX7_top 100 = .ok (.ireturn, 1) := by decide +kernel
theorem dX7_clear_0 : decode cX7_clear 0 = .ok (.aload_n 0, 1) := by decide +kernel
theorem dX7_clear_1 : decode cX7_clear 1 = .ok (.getfield 10, 3) := by decide +kernel
theorem dX7_clear_4 : decode cX7_clear 4 = .ok (.invokevirtual 183, 3) := by decide +kernel
theorem dX7_clear_7 : decode cX7_clear 7 = .ok (.iconst 0, 1) := by decide +kernel
theorem dX7_clear_8 : decode cX7_clear 8 = .ok (.ireturn, 1) := by decide +kernel
theorem dX7_forget_0 : decode cX7_forget 0 = .ok (.aload_n 0, 1) := by decide +kernel
theorem dX7_forget_1 : decode cX7_forget 1 = .ok (.getfield 109, 3) := by decide +kernel
theorem dX7_forget_4 : decode cX7_forget 4 = .ok (.istore_n 1, 1) := by decide +kernel
theorem dX7_forget_5 : decode cX7_forget 5 = .ok (.aload_n 0, 1) := by decide +kernel
theorem dX7_forget_6 : decode cX7_forget 6 = .ok (.iconst 0, 1) := by decide +kernel
theorem dX7_forget_7 : decode cX7_forget 7 = .ok (.putfield 109, 3) := by decide +kernel
theorem dX7_forget_10 : decode cX7_forget 10 = .ok (.iload_n 1, 1) := by decide +kernel
theorem dX7_forget_11 : decode cX7_forget 11 = .ok (.ireturn, 1) := by decide +kernel
theorem dX7_isIn_0 : decode cX7_isIn 0 = .ok (.iload_n 0, 1) := by decide +kernel
theorem dX7_isIn_1 : decode cX7_isIn 1 = .ok (.ifCond .lt 12, 3) := by decide +kernel
theorem dX7_isIn_4 : decode cX7_isIn 4 = .ok (.iload_n 0, 1) := by decide +kernel
theorem dX7_isIn_5 : decode cX7_isIn 5 = .ok (.iload_n 1, 1) := by decide +kernel
theorem dX7_isIn_6 : decode cX7_isIn 6 = .ok (.if_icmp .ge 7, 3) := by decide +kernel
theorem dX7_isIn_9 : decode cX7_isIn 9 = .ok (.iconst 1, 1) := by decide +kernel
theorem dX7_isIn_10 : decode cX7_isIn 10 = .ok (.goto 4, 3) := by decide +kernel
theorem dX7_isIn_13 : decode cX7_isIn 13 = .ok (.iconst 0, 1) := by decide +kernel
theorem dX7_isIn_14 : decode cX7_isIn 14 = .ok (.ireturn, 1) := by decide +kernel
theorem dX7_isFormula_0 : decode cX7_isFormula 0 = .ok (.iload_n 1, 1) := by decide +kernel
theorem dX7_isFormula_1 : decode cX7_isFormula 1 = .ok (.aload_n 0, 1) := by decide +kernel
theorem dX7_isFormula_2 : decode cX7_isFormula 2 = .ok (.getfield 109, 3) := by decide +kernel
theorem dX7_isFormula_5 : decode cX7_isFormula 5 = .ok (.invokestatic 46, 3) := by decide +kernel
theorem dX7_isFormula_8 : decode cX7_isFormula 8 = .ok (.ireturn, 1) := by decide +kernel
theorem dX7_placesAreRight_0 : decode cX7_placesAreRight 0 = .ok (.iload_n 1, 1) := by decide +kernel
theorem dX7_placesAreRight_1 : decode cX7_placesAreRight 1 = .ok (.invokestatic 186, 3) := by decide +kernel
theorem dX7_placesAreRight_4 : decode cX7_placesAreRight 4 = .ok (.ifCond .eq 9, 3) := by decide +kernel
theorem dX7_placesAreRight_7 : decode cX7_placesAreRight 7 = .ok (.iload_n 2, 1) := by decide +kernel
theorem dX7_placesAreRight_8 : decode cX7_placesAreRight 8 = .ok (.iconst 4, 1) := by decide +kernel
theorem dX7_placesAreRight_9 : decode cX7_placesAreRight 9 = .ok (.invokestatic 46, 3) := by decide +kernel
theorem dX7_placesAreRight_12 : decode cX7_placesAreRight 12 = .ok (.ireturn, 1) := by decide +kernel
theorem dX7_placesAreRight_13 : decode cX7_placesAreRight 13 = .ok (.iload_n 1, 1) := by decide +kernel
theorem dX7_placesAreRight_14 : decode cX7_placesAreRight 14 = .ok (.iconst 5, 1) := by decide +kernel
theorem dX7_placesAreRight_15 : decode cX7_placesAreRight 15 = .ok (.if_icmp .ne 9, 3) := by decide +kernel
theorem dX7_placesAreRight_18 : decode cX7_placesAreRight 18 = .ok (.iload_n 2, 1) := by decide +kernel
theorem dX7_placesAreRight_19 : decode cX7_placesAreRight 19 = .ok (.iconst 4, 1) := by decide +kernel
theorem dX7_placesAreRight_20 : decode cX7_placesAreRight 20 = .ok (.invokestatic 46, 3) := by decide +kernel
theorem dX7_placesAreRight_23 : decode cX7_placesAreRight 23 = .ok (.ireturn, 1) := by decide +kernel
theorem dX7_placesAreRight_24 : decode cX7_placesAreRight 24 = .ok (.iload_n 1, 1) := by decide +kernel
theorem dX7_placesAreRight_25 : decode cX7_placesAreRight 25 = .ok (.bipush 13, 2) := by decide +kernel
theorem dX7_placesAreRight_27 : decode cX7_placesAreRight 27 = .ok (.if_icmp .ne 13, 3) := by decide +kernel
theorem dX7_placesAreRight_30 : decode cX7_placesAreRight 30 = .ok (.aload_n 0, 1) := by decide +kernel
theorem dX7_placesAreRight_31 : decode cX7_placesAreRight 31 = .ok (.iload_n 3, 1) := by decide +kernel
theorem dX7_placesAreRight_32 : decode cX7_placesAreRight 32 = .ok (.invokevirtual 131, 3) := by decide +kernel
theorem dX7_placesAreRight_35 : decode cX7_placesAreRight 35 = .ok (.ifCond .ne 5, 3) := by decide +kernel
theorem dX7_placesAreRight_38 : decode cX7_placesAreRight 38 = .ok (.iconst 0, 1) := by decide +kernel
theorem dX7_placesAreRight_39 : decode cX7_placesAreRight 39 = .ok (.ireturn, 1) := by decide +kernel
theorem dX7_placesAreRight_40 : decode cX7_placesAreRight 40 = .ok (.iload_n 1, 1) := by decide +kernel
theorem dX7_placesAreRight_41 : decode cX7_placesAreRight 41 = .ok (.invokestatic 113, 3) := by decide +kernel
theorem dX7_placesAreRight_44 : decode cX7_placesAreRight 44 = .ok (.ifCond .eq 11, 3) := by decide +kernel
theorem dX7_placesAreRight_47 : decode cX7_placesAreRight 47 = .ok (.aload_n 0, 1) := by decide +kernel
theorem dX7_placesAreRight_48 : decode cX7_placesAreRight 48 = .ok (.iload_n 2, 1) := by decide +kernel
theorem dX7_placesAreRight_49 : decode cX7_placesAreRight 49 = .ok (.invokevirtual 131, 3) := by decide +kernel
theorem dX7_placesAreRight_52 : decode cX7_placesAreRight 52 = .ok (.ifCond .eq 7, 3) := by decide +kernel
theorem dX7_placesAreRight_55 : decode cX7_placesAreRight 55 = .ok (.iconst 1, 1) := by decide +kernel
theorem dX7_placesAreRight_56 : decode cX7_placesAreRight 56 = .ok (.goto 4, 3) := by decide +kernel
theorem dX7_placesAreRight_59 : decode cX7_placesAreRight 59 = .ok (.iconst 0, 1) := by decide +kernel
theorem dX7_placesAreRight_60 : decode cX7_placesAreRight 60 = .ok (.ireturn, 1) := by decide +kernel
theorem dX7_sizeOf_0 : decode cX7_sizeOf 0 = .ok (.aload_n 0, 1) := by decide +kernel
theorem dX7_sizeOf_1 : decode cX7_sizeOf 1 = .ok (.ifnonnull 7, 3) := by decide +kernel
theorem dX7_sizeOf_4 : decode cX7_sizeOf 4 = .ok (.iconst 0, 1) := by decide +kernel
theorem dX7_sizeOf_5 : decode cX7_sizeOf 5 = .ok (.goto 7, 3) := by decide +kernel
theorem dX7_sizeOf_8 : decode cX7_sizeOf 8 = .ok (.aload_n 0, 1) := by decide +kernel
theorem dX7_sizeOf_9 : decode cX7_sizeOf 9 = .ok (.getfield 147, 3) := by decide +kernel
theorem dX7_sizeOf_12 : decode cX7_sizeOf 12 = .ok (.ireturn, 1) := by decide +kernel
theorem dX7_howManyAheadOf_0 : decode cX7_howManyAheadOf 0 = .ok (.iconst 0, 1) := by decide +kernel
theorem dX7_howManyAheadOf_1 : decode cX7_howManyAheadOf 1 = .ok (.istore_n 2, 1) := by decide +kernel
theorem dX7_howManyAheadOf_2 : decode cX7_howManyAheadOf 2 = .ok (.iconst 0, 1) := by decide +kernel
theorem dX7_howManyAheadOf_3 : decode cX7_howManyAheadOf 3 = .ok (.istore_n 3, 1) := by decide +kernel
theorem dX7_howManyAheadOf_4 : decode cX7_howManyAheadOf 4 = .ok (.iload_n 3, 1) := by decide +kernel
theorem dX7_howManyAheadOf_5 : decode cX7_howManyAheadOf 5 = .ok (.bipush 40, 2) := by decide +kernel
theorem dX7_howManyAheadOf_7 : decode cX7_howManyAheadOf 7 = .ok (.if_icmp .ge 21, 3) := by decide +kernel
theorem dX7_howManyAheadOf_10 : decode cX7_howManyAheadOf 10 = .ok (.aload_n 0, 1) := by decide +kernel
theorem dX7_howManyAheadOf_11 : decode cX7_howManyAheadOf 11 = .ok (.iload_n 3, 1) := by decide +kernel
theorem dX7_howManyAheadOf_12 : decode cX7_howManyAheadOf 12 = .ok (.iload_n 1, 1) := by decide +kernel
theorem dX7_howManyAheadOf_13 : decode cX7_howManyAheadOf 13 = .ok (.invokevirtual 189, 3) := by decide +kernel
theorem dX7_howManyAheadOf_16 : decode cX7_howManyAheadOf 16 = .ok (.ifCond .eq 6, 3) := by decide +kernel
theorem dX7_howManyAheadOf_19 : decode cX7_howManyAheadOf 19 = .ok (.iinc 2 1, 3) := by decide +kernel
theorem dX7_howManyAheadOf_22 : decode cX7_howManyAheadOf 22 = .ok (.iinc 3 1, 3) := by decide +kernel
theorem dX7_howManyAheadOf_25 : decode cX7_howManyAheadOf 25 = .ok (.goto (-21), 3) := by decide +kernel
theorem dX7_howManyAheadOf_28 : decode cX7_howManyAheadOf 28 = .ok (.iload_n 2, 1) := by decide +kernel
theorem dX7_howManyAheadOf_29 : decode cX7_howManyAheadOf 29 = .ok (.ireturn, 1) := by decide +kernel
theorem dX7_goesAhead_0 : decode cX7_goesAhead 0 = .ok (.aload_n 0, 1) := by decide +kernel
theorem dX7_goesAhead_1 : decode cX7_goesAhead 1 = .ok (.getfield 42, 3) := by decide +kernel
theorem dX7_goesAhead_4 : decode cX7_goesAhead 4 = .ok (.iload_n 1, 1) := by decide +kernel
theorem dX7_goesAhead_5 : decode cX7_goesAhead 5 = .ok (.baload, 1) := by decide +kernel
theorem dX7_goesAhead_6 : decode cX7_goesAhead 6 = .ok (.aload_n 0, 1) := by decide +kernel
theorem dX7_goesAhead_7 : decode cX7_goesAhead 7 = .ok (.getfield 42, 3) := by decide +kernel
theorem dX7_goesAhead_10 : decode cX7_goesAhead 10 = .ok (.iload_n 2, 1) := by decide +kernel
theorem dX7_goesAhead_11 : decode cX7_goesAhead 11 = .ok (.baload, 1) := by decide +kernel
theorem dX7_goesAhead_12 : decode cX7_goesAhead 12 = .ok (.if_icmp .eq 10, 3) := by decide +kernel
theorem dX7_goesAhead_15 : decode cX7_goesAhead 15 = .ok (.aload_n 0, 1) := by decide +kernel
theorem dX7_goesAhead_16 : decode cX7_goesAhead 16 = .ok (.getfield 42, 3) := by decide +kernel
theorem dX7_goesAhead_19 : decode cX7_goesAhead 19 = .ok (.iload_n 2, 1) := by decide +kernel
theorem dX7_goesAhead_20 : decode cX7_goesAhead 20 = .ok (.baload, 1) := by decide +kernel
theorem dX7_goesAhead_21 : decode cX7_goesAhead 21 = .ok (.ireturn, 1) := by decide +kernel
theorem dX7_goesAhead_22 : decode cX7_goesAhead 22 = .ok (.aload_n 0, 1) := by decide +kernel
theorem dX7_goesAhead_23 : decode cX7_goesAhead 23 = .ok (.getfield 42, 3) := by decide +kernel
theorem dX7_goesAhead_26 : decode cX7_goesAhead 26 = .ok (.iload_n 1, 1) := by decide +kernel
theorem dX7_goesAhead_27 : decode cX7_goesAhead 27 = .ok (.baload, 1) := by decide +kernel
theorem dX7_goesAhead_28 : decode cX7_goesAhead 28 = .ok (.ifCond .ne 19, 3) := by decide +kernel
theorem dX7_goesAhead_31 : decode cX7_goesAhead 31 = .ok (.aload_n 0, 1) := by decide +kernel
theorem dX7_goesAhead_32 : decode cX7_goesAhead 32 = .ok (.getfield 38, 3) := by decide +kernel
theorem dX7_goesAhead_35 : decode cX7_goesAhead 35 = .ok (.iload_n 1, 1) := by decide +kernel
theorem dX7_goesAhead_36 : decode cX7_goesAhead 36 = .ok (.daload, 1) := by decide +kernel
theorem dX7_goesAhead_37 : decode cX7_goesAhead 37 = .ok (.aload_n 0, 1) := by decide +kernel
theorem dX7_goesAhead_38 : decode cX7_goesAhead 38 = .ok (.getfield 38, 3) := by decide +kernel
theorem dX7_goesAhead_41 : decode cX7_goesAhead 41 = .ok (.iload_n 2, 1) := by decide +kernel
theorem dX7_goesAhead_42 : decode cX7_goesAhead 42 = .ok (.daload, 1) := by decide +kernel
theorem dX7_goesAhead_43 : decode cX7_goesAhead 43 = .ok (.dcmp .l, 1) := by decide +kernel
theorem dX7_goesAhead_44 : decode cX7_goesAhead 44 = .ok (.ifCond .ne 14, 3) := by decide +kernel
theorem dX7_goesAhead_47 : decode cX7_goesAhead 47 = .ok (.iload_n 1, 1) := by decide +kernel
theorem dX7_goesAhead_48 : decode cX7_goesAhead 48 = .ok (.iload_n 2, 1) := by decide +kernel
theorem dX7_goesAhead_49 : decode cX7_goesAhead 49 = .ok (.if_icmp .ge 7, 3) := by decide +kernel
theorem dX7_goesAhead_52 : decode cX7_goesAhead 52 = .ok (.iconst 1, 1) := by decide +kernel
theorem dX7_goesAhead_53 : decode cX7_goesAhead 53 = .ok (.goto 4, 3) := by decide +kernel
theorem dX7_goesAhead_56 : decode cX7_goesAhead 56 = .ok (.iconst 0, 1) := by decide +kernel
theorem dX7_goesAhead_57 : decode cX7_goesAhead 57 = .ok (.ireturn, 1) := by decide +kernel
theorem dX7_goesAhead_58 : decode cX7_goesAhead 58 = .ok (.aload_n 0, 1) := by decide +kernel
theorem dX7_goesAhead_59 : decode cX7_goesAhead 59 = .ok (.getfield 38, 3) := by decide +kernel
theorem dX7_goesAhead_62 : decode cX7_goesAhead 62 = .ok (.iload_n 1, 1) := by decide +kernel
theorem dX7_goesAhead_63 : decode cX7_goesAhead 63 = .ok (.daload, 1) := by decide +kernel
theorem dX7_goesAhead_64 : decode cX7_goesAhead 64 = .ok (.aload_n 0, 1) := by decide +kernel
theorem dX7_goesAhead_65 : decode cX7_goesAhead 65 = .ok (.getfield 38, 3) := by decide +kernel
theorem dX7_goesAhead_68 : decode cX7_goesAhead 68 = .ok (.iload_n 2, 1) := by decide +kernel
theorem dX7_goesAhead_69 : decode cX7_goesAhead 69 = .ok (.daload, 1) := by decide +kernel
theorem dX7_goesAhead_70 : decode cX7_goesAhead 70 = .ok (.dcmp .l, 1) := by decide +kernel
theorem dX7_goesAhead_71 : decode cX7_goesAhead 71 = .ok (.ifCond .le 7, 3) := by decide +kernel
theorem dX7_goesAhead_74 : decode cX7_goesAhead 74 = .ok (.iconst 1, 1) := by decide +kernel
theorem dX7_goesAhead_75 : decode cX7_goesAhead 75 = .ok (.goto 4, 3) := by decide +kernel
theorem dX7_goesAhead_78 : decode cX7_goesAhead 78 = .ok (.iconst 0, 1) := by decide +kernel
theorem dX7_goesAhead_79 : decode cX7_goesAhead 79 = .ok (.ireturn, 1) := by decide +kernel
theorem dX8_init_0 : decode cX8_init 0 = .ok (.aload_n 0, 1) := by decide +kernel
theorem dX8_init_1 : decode cX8_init 1 = .ok (.invokespecial 1, 3) := by decide +kernel
theorem dX8_init_4 : decode cX8_init 4 = .ok (.aload_n 0, 1) := by decide +kernel
theorem dX8_init_5 : decode cX8_init 5 = .ok (.sipush 160, 3) := by decide +kernel
theorem dX8_init_8 : decode cX8_init 8 = .ok (.newarray .int, 2) := by decide +kernel
theorem dX8_init_10 : decode cX8_init 10 = .ok (.putfield 7, 3) := by decide +kernel
theorem dX8_init_13 : decode cX8_init 13 = .ok (.aload_n 0, 1) := by decide +kernel
theorem dX8_init_14 : decode cX8_init 14 = .ok (.sipush 160, 3) := by decide +kernel
theorem dX8_init_17 : decode cX8_init 17 = .ok (.newarray .int, 2) := by decide +kernel
theorem dX8_init_19 : decode cX8_init 19 = .ok (.putfield 13, 3) := by decide +kernel
theorem dX8_init_22 : decode cX8_init 22 = .ok (.aload_n 0, 1) := by decide +kernel
theorem dX8_init_23 : decode cX8_init 23 = .ok (.sipush 160, 3) := by decide +kernel
theorem dX8_init_26 : decode cX8_init 26 = .ok (.newarray .double, 2) := by decide +kernel
theorem dX8_init_28 : decode cX8_init 28 = .ok (.putfield 16, 3) := by decide +kernel
theorem dX8_init_31 : decode cX8_init 31 = .ok (.aload_n 0, 1) := by decide +kernel
theorem dX8_init_32 : decode cX8_init 32 = .ok (.iconst 4, 1) := by decide +kernel
theorem dX8_init_33 : decode cX8_init 33 = .ok (.newarray .double, 2) := by decide +kernel
theorem dX8_init_35 : decode cX8_init 35 = .ok (.putfield 20, 3) := by decide +kernel
theorem dX8_init_38 : decode cX8_init 38 = .ok (.aload_n 0, 1) := by decide +kernel
theorem dX8_init_39 : decode cX8_init 39 = .ok (.iconst 4, 1) := by decide +kernel
theorem dX8_init_40 : decode cX8_init 40 = .ok (.newarray .boolean, 2) := by decide +kernel
theorem dX8_init_42 : decode cX8_init 42 = .ok (.putfield 23, 3) := by decide +kernel
theorem dX8_init_45 : decode cX8_init 45 = .ok (.aload_n 0, 1) := by decide +kernel
theorem dX8_init_46 : decode cX8_init 46 = .ok (.bipush 60, 2) := by decide +kernel
theorem dX8_init_48 : decode cX8_init 48 = .ok (.newarray .int, 2) := by decide +kernel
theorem dX8_init_50 : decode cX8_init 50 = .ok (.putfield 27, 3) := by decide +kernel
theorem dX8_init_53 : decode cX8_init 53 = .ok (.aload_n 0, 1) := by decide +kernel
theorem dX8_init_54 : decode cX8_init 54 = .ok (.bipush 60, 2) := by decide +kernel
theorem dX8_init_56 : decode cX8_init 56 = .ok (.newarray .int, 2) := by decide +kernel
theorem dX8_init_58 : decode cX8_init 58 = .ok (.putfield 30, 3) := by decide +kernel
theorem dX8_init_61 : decode cX8_init 61 = .ok (.aload_n 0, 1) := by decide +kernel
theorem dX8_init_62 : decode cX8_init 62 = .ok (.bipush 60, 2) := by decide +kernel
theorem dX8_init_64 : decode cX8_init 64 = .ok (.newarray .double, 2) := by decide +kernel
theorem dX8_init_66 : decode cX8_init 66 = .ok (.putfield 33, 3) := by decide +kernel
theorem dX8_init_69 : decode cX8_init 69 = .ok (.aload_n 0, 1) := by decide +kernel
theorem dX8_init_70 : decode cX8_init 70 = .ok (.bipush 60, 2) := by decide +kernel
theorem dX8_init_72 : decode cX8_init 72 = .ok (.newarray .double, 2) := by decide +kernel
theorem dX8_init_74 : decode cX8_init 74 = .ok (.putfield 36, 3) := by decide +kernel
theorem dX8_init_77 : decode cX8_init 77 = .ok (.aload_n 0, 1) := by decide +kernel
theorem dX8_init_78 : decode cX8_init 78 = .ok (.bipush 60, 2) := by decide +kernel
theorem dX8_init_80 : decode cX8_init 80 = .ok (.newarray .int, 2) := by decide +kernel
theorem dX8_init_82 : decode cX8_init 82 = .ok (.putfield 39, 3) := by decide +kernel
theorem dX8_init_85 : decode cX8_init 85 = .ok (.aload_n 0, 1) := by decide +kernel
theorem dX8_init_86 : decode cX8_init 86 = .ok (.sipush 480, 3) := by decide +kernel
theorem dX8_init_89 : decode cX8_init 89 = .ok (.newarray .int, 2) := by decide +kernel
theorem dX8_init_91 : decode cX8_init 91 = .ok (.putfield 42, 3) := by decide +kernel
theorem dX8_init_94 : decode cX8_init 94 = .ok (.aload_n 0, 1) := by decide +kernel
theorem dX8_init_95 : decode cX8_init 95 = .ok (.bipush 60, 2) := by decide +kernel
theorem dX8_init_97 : decode cX8_init 97 = .ok (.newarray .boolean, 2) := by decide +kernel
theorem dX8_init_99 : decode cX8_init 99 = .ok (.putfield 45, 3) := by decide +kernel
theorem dX8_init_102 : decode cX8_init 102 = .ok (.aload_n 0, 1) := by decide +kernel
theorem dX8_init_103 : decode cX8_init 103 = .ok (.bipush 60, 2) := by decide +kernel
theorem dX8_init_105 : decode cX8_init 105 = .ok (.newarray .int, 2) := by decide +kernel
theorem dX8_init_107 : decode cX8_init 107 = .ok (.putfield 48, 3) := by decide +kernel
theorem dX8_init_110 : decode cX8_init 110 = .ok (.aload_n 0, 1) := by decide +kernel
theorem dX8_init_111 : decode cX8_init 111 = .ok (.bipush 60, 2) := by decide +kernel
theorem dX8_init_113 : decode cX8_init 113 = .ok (.newarray .int, 2) := by decide +kernel
theorem dX8_init_115 : decode cX8_init 115 = .ok (.putfield 51, 3) := by decide +kernel
theorem dX8_init_118 : decode cX8_init 118 = .ok (.aload_n 0, 1) := by decide +kernel
theorem dX8_init_119 : decode cX8_init 119 = .ok (.bipush 60, 2) := by decide +kernel
theorem dX8_init_121 : decode cX8_init 121 = .ok (.newarray .int, 2) := by decide +kernel
theorem dX8_init_123 : decode cX8_init 123 = .ok (.putfield 54, 3) := by decide +kernel
theorem dX8_init_126 : decode cX8_init 126 = .ok (.aload_n 0, 1) := by decide +kernel
theorem dX8_init_127 : decode cX8_init 127 = .ok (.bipush 60, 2) := by decide +kernel
theorem dX8_init_129 : decode cX8_init 129 = .ok (.newarray .boolean, 2) := by decide +kernel
theorem dX8_init_131 : decode cX8_init 131 = .ok (.putfield 57, 3) := by decide +kernel
theorem dX8_init_134 : decode cX8_init 134 = .ok (.aload_n 0, 1) := by decide +kernel
theorem dX8_init_135 : decode cX8_init 135 = .ok (.bipush 64, 2) := by decide +kernel
theorem dX8_init_137 : decode cX8_init 137 = .ok (.newarray .int, 2) := by decide +kernel
theorem dX8_init_139 : decode cX8_init 139 = .ok (.putfield 60, 3) := by decide +kernel
theorem dX8_init_142 : decode cX8_init 142 = .ok (.aload_n 0, 1) := by decide +kernel
theorem dX8_init_143 : decode cX8_init 143 = .ok (.bipush 64, 2) := by decide +kernel
theorem dX8_init_145 : decode cX8_init 145 = .ok (.newarray .int, 2) := by decide +kernel
theorem dX8_init_147 : decode cX8_init 147 = .ok (.putfield 63, 3) := by decide +kernel
theorem dX8_init_150 : decode cX8_init 150 = .ok (.aload_n 0, 1) := by decide +kernel
theorem dX8_init_151 : decode cX8_init 151 = .ok (.bipush 64, 2) := by decide +kernel
theorem dX8_init_153 : decode cX8_init 153 = .ok (.newarray .double, 2) := by decide +kernel
theorem dX8_init_155 : decode cX8_init 155 = .ok (.putfield 66, 3) := by decide +kernel
theorem dX8_init_158 : decode cX8_init 158 = .ok (.aload_n 0, 1) := by decide +kernel
theorem dX8_init_159 : decode cX8_init 159 = .ok (.bipush 64, 2) := by decide +kernel
theorem dX8_init_161 : decode cX8_init 161 = .ok (.newarray .double, 2) := by decide +kernel
theorem dX8_init_163 : decode cX8_init 163 = .ok (.putfield 69, 3) := by decide +kernel
theorem dX8_init_166 : decode cX8_init 166 = .ok (.aload_n 0, 1) := by decide +kernel
theorem dX8_init_167 : decode cX8_init 167 = .ok (.iconst 5, 1) := by decide +kernel
theorem dX8_init_168 : decode cX8_init 168 = .ok (.newarray .int, 2) := by decide +kernel
theorem dX8_init_170 : decode cX8_init 170 = .ok (.putfield 72, 3) := by decide +kernel
theorem dX8_init_173 : decode cX8_init 173 = .ok (.aload_n 0, 1) := by decide +kernel
theorem dX8_init_174 : decode cX8_init 174 = .ok (.bipush 40, 2) := by decide +kernel
theorem dX8_init_176 : decode cX8_init 176 = .ok (.newarray .boolean, 2) := by decide +kernel
theorem dX8_init_178 : decode cX8_init 178 = .ok (.putfield 75, 3) := by decide +kernel
theorem dX8_init_181 : decode cX8_init 181 = .ok (.aload_n 0, 1) := by decide +kernel
theorem dX8_init_182 : decode cX8_init 182 = .ok (.bipush 40, 2) := by decide +kernel
theorem dX8_init_184 : decode cX8_init 184 = .ok (.newarray .double, 2) := by decide +kernel
theorem dX8_init_186 : decode cX8_init 186 = .ok (.putfield 78, 3) := by decide +kernel
theorem dX8_init_189 : decode cX8_init 189 = .ok (.aload_n 0, 1) := by decide +kernel
theorem dX8_init_190 : decode cX8_init 190 = .ok (.invokevirtual 81, 3) := by decide +kernel
theorem dX8_init_193 : decode cX8_init 193 = .ok (.pop, 1) := by decide +kernel
theorem dX8_init_194 : decode cX8_init 194 = .ok (.return_, 1) := by decide +kernel
theorem dX8_clear_0 : decode cX8_clear 0 = .ok (.iconst 0, 1) := by decide +kernel
theorem dX8_clear_1 : decode cX8_clear 1 = .ok (.istore_n 1, 1) := by decide +kernel
theorem dX8_clear_2 : decode cX8_clear 2 = .ok (.iload_n 1, 1) := by decide +kernel
theorem dX8_clear_3 : decode cX8_clear 3 = .ok (.sipush 160, 3) := by decide +kernel
theorem dX8_clear_6 : decode cX8_clear 6 = .ok (.if_icmp .ge 32, 3) := by decide +kernel
theorem dX8_clear_9 : decode cX8_clear 9 = .ok (.aload_n 0, 1) := by decide +kernel
theorem dX8_clear_10 : decode cX8_clear 10 = .ok (.getfield 7, 3) := by decide +kernel
theorem dX8_clear_13 : decode cX8_clear 13 = .ok (.iload_n 1, 1) := by decide +kernel
theorem dX8_clear_14 : decode cX8_clear 14 = .ok (.iconst 0, 1) := by decide +kernel
theorem dX8_clear_15 : decode cX8_clear 15 = .ok (.iastore, 1) := by decide +kernel
theorem dX8_clear_16 : decode cX8_clear 16 = .ok (.aload_n 0, 1) := by decide +kernel
theorem dX8_clear_17 : decode cX8_clear 17 = .ok (.getfield 13, 3) := by decide +kernel
theorem dX8_clear_20 : decode cX8_clear 20 = .ok (.iload_n 1, 1) := by decide +kernel
theorem dX8_clear_21 : decode cX8_clear 21 = .ok (.iconst 0, 1) := by decide +kernel
theorem dX8_clear_22 : decode cX8_clear 22 = .ok (.iastore, 1) := by decide +kernel
theorem dX8_clear_23 : decode cX8_clear 23 = .ok (.aload_n 0, 1) := by decide +kernel
theorem dX8_clear_24 : decode cX8_clear 24 = .ok (.getfield 16, 3) := by decide +kernel
theorem dX8_clear_27 : decode cX8_clear 27 = .ok (.iload_n 1, 1) := by decide +kernel
theorem dX8_clear_28 : decode cX8_clear 28 = .ok (.invokestatic 85, 3) := by decide +kernel
theorem dX8_clear_31 : decode cX8_clear 31 = .ok (.dastore, 1) := by decide +kernel
theorem dX8_clear_32 : decode cX8_clear 32 = .ok (.iinc 1 1, 3) := by decide +kernel
theorem dX8_clear_35 : decode cX8_clear 35 = .ok (.goto (-33), 3) := by decide +kernel
theorem dX8_clear_38 : decode cX8_clear 38 = .ok (.iconst 0, 1) := by decide +kernel
theorem dX8_clear_39 : decode cX8_clear 39 = .ok (.istore_n 1, 1) := by decide +kernel
theorem dX8_clear_40 : decode cX8_clear 40 = .ok (.iload_n 1, 1) := by decide +kernel
theorem dX8_clear_41 : decode cX8_clear 41 = .ok (.iconst 4, 1) := by decide +kernel
theorem dX8_clear_42 : decode cX8_clear 42 = .ok (.if_icmp .ge 16, 3) := by decide +kernel
theorem dX8_clear_45 : decode cX8_clear 45 = .ok (.aload_n 0, 1) := by decide +kernel
theorem dX8_clear_46 : decode cX8_clear 46 = .ok (.getfield 23, 3) := by decide +kernel
theorem dX8_clear_49 : decode cX8_clear 49 = .ok (.iload_n 1, 1) := by decide +kernel
theorem dX8_clear_50 : decode cX8_clear 50 = .ok (.iconst 0, 1) := by decide +kernel
theorem dX8_clear_51 : decode cX8_clear 51 = .ok (.bastore, 1) := by decide +kernel
theorem dX8_clear_52 : decode cX8_clear 52 = .ok (.iinc 1 1, 3) := by decide +kernel
theorem dX8_clear_55 : decode cX8_clear 55 = .ok (.goto (-15), 3) := by decide +kernel
theorem dX8_clear_58 : decode cX8_clear 58 = .ok (.iconst 0, 1) := by decide +kernel
theorem dX8_clear_59 : decode cX8_clear 59 = .ok (.ireturn, 1) := by decide +kernel
theorem dX8_in_0 : decode cX8_in 0 = .ok (.iload_n 0, 1) := by decide +kernel
theorem dX8_in_1 : decode cX8_in 1 = .ok (.iload_n 1, 1) := by decide +kernel
theorem dX8_in_2 : decode cX8_in 2 = .ok (.if_icmp .lt 12, 3) := by decide +kernel
theorem dX8_in_5 : decode cX8_in 5 = .ok (.iload_n 0, 1) := by decide +kernel
theorem dX8_in_6 : decode cX8_in 6 = .ok (.iload_n 2, 1) := by decide +kernel
theorem dX8_in_7 : decode cX8_in 7 = .ok (.if_icmp .gt 7, 3) := by decide +kernel
theorem dX8_in_10 : decode cX8_in 10 = .ok (.iconst 1, 1) := by decide +kernel
theorem dX8_in_11 : decode cX8_in 11 = .ok (.goto 4, 3) := by decide +kernel
theorem dX8_in_14 : decode cX8_in 14 = .ok (.iconst 0, 1) := by decide +kernel
theorem dX8_in_15 : decode cX8_in 15 = .ok (.ireturn, 1) := by decide +kernel
theorem dX8_tell_0 : decode cX8_tell 0 = .ok (.iload_n 1, 1) := by decide +kernel
theorem dX8_tell_1 : decode cX8_tell 1 = .ok (.iconst 0, 1) := by decide +kernel
theorem dX8_tell_2 : decode cX8_tell 2 = .ok (.bipush 39, 2) := by decide +kernel
theorem dX8_tell_4 : decode cX8_tell 4 = .ok (.invokestatic 89, 3) := by decide +kernel
theorem dX8_tell_7 : decode cX8_tell 7 = .ok (.ifCond .eq 34, 3) := by decide +kernel
theorem dX8_tell_10 : decode cX8_tell 10 = .ok (.iload_n 2, 1) := by decide +kernel
theorem dX8_tell_11 : decode cX8_tell 11 = .ok (.iconst 0, 1) := by decide +kernel
theorem dX8_tell_12 : decode cX8_tell 12 = .ok (.iconst 3, 1) := by decide +kernel
theorem dX8_tell_13 : decode cX8_tell 13 = .ok (.invokestatic 89, 3) := by decide +kernel
theorem dX8_tell_16 : decode cX8_tell 16 = .ok (.ifCond .eq 25, 3) := by decide +kernel
theorem dX8_tell_19 : decode cX8_tell 19 = .ok (.iload_n 3, 1) := by decide +kernel
theorem dX8_tell_20 : decode cX8_tell 20 = .ok (.iconst 0, 1) := by decide +kernel
theorem dX8_tell_21 : decode cX8_tell 21 = .ok (.sipush 1000, 3) := by decide +kernel
theorem dX8_tell_24 : decode cX8_tell 24 = .ok (.invokestatic 89, 3) := by decide +kernel
theorem dX8_tell_27 : decode cX8_tell 27 = .ok (.ifCond .eq 14, 3) := by decide +kernel
theorem dX8_tell_30 : decode cX8_tell 30 = .ok (.iload 4, 2) := by decide +kernel
theorem dX8_tell_32 : decode cX8_tell 32 = .ok (.iconst 0, 1) := by decide +kernel
theorem dX8_tell_33 : decode cX8_tell 33 = .ok (.ldc 93, 2) := by decide +kernel
theorem dX8_tell_35 : decode cX8_tell 35 = .ok (.invokestatic 89, 3) := by decide +kernel
theorem dX8_tell_38 : decode cX8_tell 38 = .ok (.ifCond .ne 5, 3) := by decide +kernel
