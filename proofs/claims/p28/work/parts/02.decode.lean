theorem dX0_init_0 : decode cX0_init 0 = .ok (.aload_n 0, 1) := by decide +kernel
theorem dX0_init_1 : decode cX0_init 1 = .ok (.invokespecial 3, 3) := by decide +kernel
theorem dX0_init_4 : decode cX0_init 4 = .ok (.aload_n 0, 1) := by decide +kernel
theorem dX0_init_5 : decode cX0_init 5 = .ok (.iconst (-1), 1) := by decide +kernel
theorem dX0_init_6 : decode cX0_init 6 = .ok (.putfield 9, 3) := by decide +kernel
theorem dX0_init_9 : decode cX0_init 9 = .ok (.aload_n 0, 1) := by decide +kernel
theorem dX0_init_10 : decode cX0_init 10 = .ok (.iconst 1, 1) := by decide +kernel
theorem dX0_init_11 : decode cX0_init 11 = .ok (.putfield 15, 3) := by decide +kernel
theorem dX0_init_14 : decode cX0_init 14 = .ok (.aload_n 0, 1) := by decide +kernel
theorem dX0_init_15 : decode cX0_init 15 = .ok (.iload_n 1, 1) := by decide +kernel
theorem dX0_init_16 : decode cX0_init 16 = .ok (.putfield 19, 3) := by decide +kernel
theorem dX0_init_19 : decode cX0_init 19 = .ok (.aload_n 0, 1) := by decide +kernel
theorem dX0_init_20 : decode cX0_init 20 = .ok (.iload_n 2, 1) := by decide +kernel
theorem dX0_init_21 : decode cX0_init 21 = .ok (.putfield 22, 3) := by decide +kernel
theorem dX0_init_24 : decode cX0_init 24 = .ok (.aload_n 0, 1) := by decide +kernel
theorem dX0_init_25 : decode cX0_init 25 = .ok (.iload_n 3, 1) := by decide +kernel
theorem dX0_init_26 : decode cX0_init 26 = .ok (.putfield 25, 3) := by decide +kernel
theorem dX0_init_29 : decode cX0_init 29 = .ok (.return_, 1) := by decide +kernel
theorem dX1_init_0 : decode cX1_init 0 = .ok (.aload_n 0, 1) := by decide +kernel
theorem dX1_init_1 : decode cX1_init 1 = .ok (.invokespecial 3, 3) := by decide +kernel
theorem dX1_init_4 : decode cX1_init 4 = .ok (.aload_n 0, 1) := by decide +kernel
theorem dX1_init_5 : decode cX1_init 5 = .ok (.sipush 256, 3) := by decide +kernel
theorem dX1_init_8 : decode cX1_init 8 = .ok (.newarray .int, 2) := by decide +kernel
theorem dX1_init_10 : decode cX1_init 10 = .ok (.putfield 9, 3) := by decide +kernel
theorem dX1_init_13 : decode cX1_init 13 = .ok (.aload_n 0, 1) := by decide +kernel
theorem dX1_init_14 : decode cX1_init 14 = .ok (.sipush 256, 3) := by decide +kernel
theorem dX1_init_17 : decode cX1_init 17 = .ok (.newarray .long, 2) := by decide +kernel
theorem dX1_init_19 : decode cX1_init 19 = .ok (.putfield 15, 3) := by decide +kernel
theorem dX1_init_22 : decode cX1_init 22 = .ok (.return_, 1) := by decide +kernel
theorem dX1_look_0 : decode cX1_look 0 = .ok (.aload_n 0, 1) := by decide +kernel
theorem dX1_look_1 : decode cX1_look 1 = .ok (.aload_n 1, 1) := by decide +kernel
theorem dX1_look_2 : decode cX1_look 2 = .ok (.aload_n 2, 1) := by decide +kernel
theorem dX1_look_3 : decode cX1_look 3 = .ok (.invokevirtual 19, 3) := by decide +kernel
theorem dX1_look_6 : decode cX1_look 6 = .ok (.iload_n 3, 1) := by decide +kernel
theorem dX1_look_7 : decode cX1_look 7 = .ok (.iconst 1, 1) := by decide +kernel
theorem dX1_look_8 : decode cX1_look 8 = .ok (.if_icmp .ne 10, 3) := by decide +kernel
theorem dX1_look_11 : decode cX1_look 11 = .ok (.aload_n 0, 1) := by decide +kernel
theorem dX1_look_12 : decode cX1_look 12 = .ok (.invokevirtual 23, 3) := by decide +kernel
theorem dX1_look_15 : decode cX1_look 15 = .ok (.goto 12, 3) := by decide +kernel
theorem dX1_look_18 : decode cX1_look 18 = .ok (.iload_n 3, 1) := by decide +kernel
theorem dX1_look_19 : decode cX1_look 19 = .ok (.iconst 2, 1) := by decide +kernel
theorem dX1_look_20 : decode cX1_look 20 = .ok (.if_icmp .ne 7, 3) := by decide +kernel
theorem dX1_look_23 : decode cX1_look 23 = .ok (.aload_n 0, 1) := by decide +kernel
theorem dX1_look_24 : decode cX1_look 24 = .ok (.invokevirtual 26, 3) := by decide +kernel
theorem dX1_look_27 : decode cX1_look 27 = .ok (.iconst 0, 1) := by decide +kernel
theorem dX1_look_28 : decode cX1_look 28 = .ok (.istore 5, 2) := by decide +kernel
theorem dX1_look_30 : decode cX1_look 30 = .ok (.iload 5, 2) := by decide +kernel
theorem dX1_look_32 : decode cX1_look 32 = .ok (.iload 4, 2) := by decide +kernel
theorem dX1_look_34 : decode cX1_look 34 = .ok (.if_icmp .ge 30, 3) := by decide +kernel
theorem dX1_look_37 : decode cX1_look 37 = .ok (.iload 5, 2) := by decide +kernel
theorem dX1_look_39 : decode cX1_look 39 = .ok (.aload_n 1, 1) := by decide +kernel
theorem dX1_look_40 : decode cX1_look 40 = .ok (.getfield 29, 3) := by decide +kernel
theorem dX1_look_43 : decode cX1_look 43 = .ok (.arraylength, 1) := by decide +kernel
theorem dX1_look_44 : decode cX1_look 44 = .ok (.if_icmp .ge 20, 3) := by decide +kernel
theorem dX1_look_47 : decode cX1_look 47 = .ok (.aload_n 0, 1) := by decide +kernel
theorem dX1_look_48 : decode cX1_look 48 = .ok (.aload_n 1, 1) := by decide +kernel
theorem dX1_look_49 : decode cX1_look 49 = .ok (.getfield 29, 3) := by decide +kernel
theorem dX1_look_52 : decode cX1_look 52 = .ok (.iload 5, 2) := by decide +kernel
theorem dX1_look_54 : decode cX1_look 54 = .ok (.iaload, 1) := by decide +kernel
theorem dX1_look_55 : decode cX1_look 55 = .ok (.invokevirtual 34, 3) := by decide +kernel
theorem dX1_look_58 : decode cX1_look 58 = .ok (.iinc 5 1, 3) := by decide +kernel
theorem dX1_look_61 : decode cX1_look 61 = .ok (.goto (-31), 3) := by decide +kernel
theorem dX1_look_64 : decode cX1_look 64 = .ok (.return_, 1) := by decide +kernel
theorem dX1_gather_0 : decode cX1_gather 0 = .ok (.aload_n 0, 1) := by decide +kernel
theorem dX1_gather_1 : decode cX1_gather 1 = .ok (.iconst 0, 1) := by decide +kernel
theorem dX1_gather_2 : decode cX1_gather 2 = .ok (.putfield 38, 3) := by decide +kernel
theorem dX1_gather_5 : decode cX1_gather 5 = .ok (.iconst 0, 1) := by decide +kernel
theorem dX1_gather_6 : decode cX1_gather 6 = .ok (.istore_n 3, 1) := by decide +kernel
theorem dX1_gather_7 : decode cX1_gather 7 = .ok (.iload_n 3, 1) := by decide +kernel
theorem dX1_gather_8 : decode cX1_gather 8 = .ok (.sipush 256, 3) := by decide +kernel
theorem dX1_gather_11 : decode cX1_gather 11 = .ok (.if_icmp .ge 82, 3) := by decide +kernel
theorem dX1_gather_14 : decode cX1_gather 14 = .ok (.aload_n 1, 1) := by decide +kernel
theorem dX1_gather_15 : decode cX1_gather 15 = .ok (.getfield 42, 3) := by decide +kernel
theorem dX1_gather_18 : decode cX1_gather 18 = .ok (.iload_n 3, 1) := by decide +kernel
theorem dX1_gather_19 : decode cX1_gather 19 = .ok (.iaload, 1) := by decide +kernel
theorem dX1_gather_20 : decode cX1_gather 20 = .ok (.istore 4, 2) := by decide +kernel
theorem dX1_gather_22 : decode cX1_gather 22 = .ok (.aload_n 1, 1) := by decide +kernel
theorem dX1_gather_23 : decode cX1_gather 23 = .ok (.getfield 45, 3) := by decide +kernel
theorem dX1_gather_26 : decode cX1_gather 26 = .ok (.iload_n 3, 1) := by decide +kernel
theorem dX1_gather_27 : decode cX1_gather 27 = .ok (.iaload, 1) := by decide +kernel
theorem dX1_gather_28 : decode cX1_gather 28 = .ok (.iconst (-1), 1) := by decide +kernel
theorem dX1_gather_29 : decode cX1_gather 29 = .ok (.if_icmp .eq 58, 3) := by decide +kernel
theorem dX1_gather_32 : decode cX1_gather 32 = .ok (.iload 4, 2) := by decide +kernel
theorem dX1_gather_34 : decode cX1_gather 34 = .ok (.ifCond .lt 53, 3) := by decide +kernel
theorem dX1_gather_37 : decode cX1_gather 37 = .ok (.iload 4, 2) := by decide +kernel
theorem dX1_gather_39 : decode cX1_gather 39 = .ok (.aload_n 2, 1) := by decide +kernel
theorem dX1_gather_40 : decode cX1_gather 40 = .ok (.arraylength, 1) := by decide +kernel
theorem dX1_gather_41 : decode cX1_gather 41 = .ok (.if_icmp .ge 46, 3) := by decide +kernel
theorem dX1_gather_44 : decode cX1_gather 44 = .ok (.aload_n 2, 1) := by decide +kernel
theorem dX1_gather_45 : decode cX1_gather 45 = .ok (.iload 4, 2) := by decide +kernel
theorem dX1_gather_47 : decode cX1_gather 47 = .ok (.baload, 1) := by decide +kernel
theorem dX1_gather_48 : decode cX1_gather 48 = .ok (.ifCond .ne 39, 3) := by decide +kernel
theorem dX1_gather_51 : decode cX1_gather 51 = .ok (.aload_n 0, 1) := by decide +kernel
theorem dX1_gather_52 : decode cX1_gather 52 = .ok (.getfield 9, 3) := by decide +kernel
theorem dX1_gather_55 : decode cX1_gather 55 = .ok (.aload_n 0, 1) := by decide +kernel
theorem dX1_gather_56 : decode cX1_gather 56 = .ok (.getfield 38, 3) := by decide +kernel
theorem dX1_gather_59 : decode cX1_gather 59 = .ok (.iload_n 3, 1) := by decide +kernel
theorem dX1_gather_60 : decode cX1_gather 60 = .ok (.iastore, 1) := by decide +kernel
theorem dX1_gather_61 : decode cX1_gather 61 = .ok (.aload_n 0, 1) := by decide +kernel
theorem dX1_gather_62 : decode cX1_gather 62 = .ok (.getfield 15, 3) := by decide +kernel
theorem dX1_gather_65 : decode cX1_gather 65 = .ok (.aload_n 0, 1) := by decide +kernel
theorem dX1_gather_66 : decode cX1_gather 66 = .ok (.getfield 38, 3) := by decide +kernel
theorem dX1_gather_69 : decode cX1_gather 69 = .ok (.aload_n 1, 1) := by decide +kernel
theorem dX1_gather_70 : decode cX1_gather 70 = .ok (.getfield 45, 3) := by decide +kernel
theorem dX1_gather_73 : decode cX1_gather 73 = .ok (.iload_n 3, 1) := by decide +kernel
theorem dX1_gather_74 : decode cX1_gather 74 = .ok (.iaload, 1) := by decide +kernel
theorem dX1_gather_75 : decode cX1_gather 75 = .ok (.i2l, 1) := by decide +kernel
theorem dX1_gather_76 : decode cX1_gather 76 = .ok (.lastore, 1) := by decide +kernel
theorem dX1_gather_77 : decode cX1_gather 77 = .ok (.aload_n 0, 1) := by decide +kernel
theorem dX1_gather_78 : decode cX1_gather 78 = .ok (.dup, 1) := by decide +kernel
theorem dX1_gather_79 : decode cX1_gather 79 = .ok (.getfield 38, 3) := by decide +kernel
theorem dX1_gather_82 : decode cX1_gather 82 = .ok (.iconst 1, 1) := by decide +kernel
theorem dX1_gather_83 : decode cX1_gather 83 = .ok (.iadd, 1) := by decide +kernel
theorem dX1_gather_84 : decode cX1_gather 84 = .ok (.putfield 38, 3) := by decide +kernel
theorem dX1_gather_87 : decode cX1_gather 87 = .ok (.iinc 3 1, 3) := by decide +kernel
theorem dX1_gather_90 : decode cX1_gather 90 = .ok (.goto (-83), 3) := by decide +kernel
theorem dX1_gather_93 : decode cX1_gather 93 = .ok (.return_, 1) := by decide +kernel
theorem dX1_flatten_0 : decode cX1_flatten 0 = .ok (.aload_n 0, 1) := by decide +kernel
theorem dX1_flatten_1 : decode cX1_flatten 1 = .ok (.getfield 15, 3) := by decide +kernel
theorem dX1_flatten_4 : decode cX1_flatten 4 = .ok (.lconst 1, 1) := by decide +kernel
theorem dX1_flatten_5 : decode cX1_flatten 5 = .ok (.invokestatic 48, 3) := by decide +kernel
theorem dX1_flatten_8 : decode cX1_flatten 8 = .ok (.return_, 1) := by decide +kernel
theorem dX1_lessMean_0 : decode cX1_lessMean 0 = .ok (.lconst 0, 1) := by decide +kernel
theorem dX1_lessMean_1 : decode cX1_lessMean 1 = .ok (.lstore_n 1, 1) := by decide +kernel
theorem dX1_lessMean_2 : decode cX1_lessMean 2 = .ok (.iconst 0, 1) := by decide +kernel
theorem dX1_lessMean_3 : decode cX1_lessMean 3 = .ok (.istore_n 3, 1) := by decide +kernel
theorem dX1_lessMean_4 : decode cX1_lessMean 4 = .ok (.iload_n 3, 1) := by decide +kernel
theorem dX1_lessMean_5 : decode cX1_lessMean 5 = .ok (.aload_n 0, 1) := by decide +kernel
theorem dX1_lessMean_6 : decode cX1_lessMean 6 = .ok (.getfield 38, 3) := by decide +kernel
theorem dX1_lessMean_9 : decode cX1_lessMean 9 = .ok (.if_icmp .ge 18, 3) := by decide +kernel
theorem dX1_lessMean_12 : decode cX1_lessMean 12 = .ok (.lload_n 1, 1) := by decide +kernel
theorem dX1_lessMean_13 : decode cX1_lessMean 13 = .ok (.aload_n 0, 1) := by decide +kernel
theorem dX1_lessMean_14 : decode cX1_lessMean 14 = .ok (.getfield 15, 3) := by decide +kernel
theorem dX1_lessMean_17 : decode cX1_lessMean 17 = .ok (.iload_n 3, 1) := by decide +kernel
theorem dX1_lessMean_18 : decode cX1_lessMean 18 = .ok (.laload, 1) := by decide +kernel
theorem dX1_lessMean_19 : decode cX1_lessMean 19 = .ok (.ladd, 1) := by decide +kernel
theorem dX1_lessMean_20 : decode cX1_lessMean 20 = .ok (.lstore_n 1, 1) := by decide +kernel
theorem dX1_lessMean_21 : decode cX1_lessMean 21 = .ok (.iinc 3 1, 3) := by decide +kernel
theorem dX1_lessMean_24 : decode cX1_lessMean 24 = .ok (.goto (-20), 3) := by decide +kernel
theorem dX1_lessMean_27 : decode cX1_lessMean 27 = .ok (.aload_n 0, 1) := by decide +kernel
theorem dX1_lessMean_28 : decode cX1_lessMean 28 = .ok (.getfield 38, 3) := by decide +kernel
theorem dX1_lessMean_31 : decode cX1_lessMean 31 = .ok (.ifCond .le 15, 3) := by decide +kernel
theorem dX1_lessMean_34 : decode cX1_lessMean 34 = .ok (.lload_n 1, 1) := by decide +kernel
theorem dX1_lessMean_35 : decode cX1_lessMean 35 = .ok (.aload_n 0, 1) := by decide +kernel
theorem dX1_lessMean_36 : decode cX1_lessMean 36 = .ok (.getfield 38, 3) := by decide +kernel
theorem dX1_lessMean_39 : decode cX1_lessMean 39 = .ok (.i2l, 1) := by decide +kernel
theorem dX1_lessMean_40 : decode cX1_lessMean 40 = .ok (.invokestatic 54, 3) := by decide +kernel
theorem dX1_lessMean_43 : decode cX1_lessMean 43 = .ok (.goto 4, 3) := by decide +kernel
theorem dX1_lessMean_46 : decode cX1_lessMean 46 = .ok (.lconst 0, 1) := by decide +kernel
theorem dX1_lessMean_47 : decode cX1_lessMean 47 = .ok (.lstore_n 3, 1) := by decide +kernel
theorem dX1_lessMean_48 : decode cX1_lessMean 48 = .ok (.iconst 0, 1) := by decide +kernel
theorem dX1_lessMean_49 : decode cX1_lessMean 49 = .ok (.istore 5, 2) := by decide +kernel
theorem dX1_lessMean_51 : decode cX1_lessMean 51 = .ok (.iload 5, 2) := by decide +kernel
theorem dX1_lessMean_53 : decode cX1_lessMean 53 = .ok (.aload_n 0, 1) := by decide +kernel
theorem dX1_lessMean_54 : decode cX1_lessMean 54 = .ok (.getfield 38, 3) := by decide +kernel
theorem dX1_lessMean_57 : decode cX1_lessMean 57 = .ok (.if_icmp .ge 20, 3) := by decide +kernel
theorem dX1_lessMean_60 : decode cX1_lessMean 60 = .ok (.aload_n 0, 1) := by decide +kernel
theorem dX1_lessMean_61 : decode cX1_lessMean 61 = .ok (.getfield 15, 3) := by decide +kernel
theorem dX1_lessMean_64 : decode cX1_lessMean 64 = .ok (.iload 5, 2) := by decide +kernel
theorem dX1_lessMean_66 : decode cX1_lessMean 66 = .ok (.dup2, 1) := by decide +kernel
theorem dX1_lessMean_67 : decode cX1_lessMean 67 = .ok (.laload, 1) := by decide +kernel
theorem dX1_lessMean_68 : decode cX1_lessMean 68 = .ok (.lload_n 3, 1) := by decide +kernel
theorem dX1_lessMean_69 : decode cX1_lessMean 69 = .ok (.lsub, 1) := by decide +kernel
theorem dX1_lessMean_70 : decode cX1_lessMean 70 = .ok (.lastore, 1) := by decide +kernel
theorem dX1_lessMean_71 : decode cX1_lessMean 71 = .ok (.iinc 5 1, 3) := by decide +kernel
theorem dX1_lessMean_74 : decode cX1_lessMean 74 = .ok (.goto (-23), 3) := by decide +kernel
theorem dX1_lessMean_77 : decode cX1_lessMean 77 = .ok (.return_, 1) := by decide +kernel
theorem dX1_lessDrift_0 : decode cX1_lessDrift 0 = .ok (.aload_n 0, 1) := by decide +kernel
theorem dX1_lessDrift_1 : decode cX1_lessDrift 1 = .ok (.getfield 38, 3) := by decide +kernel
theorem dX1_lessDrift_4 : decode cX1_lessDrift 4 = .ok (.ifCond .ne 4, 3) := by decide +kernel
theorem dX1_lessDrift_7 : decode cX1_lessDrift 7 = .ok (.return_, 1) := by decide +kernel
theorem dX1_lessDrift_8 : decode cX1_lessDrift 8 = .ok (.aload_n 0, 1) := by decide +kernel
theorem dX1_lessDrift_9 : decode cX1_lessDrift 9 = .ok (.getfield 15, 3) := by decide +kernel
theorem dX1_lessDrift_12 : decode cX1_lessDrift 12 = .ok (.iconst 0, 1) := by decide +kernel
theorem dX1_lessDrift_13 : decode cX1_lessDrift 13 = .ok (.laload, 1) := by decide +kernel
theorem dX1_lessDrift_14 : decode cX1_lessDrift 14 = .ok (.lstore_n 1, 1) := by decide +kernel
theorem dX1_lessDrift_15 : decode cX1_lessDrift 15 = .ok (.aload_n 0, 1) := by decide +kernel
theorem dX1_lessDrift_16 : decode cX1_lessDrift 16 = .ok (.getfield 15, 3) := by decide +kernel
theorem dX1_lessDrift_19 : decode cX1_lessDrift 19 = .ok (.aload_n 0, 1) := by decide +kernel
theorem dX1_lessDrift_20 : decode cX1_lessDrift 20 = .ok (.getfield 38, 3) := by decide +kernel
theorem dX1_lessDrift_23 : decode cX1_lessDrift 23 = .ok (.iconst 1, 1) := by decide +kernel
theorem dX1_lessDrift_24 : decode cX1_lessDrift 24 = .ok (.isub, 1) := by decide +kernel
theorem dX1_lessDrift_25 : decode cX1_lessDrift 25 = .ok (.laload, 1) := by decide +kernel
theorem dX1_lessDrift_26 : decode cX1_lessDrift 26 = .ok (.lload_n 1, 1) := by decide +kernel
theorem dX1_lessDrift_27 : decode cX1_lessDrift 27 = .ok (.lsub, 1) := by decide +kernel
theorem dX1_lessDrift_28 : decode cX1_lessDrift 28 = .ok (.lstore_n 3, 1) := by decide +kernel
theorem dX1_lessDrift_29 : decode cX1_lessDrift 29 = .ok (.aload_n 0, 1) := by decide +kernel
theorem dX1_lessDrift_30 : decode cX1_lessDrift 30 = .ok (.getfield 9, 3) := by decide +kernel
theorem dX1_lessDrift_33 : decode cX1_lessDrift 33 = .ok (.aload_n 0, 1) := by decide +kernel
theorem dX1_lessDrift_34 : decode cX1_lessDrift 34 = .ok (.getfield 38, 3) := by decide +kernel
theorem dX1_lessDrift_37 : decode cX1_lessDrift 37 = .ok (.iconst 1, 1) := by decide +kernel
theorem dX1_lessDrift_38 : decode cX1_lessDrift 38 = .ok (.isub, 1) := by decide +kernel
theorem dX1_lessDrift_39 : decode cX1_lessDrift 39 = .ok (.iaload, 1) := by decide +kernel
theorem dX1_lessDrift_40 : decode cX1_lessDrift 40 = .ok (.aload_n 0, 1) := by decide +kernel
theorem dX1_lessDrift_41 : decode cX1_lessDrift 41 = .ok (.getfield 9, 3) := by decide +kernel
theorem dX1_lessDrift_44 : decode cX1_lessDrift 44 = .ok (.iconst 0, 1) := by decide +kernel
theorem dX1_lessDrift_45 : decode cX1_lessDrift 45 = .ok (.iaload, 1) := by decide +kernel
theorem dX1_lessDrift_46 : decode cX1_lessDrift 46 = .ok (.isub, 1) := by decide +kernel
theorem dX1_lessDrift_47 : decode cX1_lessDrift 47 = .ok (.i2l, 1) := by decide +kernel
theorem dX1_lessDrift_48 : decode cX1_lessDrift 48 = .ok (.lstore 5, 2) := by decide +kernel
theorem dX1_lessDrift_50 : decode cX1_lessDrift 50 = .ok (.iconst 0, 1) := by decide +kernel
theorem dX1_lessDrift_51 : decode cX1_lessDrift 51 = .ok (.istore 7, 2) := by decide +kernel
theorem dX1_lessDrift_53 : decode cX1_lessDrift 53 = .ok (.iload 7, 2) := by decide +kernel
theorem dX1_lessDrift_55 : decode cX1_lessDrift 55 = .ok (.aload_n 0, 1) := by decide +kernel
theorem dX1_lessDrift_56 : decode cX1_lessDrift 56 = .ok (.getfield 38, 3) := by decide +kernel
theorem dX1_lessDrift_59 : decode cX1_lessDrift 59 = .ok (.if_icmp .ge 58, 3) := by decide +kernel
theorem dX1_lessDrift_62 : decode cX1_lessDrift 62 = .ok (.aload_n 0, 1) := by decide +kernel
theorem dX1_lessDrift_63 : decode cX1_lessDrift 63 = .ok (.getfield 9, 3) := by decide +kernel
theorem dX1_lessDrift_66 : decode cX1_lessDrift 66 = .ok (.iload 7, 2) := by decide +kernel
theorem dX1_lessDrift_68 : decode cX1_lessDrift 68 = .ok (.iaload, 1) := by decide +kernel
theorem dX1_lessDrift_69 : decode cX1_lessDrift 69 = .ok (.aload_n 0, 1) := by decide +kernel
theorem dX1_lessDrift_70 : decode cX1_lessDrift 70 = .ok (.getfield 9, 3) := by decide +kernel
theorem dX1_lessDrift_73 : decode cX1_lessDrift 73 = .ok (.iconst 0, 1) := by decide +kernel
theorem dX1_lessDrift_74 : decode cX1_lessDrift 74 = .ok (.iaload, 1) := by decide +kernel
theorem dX1_lessDrift_75 : decode cX1_lessDrift 75 = .ok (.isub, 1) := by decide +kernel
theorem dX1_lessDrift_76 : decode cX1_lessDrift 76 = .ok (.i2l, 1) := by decide +kernel
theorem dX1_lessDrift_77 : decode cX1_lessDrift 77 = .ok (.lstore 8, 2) := by decide +kernel
theorem dX1_lessDrift_79 : decode cX1_lessDrift 79 = .ok (.aload_n 0, 1) := by decide +kernel
theorem dX1_lessDrift_80 : decode cX1_lessDrift 80 = .ok (.getfield 15, 3) := by decide +kernel
theorem dX1_lessDrift_83 : decode cX1_lessDrift 83 = .ok (.iload 7, 2) := by decide +kernel
theorem dX1_lessDrift_85 : decode cX1_lessDrift 85 = .ok (.dup2, 1) := by decide +kernel
theorem dX1_lessDrift_86 : decode cX1_lessDrift 86 = .ok (.laload, 1) := by decide +kernel
theorem dX1_lessDrift_87 : decode cX1_lessDrift 87 = .ok (.lload_n 1, 1) := by decide +kernel
theorem dX1_lessDrift_88 : decode cX1_lessDrift 88 = .ok (.lload 5, 2) := by decide +kernel
theorem dX1_lessDrift_90 : decode cX1_lessDrift 90 = .ok (.lconst 0, 1) := by decide +kernel
theorem dX1_lessDrift_91 : decode cX1_lessDrift 91 = .ok (.lcmp, 1) := by decide +kernel
theorem dX1_lessDrift_92 : decode cX1_lessDrift 92 = .ok (.ifCond .le 15, 3) := by decide +kernel
theorem dX1_lessDrift_95 : decode cX1_lessDrift 95 = .ok (.lload_n 3, 1) := by decide +kernel
theorem dX1_lessDrift_96 : decode cX1_lessDrift 96 = .ok (.lload 8, 2) := by decide +kernel
theorem dX1_lessDrift_98 : decode cX1_lessDrift 98 = .ok (.lmul, 1) := by decide +kernel
theorem dX1_lessDrift_99 : decode cX1_lessDrift 99 = .ok (.lload 5, 2) := by decide +kernel
theorem dX1_lessDrift_101 : decode cX1_lessDrift 101 = .ok (.invokestatic 54, 3) := by decide +kernel
theorem dX1_lessDrift_104 : decode cX1_lessDrift 104 = .ok (.goto 4, 3) := by decide +kernel
theorem dX1_lessDrift_107 : decode cX1_lessDrift 107 = .ok (.lconst 0, 1) := by decide +kernel
theorem dX1_lessDrift_108 : decode cX1_lessDrift 108 = .ok (.ladd, 1) := by decide +kernel
theorem dX1_lessDrift_109 : decode cX1_lessDrift 109 = .ok (.lsub, 1) := by decide +kernel
theorem dX1_lessDrift_110 : decode cX1_lessDrift 110 = .ok (.lastore, 1) := by decide +kernel
theorem dX1_lessDrift_111 : decode cX1_lessDrift 111 = .ok (.iinc 7 1, 3) := by decide +kernel
theorem dX1_lessDrift_114 : decode cX1_lessDrift 114 = .ok (.goto (-61), 3) := by decide +kernel
theorem dX1_lessDrift_117 : decode cX1_lessDrift 117 = .ok (.return_, 1) := by decide +kernel
theorem dX1_lessLine_0 : decode cX1_lessLine 0 = .ok (.aload_n 0, 1) := by decide +kernel
theorem dX1_lessLine_1 : decode cX1_lessLine 1 = .ok (.getfield 38, 3) := by decide +kernel
theorem dX1_lessLine_4 : decode cX1_lessLine 4 = .ok (.ifCond .ne 4, 3) := by decide +kernel
theorem dX1_lessLine_7 : decode cX1_lessLine 7 = .ok (.return_, 1) := by decide +kernel
theorem dX1_lessLine_8 : decode cX1_lessLine 8 = .ok (.aload_n 0, 1) := by decide +kernel
theorem dX1_lessLine_9 : decode cX1_lessLine 9 = .ok (.iload_n 1, 1) := by decide +kernel
theorem dX1_lessLine_10 : decode cX1_lessLine 10 = .ok (.invokevirtual 60, 3) := by decide +kernel
theorem dX1_lessLine_13 : decode cX1_lessLine 13 = .ok (.ldc2_w 63, 3) := by decide +kernel
theorem dX1_lessLine_16 : decode cX1_lessLine 16 = .ok (.aload_n 0, 1) := by decide +kernel
theorem dX1_lessLine_17 : decode cX1_lessLine 17 = .ok (.getfield 38, 3) := by decide +kernel
theorem dX1_lessLine_20 : decode cX1_lessLine 20 = .ok (.i2l, 1) := by decide +kernel
theorem dX1_lessLine_21 : decode cX1_lessLine 21 = .ok (.lmul, 1) := by decide +kernel
theorem dX1_lessLine_22 : decode cX1_lessLine 22 = .ok (.lstore_n 2, 1) := by decide +kernel
theorem dX1_lessLine_23 : decode cX1_lessLine 23 = .ok (.ldc2_w 65, 3) := by decide +kernel
theorem dX1_lessLine_26 : decode cX1_lessLine 26 = .ok (.aload_n 0, 1) := by decide +kernel
theorem dX1_lessLine_27 : decode cX1_lessLine 27 = .ok (.getfield 67, 3) := by decide +kernel
theorem dX1_lessLine_30 : decode cX1_lessLine 30 = .ok (.lmul, 1) := by decide +kernel
theorem dX1_lessLine_31 : decode cX1_lessLine 31 = .ok (.lload_n 2, 1) := by decide +kernel
theorem dX1_lessLine_32 : decode cX1_lessLine 32 = .ok (.ldiv, 1) := by decide +kernel
theorem dX1_lessLine_33 : decode cX1_lessLine 33 = .ok (.lstore 4, 2) := by decide +kernel
theorem dX1_lessLine_35 : decode cX1_lessLine 35 = .ok (.ldc2_w 65, 3) := by decide +kernel
theorem dX1_lessLine_38 : decode cX1_lessLine 38 = .ok (.aload_n 0, 1) := by decide +kernel
theorem dX1_lessLine_39 : decode cX1_lessLine 39 = .ok (.getfield 71, 3) := by decide +kernel
theorem dX1_lessLine_42 : decode cX1_lessLine 42 = .ok (.lmul, 1) := by decide +kernel
theorem dX1_lessLine_43 : decode cX1_lessLine 43 = .ok (.lload_n 2, 1) := by decide +kernel
theorem dX1_lessLine_44 : decode cX1_lessLine 44 = .ok (.ldiv, 1) := by decide +kernel
theorem dX1_lessLine_45 : decode cX1_lessLine 45 = .ok (.lstore 6, 2) := by decide +kernel
theorem dX1_lessLine_47 : decode cX1_lessLine 47 = .ok (.iconst 0, 1) := by decide +kernel
theorem dX1_lessLine_48 : decode cX1_lessLine 48 = .ok (.istore 8, 2) := by decide +kernel
theorem dX1_lessLine_50 : decode cX1_lessLine 50 = .ok (.iload 8, 2) := by decide +kernel
theorem dX1_lessLine_52 : decode cX1_lessLine 52 = .ok (.aload_n 0, 1) := by decide +kernel
theorem dX1_lessLine_53 : decode cX1_lessLine 53 = .ok (.getfield 38, 3) := by decide +kernel
theorem dX1_lessLine_56 : decode cX1_lessLine 56 = .ok (.if_icmp .ge 53, 3) := by decide +kernel
theorem dX1_lessLine_59 : decode cX1_lessLine 59 = .ok (.iload_n 1, 1) := by decide +kernel
theorem dX1_lessLine_60 : decode cX1_lessLine 60 = .ok (.aload_n 0, 1) := by decide +kernel
theorem dX1_lessLine_61 : decode cX1_lessLine 61 = .ok (.getfield 9, 3) := by decide +kernel
theorem dX1_lessLine_64 : decode cX1_lessLine 64 = .ok (.iload 8, 2) := by decide +kernel
theorem dX1_lessLine_66 : decode cX1_lessLine 66 = .ok (.iaload, 1) := by decide +kernel
theorem dX1_lessLine_67 : decode cX1_lessLine 67 = .ok (.imul, 1) := by decide +kernel
theorem dX1_lessLine_68 : decode cX1_lessLine 68 = .ok (.istore 9, 2) := by decide +kernel
theorem dX1_lessLine_70 : decode cX1_lessLine 70 = .ok (.aload_n 0, 1) := by decide +kernel
theorem dX1_lessLine_71 : decode cX1_lessLine 71 = .ok (.getfield 15, 3) := by decide +kernel
theorem dX1_lessLine_74 : decode cX1_lessLine 74 = .ok (.iload 8, 2) := by decide +kernel
theorem dX1_lessLine_76 : decode cX1_lessLine 76 = .ok (.dup2, 1) := by decide +kernel
theorem dX1_lessLine_77 : decode cX1_lessLine 77 = .ok (.laload, 1) := by decide +kernel
theorem dX1_lessLine_78 : decode cX1_lessLine 78 = .ok (.lload 4, 2) := by decide +kernel
theorem dX1_lessLine_80 : decode cX1_lessLine 80 = .ok (.iload 9, 2) := by decide +kernel
theorem dX1_lessLine_82 : decode cX1_lessLine 82 = .ok (.invokestatic 74, 3) := by decide +kernel
theorem dX1_lessLine_85 : decode cX1_lessLine 85 = .ok (.i2l, 1) := by decide +kernel
theorem dX1_lessLine_86 : decode cX1_lessLine 86 = .ok (.lmul, 1) := by decide +kernel
theorem dX1_lessLine_87 : decode cX1_lessLine 87 = .ok (.lload 6, 2) := by decide +kernel
theorem dX1_lessLine_89 : decode cX1_lessLine 89 = .ok (.iload 9, 2) := by decide +kernel
theorem dX1_lessLine_91 : decode cX1_lessLine 91 = .ok (.invokestatic 78, 3) := by decide +kernel
theorem dX1_lessLine_94 : decode cX1_lessLine 94 = .ok (.i2l, 1) := by decide +kernel
theorem dX1_lessLine_95 : decode cX1_lessLine 95 = .ok (.lmul, 1) := by decide +kernel
theorem dX1_lessLine_96 : decode cX1_lessLine 96 = .ok (.ladd, 1) := by decide +kernel
theorem dX1_lessLine_97 : decode cX1_lessLine 97 = .ok (.ldc2_w 63, 3) := by decide +kernel
theorem dX1_lessLine_100 : decode cX1_lessLine 100 = .ok (.ldiv, 1) := by decide +kernel
theorem dX1_lessLine_101 : decode cX1_lessLine 101 = .ok (.lsub, 1) := by decide +kernel
theorem dX1_lessLine_102 : decode cX1_lessLine 102 = .ok (.lastore, 1) := by decide +kernel
theorem dX1_lessLine_103 : decode cX1_lessLine 103 = .ok (.iinc 8 1, 3) := by decide +kernel
theorem dX1_lessLine_106 : decode cX1_lessLine 106 = .ok (.goto (-56), 3) := by decide +kernel
theorem dX1_lessLine_109 : decode cX1_lessLine 109 = .ok (.return_, 1) := by decide +kernel
theorem dX1_sumUp_0 : decode cX1_sumUp 0 = .ok (.aload_n 0, 1) := by decide +kernel
theorem dX1_sumUp_1 : decode cX1_sumUp 1 = .ok (.lconst 0, 1) := by decide +kernel
theorem dX1_sumUp_2 : decode cX1_sumUp 2 = .ok (.putfield 67, 3) := by decide +kernel
theorem dX1_sumUp_5 : decode cX1_sumUp 5 = .ok (.aload_n 0, 1) := by decide +kernel
theorem dX1_sumUp_6 : decode cX1_sumUp 6 = .ok (.lconst 0, 1) := by decide +kernel
theorem dX1_sumUp_7 : decode cX1_sumUp 7 = .ok (.putfield 71, 3) := by decide +kernel
theorem dX1_sumUp_10 : decode cX1_sumUp 10 = .ok (.iconst 0, 1) := by decide +kernel
theorem dX1_sumUp_11 : decode cX1_sumUp 11 = .ok (.istore_n 2, 1) := by decide +kernel
theorem dX1_sumUp_12 : decode cX1_sumUp 12 = .ok (.iload_n 2, 1) := by decide +kernel
theorem dX1_sumUp_13 : decode cX1_sumUp 13 = .ok (.aload_n 0, 1) := by decide +kernel
theorem dX1_sumUp_14 : decode cX1_sumUp 14 = .ok (.getfield 38, 3) := by decide +kernel
theorem dX1_sumUp_17 : decode cX1_sumUp 17 = .ok (.if_icmp .ge 60, 3) := by decide +kernel
theorem dX1_sumUp_20 : decode cX1_sumUp 20 = .ok (.iload_n 1, 1) := by decide +kernel
theorem dX1_sumUp_21 : decode cX1_sumUp 21 = .ok (.aload_n 0, 1) := by decide +kernel
theorem dX1_sumUp_22 : decode cX1_sumUp 22 = .ok (.getfield 9, 3) := by decide +kernel
theorem dX1_sumUp_25 : decode cX1_sumUp 25 = .ok (.iload_n 2, 1) := by decide +kernel
theorem dX1_sumUp_26 : decode cX1_sumUp 26 = .ok (.iaload, 1) := by decide +kernel
theorem dX1_sumUp_27 : decode cX1_sumUp 27 = .ok (.imul, 1) := by decide +kernel
theorem dX1_sumUp_28 : decode cX1_sumUp 28 = .ok (.istore_n 3, 1) := by decide +kernel
theorem dX1_sumUp_29 : decode cX1_sumUp 29 = .ok (.aload_n 0, 1) := by decide +kernel
theorem dX1_sumUp_30 : decode cX1_sumUp 30 = .ok (.dup, 1) := by decide +kernel
theorem dX1_sumUp_31 : decode cX1_sumUp 31 = .ok (.getfield 67, 3) := by decide +kernel
theorem dX1_sumUp_34 : decode cX1_sumUp 34 = .ok (.aload_n 0, 1) := by decide +kernel
theorem dX1_sumUp_35 : decode cX1_sumUp 35 = .ok (.getfield 15, 3) := by decide +kernel
theorem dX1_sumUp_38 : decode cX1_sumUp 38 = .ok (.iload_n 2, 1) := by decide +kernel
theorem dX1_sumUp_39 : decode cX1_sumUp 39 = .ok (.laload, 1) := by decide +kernel
theorem dX1_sumUp_40 : decode cX1_sumUp 40 = .ok (.iload_n 3, 1) := by decide +kernel
theorem dX1_sumUp_41 : decode cX1_sumUp 41 = .ok (.invokestatic 74, 3) := by decide +kernel
theorem dX1_sumUp_44 : decode cX1_sumUp 44 = .ok (.i2l, 1) := by decide +kernel
theorem dX1_sumUp_45 : decode cX1_sumUp 45 = .ok (.lmul, 1) := by decide +kernel
theorem dX1_sumUp_46 : decode cX1_sumUp 46 = .ok (.ladd, 1) := by decide +kernel
theorem dX1_sumUp_47 : decode cX1_sumUp 47 = .ok (.putfield 67, 3) := by decide +kernel
theorem dX1_sumUp_50 : decode cX1_sumUp 50 = .ok (.aload_n 0, 1) := by decide +kernel
theorem dX1_sumUp_51 : decode cX1_sumUp 51 = .ok (.dup, 1) := by decide +kernel
theorem dX1_sumUp_52 : decode cX1_sumUp 52 = .ok (.getfield 71, 3) := by decide +kernel
theorem dX1_sumUp_55 : decode cX1_sumUp 55 = .ok (.aload_n 0, 1) := by decide +kernel
theorem dX1_sumUp_56 : decode cX1_sumUp 56 = .ok (.getfield 15, 3) := by decide +kernel
theorem dX1_sumUp_59 : decode cX1_sumUp 59 = .ok (.iload_n 2, 1) := by decide +kernel
theorem dX1_sumUp_60 : decode cX1_sumUp 60 = .ok (.laload, 1) := by decide +kernel
theorem dX1_sumUp_61 : decode cX1_sumUp 61 = .ok (.iload_n 3, 1) := by decide +kernel
theorem dX1_sumUp_62 : decode cX1_sumUp 62 = .ok (.invokestatic 78, 3) := by decide +kernel
theorem dX1_sumUp_65 : decode cX1_sumUp 65 = .ok (.i2l, 1) := by decide +kernel
theorem dX1_sumUp_66 : decode cX1_sumUp 66 = .ok (.lmul, 1) := by decide +kernel
theorem dX1_sumUp_67 : decode cX1_sumUp 67 = .ok (.ladd, 1) := by decide +kernel
theorem dX1_sumUp_68 : decode cX1_sumUp 68 = .ok (.putfield 71, 3) := by decide +kernel
theorem dX1_sumUp_71 : decode cX1_sumUp 71 = .ok (.iinc 2 1, 3) := by decide +kernel
theorem dX1_sumUp_74 : decode cX1_sumUp 74 = .ok (.goto (-62), 3) := by decide +kernel
theorem dX1_sumUp_77 : decode cX1_sumUp 77 = .ok (.return_, 1) := by decide +kernel
theorem dX1_strength_0 : decode cX1_strength 0 = .ok (.aload_n 0, 1) := by decide +kernel
theorem dX1_strength_1 : decode cX1_strength 1 = .ok (.iload_n 1, 1) := by decide +kernel
theorem dX1_strength_2 : decode cX1_strength 2 = .ok (.invokevirtual 60, 3) := by decide +kernel
theorem dX1_strength_5 : decode cX1_strength 5 = .ok (.aload_n 0, 1) := by decide +kernel
theorem dX1_strength_6 : decode cX1_strength 6 = .ok (.getfield 67, 3) := by decide +kernel
theorem dX1_strength_9 : decode cX1_strength 9 = .ok (.ldc2_w 63, 3) := by decide +kernel
theorem dX1_strength_12 : decode cX1_strength 12 = .ok (.ldiv, 1) := by decide +kernel
theorem dX1_strength_13 : decode cX1_strength 13 = .ok (.lstore_n 2, 1) := by decide +kernel
theorem dX1_strength_14 : decode cX1_strength 14 = .ok (.aload_n 0, 1) := by decide +kernel
theorem dX1_strength_15 : decode cX1_strength 15 = .ok (.getfield 71, 3) := by decide +kernel
theorem dX1_strength_18 : decode cX1_strength 18 = .ok (.ldc2_w 63, 3) := by decide +kernel
theorem dX1_strength_21 : decode cX1_strength 21 = .ok (.ldiv, 1) := by decide +kernel
theorem dX1_strength_22 : decode cX1_strength 22 = .ok (.lstore 4, 2) := by decide +kernel
theorem dX1_strength_24 : decode cX1_strength 24 = .ok (.lload_n 2, 1) := by decide +kernel
theorem dX1_strength_25 : decode cX1_strength 25 = .ok (.lload_n 2, 1) := by decide +kernel
theorem dX1_strength_26 : decode cX1_strength 26 = .ok (.lmul, 1) := by decide +kernel
theorem dX1_strength_27 : decode cX1_strength 27 = .ok (.lload 4, 2) := by decide +kernel
theorem dX1_strength_29 : decode cX1_strength 29 = .ok (.lload 4, 2) := by decide +kernel
theorem dX1_strength_31 : decode cX1_strength 31 = .ok (.lmul, 1) := by decide +kernel
theorem dX1_strength_32 : decode cX1_strength 32 = .ok (.ladd, 1) := by decide +kernel
theorem dX1_strength_33 : decode cX1_strength 33 = .ok (.lreturn, 1) := by decide +kernel
theorem dX1_valueAt_0 : decode cX1_valueAt 0 = .ok (.iconst 0, 1) := by decide +kernel
theorem dX1_valueAt_1 : decode cX1_valueAt 1 = .ok (.istore_n 2, 1) := by decide +kernel
theorem dX1_valueAt_2 : decode cX1_valueAt 2 = .ok (.iload_n 2, 1) := by decide +kernel
theorem dX1_valueAt_3 : decode cX1_valueAt 3 = .ok (.aload_n 0, 1) := by decide +kernel
theorem dX1_valueAt_4 : decode cX1_valueAt 4 = .ok (.getfield 38, 3) := by decide +kernel
theorem dX1_valueAt_7 : decode cX1_valueAt 7 = .ok (.if_icmp .ge 26, 3) := by decide +kernel
theorem dX1_valueAt_10 : decode cX1_valueAt 10 = .ok (.aload_n 0, 1) := by decide +kernel
theorem dX1_valueAt_11 : decode cX1_valueAt 11 = .ok (.getfield 9, 3) := by decide +kernel
theorem dX1_valueAt_14 : decode cX1_valueAt 14 = .ok (.iload_n 2, 1) := by decide +kernel
theorem dX1_valueAt_15 : decode cX1_valueAt 15 = .ok (.iaload, 1) := by decide +kernel
theorem dX1_valueAt_16 : decode cX1_valueAt 16 = .ok (.iload_n 1, 1) := by decide +kernel
theorem dX1_valueAt_17 : decode cX1_valueAt 17 = .ok (.if_icmp .ne 10, 3) := by decide +kernel
theorem dX1_valueAt_20 : decode cX1_valueAt 20 = .ok (.aload_n 0, 1) := by decide +kernel
theorem dX1_valueAt_21 : decode cX1_valueAt 21 = .ok (.getfield 15, 3) := by decide +kernel
theorem dX1_valueAt_24 : decode cX1_valueAt 24 = .ok (.iload_n 2, 1) := by decide +kernel
theorem dX1_valueAt_25 : decode cX1_valueAt 25 = .ok (.laload, 1) := by decide +kernel
theorem dX1_valueAt_26 : decode cX1_valueAt 26 = .ok (.lreturn, 1) := by decide +kernel
theorem dX1_valueAt_27 : decode cX1_valueAt 27 = .ok (.iinc 2 1, 3) := by decide +kernel
theorem dX1_valueAt_30 : decode cX1_valueAt 30 = .ok (.goto (-28), 3) := by decide +kernel
theorem dX1_valueAt_33 : decode cX1_valueAt 33 = .ok (.lconst 0, 1) := by decide +kernel
theorem dX1_valueAt_34 : decode cX1_valueAt 34 = .ok (.lreturn, 1) := by decide +kernel
theorem dX2_init_0 : decode cX2_init 0 = .ok (.aload_n 0, 1) := by decide +kernel
theorem dX2_init_1 : decode cX2_init 1 = .ok (.invokespecial 3, 3) := by decide +kernel
theorem dX2_init_4 : decode cX2_init 4 = .ok (.aload_n 0, 1) := by decide +kernel
theorem dX2_init_5 : decode cX2_init 5 = .ok (.bipush 8, 2) := by decide +kernel
theorem dX2_init_7 : decode cX2_init 7 = .ok (.newarray .int, 2) := by decide +kernel
theorem dX2_init_9 : decode cX2_init 9 = .ok (.putfield 9, 3) := by decide +kernel
theorem dX2_init_12 : decode cX2_init 12 = .ok (.aload_n 0, 1) := by decide +kernel
theorem dX2_init_13 : decode cX2_init 13 = .ok (.bipush 8, 2) := by decide +kernel
theorem dX2_init_15 : decode cX2_init 15 = .ok (.newarray .int, 2) := by decide +kernel
theorem dX2_init_17 : decode cX2_init 17 = .ok (.putfield 15, 3) := by decide +kernel
theorem dX2_init_20 : decode cX2_init 20 = .ok (.aload_n 0, 1) := by decide +kernel
theorem dX2_init_21 : decode cX2_init 21 = .ok (.bipush 8, 2) := by decide +kernel
theorem dX2_init_23 : decode cX2_init 23 = .ok (.newarray .int, 2) := by decide +kernel
theorem dX2_init_25 : decode cX2_init 25 = .ok (.putfield 18, 3) := by decide +kernel
theorem dX2_init_28 : decode cX2_init 28 = .ok (.aload_n 0, 1) := by decide +kernel
theorem dX2_init_29 : decode cX2_init 29 = .ok (.sipush 256, 3) := by decide +kernel
theorem dX2_init_32 : decode cX2_init 32 = .ok (.newarray .int, 2) := by decide +kernel
theorem dX2_init_34 : decode cX2_init 34 = .ok (.putfield 21, 3) := by decide +kernel
theorem dX2_init_37 : decode cX2_init 37 = .ok (.aload_n 0, 1) := by decide +kernel
theorem dX2_init_38 : decode cX2_init 38 = .ok (.sipush 256, 3) := by decide +kernel
theorem dX2_init_41 : decode cX2_init 41 = .ok (.newarray .int, 2) := by decide +kernel
theorem dX2_init_43 : decode cX2_init 43 = .ok (.putfield 24, 3) := by decide +kernel
theorem dX2_init_46 : decode cX2_init 46 = .ok (.aload_n 0, 1) := by decide +kernel
theorem dX2_init_47 : decode cX2_init 47 = .ok (.bipush 6, 2) := by decide +kernel
theorem dX2_init_49 : decode cX2_init 49 = .ok (.newarray .int, 2) := by decide +kernel
theorem dX2_init_51 : decode cX2_init 51 = .ok (.putfield 27, 3) := by decide +kernel
theorem dX2_init_54 : decode cX2_init 54 = .ok (.aload_n 0, 1) := by decide +kernel
theorem dX2_init_55 : decode cX2_init 55 = .ok (.getfield 21, 3) := by decide +kernel
theorem dX2_init_58 : decode cX2_init 58 = .ok (.iconst (-1), 1) := by decide +kernel
theorem dX2_init_59 : decode cX2_init 59 = .ok (.invokestatic 30, 3) := by decide +kernel
theorem dX2_init_62 : decode cX2_init 62 = .ok (.return_, 1) := by decide +kernel
theorem dX2_addShell_0 : decode cX2_addShell 0 = .ok (.aload_n 0, 1) := by decide +kernel
theorem dX2_addShell_1 : decode cX2_addShell 1 = .ok (.getfield 36, 3) := by decide +kernel
theorem dX2_addShell_4 : decode cX2_addShell 4 = .ok (.bipush 8, 2) := by decide +kernel
theorem dX2_addShell_6 : decode cX2_addShell 6 = .ok (.if_icmp .ge 43, 3) := by decide +kernel
theorem dX2_addShell_9 : decode cX2_addShell 9 = .ok (.aload_n 0, 1) := by decide +kernel
theorem dX2_addShell_10 : decode cX2_addShell 10 = .ok (.getfield 9, 3) := by decide +kernel
theorem dX2_addShell_13 : decode cX2_addShell 13 = .ok (.aload_n 0, 1) := by decide +kernel
theorem dX2_addShell_14 : decode cX2_addShell 14 = .ok (.getfield 36, 3) := by decide +kernel
theorem dX2_addShell_17 : decode cX2_addShell 17 = .ok (.iload_n 1, 1) := by decide +kernel
theorem dX2_addShell_18 : decode cX2_addShell 18 = .ok (.iastore, 1) := by decide +kernel
theorem dX2_addShell_19 : decode cX2_addShell 19 = .ok (.aload_n 0, 1) := by decide +kernel
theorem dX2_addShell_20 : decode cX2_addShell 20 = .ok (.getfield 15, 3) := by decide +kernel
theorem dX2_addShell_23 : decode cX2_addShell 23 = .ok (.aload_n 0, 1) := by decide +kernel
theorem dX2_addShell_24 : decode cX2_addShell 24 = .ok (.getfield 36, 3) := by decide +kernel
theorem dX2_addShell_27 : decode cX2_addShell 27 = .ok (.iload_n 2, 1) := by decide +kernel
theorem dX2_addShell_28 : decode cX2_addShell 28 = .ok (.iastore, 1) := by decide +kernel
theorem dX2_addShell_29 : decode cX2_addShell 29 = .ok (.aload_n 0, 1) := by decide +kernel
theorem dX2_addShell_30 : decode cX2_addShell 30 = .ok (.getfield 18, 3) := by decide +kernel
theorem dX2_addShell_33 : decode cX2_addShell 33 = .ok (.aload_n 0, 1) := by decide +kernel
theorem dX2_addShell_34 : decode cX2_addShell 34 = .ok (.getfield 36, 3) := by decide +kernel
theorem dX2_addShell_37 : decode cX2_addShell 37 = .ok (.iload_n 3, 1) := by decide +kernel
theorem dX2_addShell_38 : decode cX2_addShell 38 = .ok (.iastore, 1) := by decide +kernel
theorem dX2_addShell_39 : decode cX2_addShell 39 = .ok (.aload_n 0, 1) := by decide +kernel
theorem dX2_addShell_40 : decode cX2_addShell 40 = .ok (.dup, 1) := by decide +kernel
theorem dX2_addShell_41 : decode cX2_addShell 41 = .ok (.getfield 36, 3) := by decide +kernel
theorem dX2_addShell_44 : decode cX2_addShell 44 = .ok (.iconst 1, 1) := by decide +kernel
theorem dX2_addShell_45 : decode cX2_addShell 45 = .ok (.iadd, 1) := by decide +kernel
theorem dX2_addShell_46 : decode cX2_addShell 46 = .ok (.putfield 36, 3) := by decide +kernel
theorem dX2_addShell_49 : decode cX2_addShell 49 = .ok (.return_, 1) := by decide +kernel
theorem dX2_settle_0 : decode cX2_settle 0 = .ok (.aload_n 0, 1) := by decide +kernel
theorem dX2_settle_1 : decode cX2_settle 1 = .ok (.iload_n 1, 1) := by decide +kernel
theorem dX2_settle_2 : decode cX2_settle 2 = .ok (.putfield 40, 3) := by decide +kernel
theorem dX2_settle_5 : decode cX2_settle 5 = .ok (.aload_n 0, 1) := by decide +kernel
theorem dX2_settle_6 : decode cX2_settle 6 = .ok (.aload_n 0, 1) := by decide +kernel
theorem dX2_settle_7 : decode cX2_settle 7 = .ok (.invokevirtual 43, 3) := by decide +kernel
theorem dX2_settle_10 : decode cX2_settle 10 = .ok (.putfield 47, 3) := by decide +kernel
theorem dX2_settle_13 : decode cX2_settle 13 = .ok (.aload_n 0, 1) := by decide +kernel
theorem dX2_settle_14 : decode cX2_settle 14 = .ok (.aload_n 0, 1) := by decide +kernel
theorem dX2_settle_15 : decode cX2_settle 15 = .ok (.getfield 47, 3) := by decide +kernel
theorem dX2_settle_18 : decode cX2_settle 18 = .ok (.ifCond .le 13, 3) := by decide +kernel
theorem dX2_settle_21 : decode cX2_settle 21 = .ok (.ldc 50, 2) := by decide +kernel
theorem dX2_settle_23 : decode cX2_settle 23 = .ok (.aload_n 0, 1) := by decide +kernel
theorem dX2_settle_24 : decode cX2_settle 24 = .ok (.getfield 47, 3) := by decide +kernel
theorem dX2_settle_27 : decode cX2_settle 27 = .ok (.idiv, 1) := by decide +kernel
theorem dX2_settle_28 : decode cX2_settle 28 = .ok (.goto 4, 3) := by decide +kernel
theorem dX2_settle_31 : decode cX2_settle 31 = .ok (.iconst 0, 1) := by decide +kernel
theorem dX2_settle_32 : decode cX2_settle 32 = .ok (.putfield 51, 3) := by decide +kernel
theorem dX2_settle_35 : decode cX2_settle 35 = .ok (.aload_n 0, 1) := by decide +kernel
theorem dX2_settle_36 : decode cX2_settle 36 = .ok (.aload_n 0, 1) := by decide +kernel
theorem dX2_settle_37 : decode cX2_settle 37 = .ok (.invokevirtual 54, 3) := by decide +kernel
theorem dX2_settle_40 : decode cX2_settle 40 = .ok (.putfield 57, 3) := by decide +kernel
theorem dX2_settle_43 : decode cX2_settle 43 = .ok (.aload_n 0, 1) := by decide +kernel
theorem dX2_settle_44 : decode cX2_settle 44 = .ok (.aload_n 0, 1) := by decide +kernel
theorem dX2_settle_45 : decode cX2_settle 45 = .ok (.invokevirtual 60, 3) := by decide +kernel
theorem dX2_settle_48 : decode cX2_settle 48 = .ok (.putfield 63, 3) := by decide +kernel
theorem dX2_settle_51 : decode cX2_settle 51 = .ok (.aload_n 0, 1) := by decide +kernel
theorem dX2_settle_52 : decode cX2_settle 52 = .ok (.iconst 3, 1) := by decide +kernel
theorem dX2_settle_53 : decode cX2_settle 53 = .ok (.aload_n 0, 1) := by decide +kernel
theorem dX2_settle_54 : decode cX2_settle 54 = .ok (.getfield 51, 3) := by decide +kernel
theorem dX2_settle_57 : decode cX2_settle 57 = .ok (.imul, 1) := by decide +kernel
theorem dX2_settle_58 : decode cX2_settle 58 = .ok (.bipush 100, 2) := by decide +kernel
theorem dX2_settle_60 : decode cX2_settle 60 = .ok (.aload_n 0, 1) := by decide +kernel
theorem dX2_settle_61 : decode cX2_settle 61 = .ok (.getfield 15, 3) := by decide +kernel
theorem dX2_settle_64 : decode cX2_settle 64 = .ok (.iconst 0, 1) := by decide +kernel
theorem dX2_settle_65 : decode cX2_settle 65 = .ok (.iaload, 1) := by decide +kernel
theorem dX2_settle_66 : decode cX2_settle 66 = .ok (.imul, 1) := by decide +kernel
theorem dX2_settle_67 : decode cX2_settle 67 = .ok (.iadd, 1) := by decide +kernel
theorem dX2_settle_68 : decode cX2_settle 68 = .ok (.putfield 66, 3) := by decide +kernel
theorem dX2_settle_71 : decode cX2_settle 71 = .ok (.return_, 1) := by decide +kernel
theorem dX2_crossed_0 : decode cX2_crossed 0 = .ok (.iconst 0, 1) := by decide +kernel
theorem dX2_crossed_1 : decode cX2_crossed 1 = .ok (.istore_n 1, 1) := by decide +kernel
theorem dX2_crossed_2 : decode cX2_crossed 2 = .ok (.iconst 0, 1) := by decide +kernel
theorem dX2_crossed_3 : decode cX2_crossed 3 = .ok (.istore_n 2, 1) := by decide +kernel
theorem dX2_crossed_4 : decode cX2_crossed 4 = .ok (.iload_n 2, 1) := by decide +kernel
theorem dX2_crossed_5 : decode cX2_crossed 5 = .ok (.aload_n 0, 1) := by decide +kernel
theorem dX2_crossed_6 : decode cX2_crossed 6 = .ok (.getfield 36, 3) := by decide +kernel
theorem dX2_crossed_9 : decode cX2_crossed 9 = .ok (.if_icmp .ge 48, 3) := by decide +kernel
theorem dX2_crossed_12 : decode cX2_crossed 12 = .ok (.iload_n 2, 1) := by decide +kernel
theorem dX2_crossed_13 : decode cX2_crossed 13 = .ok (.bipush 8, 2) := by decide +kernel
theorem dX2_crossed_15 : decode cX2_crossed 15 = .ok (.if_icmp .ge 42, 3) := by decide +kernel
theorem dX2_crossed_18 : decode cX2_crossed 18 = .ok (.iload_n 1, 1) := by decide +kernel
theorem dX2_crossed_19 : decode cX2_crossed 19 = .ok (.aload_n 0, 1) := by decide +kernel
theorem dX2_crossed_20 : decode cX2_crossed 20 = .ok (.getfield 15, 3) := by decide +kernel
theorem dX2_crossed_23 : decode cX2_crossed 23 = .ok (.iload_n 2, 1) := by decide +kernel
theorem dX2_crossed_24 : decode cX2_crossed 24 = .ok (.iaload, 1) := by decide +kernel
theorem dX2_crossed_25 : decode cX2_crossed 25 = .ok (.ifCond .le 23, 3) := by decide +kernel
theorem dX2_crossed_28 : decode cX2_crossed 28 = .ok (.sipush 1000, 3) := by decide +kernel
theorem dX2_crossed_31 : decode cX2_crossed 31 = .ok (.aload_n 0, 1) := by decide +kernel
theorem dX2_crossed_32 : decode cX2_crossed 32 = .ok (.getfield 9, 3) := by decide +kernel
theorem dX2_crossed_35 : decode cX2_crossed 35 = .ok (.iload_n 2, 1) := by decide +kernel
theorem dX2_crossed_36 : decode cX2_crossed 36 = .ok (.iaload, 1) := by decide +kernel
theorem dX2_crossed_37 : decode cX2_crossed 37 = .ok (.imul, 1) := by decide +kernel
theorem dX2_crossed_38 : decode cX2_crossed 38 = .ok (.aload_n 0, 1) := by decide +kernel
theorem dX2_crossed_39 : decode cX2_crossed 39 = .ok (.getfield 15, 3) := by decide +kernel
theorem dX2_crossed_42 : decode cX2_crossed 42 = .ok (.iload_n 2, 1) := by decide +kernel
theorem dX2_crossed_43 : decode cX2_crossed 43 = .ok (.iaload, 1) := by decide +kernel
theorem dX2_crossed_44 : decode cX2_crossed 44 = .ok (.idiv, 1) := by decide +kernel
theorem dX2_crossed_45 : decode cX2_crossed 45 = .ok (.goto 4, 3) := by decide +kernel
theorem dX2_crossed_48 : decode cX2_crossed 48 = .ok (.iconst 0, 1) := by decide +kernel
theorem dX2_crossed_49 : decode cX2_crossed 49 = .ok (.iadd, 1) := by decide +kernel
theorem dX2_crossed_50 : decode cX2_crossed 50 = .ok (.istore_n 1, 1) := by decide +kernel
theorem dX2_crossed_51 : decode cX2_crossed 51 = .ok (.iinc 2 1, 3) := by decide +kernel
theorem dX2_crossed_54 : decode cX2_crossed 54 = .ok (.goto (-50), 3) := by decide +kernel
theorem dX2_crossed_57 : decode cX2_crossed 57 = .ok (.iload_n 1, 1) := by decide +kernel
theorem dX2_crossed_58 : decode cX2_crossed 58 = .ok (.ireturn, 1) := by decide +kernel
theorem dX2_crossedByUnits_0 : decode cX2_crossedByUnits 0 = .ok (.iconst 0, 1) := by decide +kernel
theorem dX2_crossedByUnits_1 : decode cX2_crossedByUnits 1 = .ok (.istore_n 1, 1) := by decide +kernel
theorem dX2_crossedByUnits_2 : decode cX2_crossedByUnits 2 = .ok (.iconst 0, 1) := by decide +kernel
theorem dX2_crossedByUnits_3 : decode cX2_crossedByUnits 3 = .ok (.istore_n 2, 1) := by decide +kernel
theorem dX2_crossedByUnits_4 : decode cX2_crossedByUnits 4 = .ok (.iload_n 2, 1) := by decide +kernel
theorem dX2_crossedByUnits_5 : decode cX2_crossedByUnits 5 = .ok (.aload_n 0, 1) := by decide +kernel
theorem dX2_crossedByUnits_6 : decode cX2_crossedByUnits 6 = .ok (.getfield 36, 3) := by decide +kernel
theorem dX2_crossedByUnits_9 : decode cX2_crossedByUnits 9 = .ok (.if_icmp .ge 72, 3) := by decide +kernel
theorem dX2_crossedByUnits_12 : decode cX2_crossedByUnits 12 = .ok (.iload_n 2, 1) := by decide +kernel
theorem dX2_crossedByUnits_13 : decode cX2_crossedByUnits 13 = .ok (.bipush 8, 2) := by decide +kernel
theorem dX2_crossedByUnits_15 : decode cX2_crossedByUnits 15 = .ok (.if_icmp .ge 66, 3) := by decide +kernel
theorem dX2_crossedByUnits_18 : decode cX2_crossedByUnits 18 = .ok (.iconst 0, 1) := by decide +kernel
theorem dX2_crossedByUnits_19 : decode cX2_crossedByUnits 19 = .ok (.istore_n 3, 1) := by decide +kernel
theorem dX2_crossedByUnits_20 : decode cX2_crossedByUnits 20 = .ok (.iconst 0, 1) := by decide +kernel
theorem dX2_crossedByUnits_21 : decode cX2_crossedByUnits 21 = .ok (.istore 4, 2) := by decide +kernel
theorem dX2_crossedByUnits_23 : decode cX2_crossedByUnits 23 = .ok (.iload 4, 2) := by decide +kernel
theorem dX2_crossedByUnits_25 : decode cX2_crossedByUnits 25 = .ok (.aload_n 0, 1) := by decide +kernel
theorem dX2_crossedByUnits_26 : decode cX2_crossedByUnits 26 = .ok (.getfield 9, 3) := by decide +kernel
theorem dX2_crossedByUnits_29 : decode cX2_crossedByUnits 29 = .ok (.iload_n 2, 1) := by decide +kernel
theorem dX2_crossedByUnits_30 : decode cX2_crossedByUnits 30 = .ok (.iaload, 1) := by decide +kernel
theorem dX2_crossedByUnits_31 : decode cX2_crossedByUnits 31 = .ok (.if_icmp .ge 44, 3) := by decide +kernel
theorem dX2_crossedByUnits_34 : decode cX2_crossedByUnits 34 = .ok (.aload_n 0, 1) := by decide +kernel
theorem dX2_crossedByUnits_35 : decode cX2_crossedByUnits 35 = .ok (.getfield 15, 3) := by decide +kernel
theorem dX2_crossedByUnits_38 : decode cX2_crossedByUnits 38 = .ok (.iload_n 2, 1) := by decide +kernel
theorem dX2_crossedByUnits_39 : decode cX2_crossedByUnits 39 = .ok (.iaload, 1) := by decide +kernel
theorem dX2_crossedByUnits_40 : decode cX2_crossedByUnits 40 = .ok (.ifCond .le 35, 3) := by decide +kernel
theorem dX2_crossedByUnits_43 : decode cX2_crossedByUnits 43 = .ok (.iinc 3 1000, 6) := by decide +kernel
theorem dX2_crossedByUnits_49 : decode cX2_crossedByUnits 49 = .ok (.iload_n 1, 1) := by decide +kernel
theorem dX2_crossedByUnits_50 : decode cX2_crossedByUnits 50 = .ok (.iload_n 3, 1) := by decide +kernel
theorem dX2_crossedByUnits_51 : decode cX2_crossedByUnits 51 = .ok (.aload_n 0, 1) := by decide +kernel
theorem dX2_crossedByUnits_52 : decode cX2_crossedByUnits 52 = .ok (.getfield 15, 3) := by decide +kernel
theorem dX2_crossedByUnits_55 : decode cX2_crossedByUnits 55 = .ok (.iload_n 2, 1) := by decide +kernel
theorem dX2_crossedByUnits_56 : decode cX2_crossedByUnits 56 = .ok (.iaload, 1) := by decide +kernel
theorem dX2_crossedByUnits_57 : decode cX2_crossedByUnits 57 = .ok (.idiv, 1) := by decide +kernel
theorem dX2_crossedByUnits_58 : decode cX2_crossedByUnits 58 = .ok (.iadd, 1) := by decide +kernel
theorem dX2_crossedByUnits_59 : decode cX2_crossedByUnits 59 = .ok (.istore_n 1, 1) := by decide +kernel
theorem dX2_crossedByUnits_60 : decode cX2_crossedByUnits 60 = .ok (.iload_n 3, 1) := by decide +kernel
theorem dX2_crossedByUnits_61 : decode cX2_crossedByUnits 61 = .ok (.aload_n 0, 1) := by decide +kernel
theorem dX2_crossedByUnits_62 : decode cX2_crossedByUnits 62 = .ok (.getfield 15, 3) := by decide +kernel
theorem dX2_crossedByUnits_65 : decode cX2_crossedByUnits 65 = .ok (.iload_n 2, 1) := by decide +kernel
theorem dX2_crossedByUnits_66 : decode cX2_crossedByUnits 66 = .ok (.iaload, 1) := by decide +kernel
theorem dX2_crossedByUnits_67 : decode cX2_crossedByUnits 67 = .ok (.irem, 1) := by decide +kernel
theorem dX2_crossedByUnits_68 : decode cX2_crossedByUnits 68 = .ok (.istore_n 3, 1) := by decide +kernel
theorem dX2_crossedByUnits_69 : decode cX2_crossedByUnits 69 = .ok (.iinc 4 1, 3) := by decide +kernel
theorem dX2_crossedByUnits_72 : decode cX2_crossedByUnits 72 = .ok (.goto (-49), 3) := by decide +kernel
theorem dX2_crossedByUnits_75 : decode cX2_crossedByUnits 75 = .ok (.iinc 2 1, 3) := by decide +kernel
theorem dX2_crossedByUnits_78 : decode cX2_crossedByUnits 78 = .ok (.goto (-74), 3) := by decide +kernel
theorem dX2_crossedByUnits_81 : decode cX2_crossedByUnits 81 = .ok (.iload_n 1, 1) := by decide +kernel
theorem dX2_crossedByUnits_82 : decode cX2_crossedByUnits 82 = .ok (.ireturn, 1) := by decide +kernel
theorem dX2_slowed_0 : decode cX2_slowed 0 = .ok (.iconst 0, 1) := by decide +kernel
theorem dX2_slowed_1 : decode cX2_slowed 1 = .ok (.istore_n 1, 1) := by decide +kernel
theorem dX2_slowed_2 : decode cX2_slowed 2 = .ok (.iconst 1, 1) := by decide +kernel
theorem dX2_slowed_3 : decode cX2_slowed 3 = .ok (.istore_n 2, 1) := by decide +kernel
theorem dX2_slowed_4 : decode cX2_slowed 4 = .ok (.iload_n 2, 1) := by decide +kernel
theorem dX2_slowed_5 : decode cX2_slowed 5 = .ok (.aload_n 0, 1) := by decide +kernel
theorem dX2_slowed_6 : decode cX2_slowed 6 = .ok (.getfield 36, 3) := by decide +kernel
theorem dX2_slowed_9 : decode cX2_slowed 9 = .ok (.if_icmp .ge 37, 3) := by decide +kernel
theorem dX2_slowed_12 : decode cX2_slowed 12 = .ok (.iload_n 2, 1) := by decide +kernel
theorem dX2_slowed_13 : decode cX2_slowed 13 = .ok (.bipush 8, 2) := by decide +kernel
theorem dX2_slowed_15 : decode cX2_slowed 15 = .ok (.if_icmp .ge 31, 3) := by decide +kernel
theorem dX2_slowed_18 : decode cX2_slowed 18 = .ok (.iload_n 1, 1) := by decide +kernel
theorem dX2_slowed_19 : decode cX2_slowed 19 = .ok (.iconst 0, 1) := by decide +kernel
theorem dX2_slowed_20 : decode cX2_slowed 20 = .ok (.aload_n 0, 1) := by decide +kernel
theorem dX2_slowed_21 : decode cX2_slowed 21 = .ok (.getfield 15, 3) := by decide +kernel
theorem dX2_slowed_24 : decode cX2_slowed 24 = .ok (.iload_n 2, 1) := by decide +kernel
theorem dX2_slowed_25 : decode cX2_slowed 25 = .ok (.iconst 1, 1) := by decide +kernel
theorem dX2_slowed_26 : decode cX2_slowed 26 = .ok (.isub, 1) := by decide +kernel
theorem dX2_slowed_27 : decode cX2_slowed 27 = .ok (.iaload, 1) := by decide +kernel
theorem dX2_slowed_28 : decode cX2_slowed 28 = .ok (.aload_n 0, 1) := by decide +kernel
theorem dX2_slowed_29 : decode cX2_slowed 29 = .ok (.getfield 15, 3) := by decide +kernel
theorem dX2_slowed_32 : decode cX2_slowed 32 = .ok (.iload_n 2, 1) := by decide +kernel
theorem dX2_slowed_33 : decode cX2_slowed 33 = .ok (.iaload, 1) := by decide +kernel
theorem dX2_slowed_34 : decode cX2_slowed 34 = .ok (.isub, 1) := by decide +kernel
theorem dX2_slowed_35 : decode cX2_slowed 35 = .ok (.invokestatic 69, 3) := by decide +kernel
theorem dX2_slowed_38 : decode cX2_slowed 38 = .ok (.iadd, 1) := by decide +kernel
theorem dX2_slowed_39 : decode cX2_slowed 39 = .ok (.istore_n 1, 1) := by decide +kernel
theorem dX2_slowed_40 : decode cX2_slowed 40 = .ok (.iinc 2 1, 3) := by decide +kernel
theorem dX2_slowed_43 : decode cX2_slowed 43 = .ok (.goto (-39), 3) := by decide +kernel
theorem dX2_slowed_46 : decode cX2_slowed 46 = .ok (.iload_n 1, 1) := by decide +kernel
theorem dX2_slowed_47 : decode cX2_slowed 47 = .ok (.ireturn, 1) := by decide +kernel
theorem dX2_turned_0 : decode cX2_turned 0 = .ok (.iconst 0, 1) := by decide +kernel
theorem dX2_turned_1 : decode cX2_turned 1 = .ok (.istore_n 1, 1) := by decide +kernel
theorem dX2_turned_2 : decode cX2_turned 2 = .ok (.iconst 0, 1) := by decide +kernel
theorem dX2_turned_3 : decode cX2_turned 3 = .ok (.istore_n 2, 1) := by decide +kernel
theorem dX2_turned_4 : decode cX2_turned 4 = .ok (.iconst 0, 1) := by decide +kernel
theorem dX2_turned_5 : decode cX2_turned 5 = .ok (.istore_n 3, 1) := by decide +kernel
theorem dX2_turned_6 : decode cX2_turned 6 = .ok (.iload_n 3, 1) := by decide +kernel
theorem dX2_turned_7 : decode cX2_turned 7 = .ok (.aload_n 0, 1) := by decide +kernel
theorem dX2_turned_8 : decode cX2_turned 8 = .ok (.getfield 36, 3) := by decide +kernel
theorem dX2_turned_11 : decode cX2_turned 11 = .ok (.if_icmp .ge 40, 3) := by decide +kernel
theorem dX2_turned_14 : decode cX2_turned 14 = .ok (.iload_n 3, 1) := by decide +kernel
theorem dX2_turned_15 : decode cX2_turned 15 = .ok (.bipush 8, 2) := by decide +kernel
theorem dX2_turned_17 : decode cX2_turned 17 = .ok (.if_icmp .ge 34, 3) := by decide +kernel
theorem dX2_turned_20 : decode cX2_turned 20 = .ok (.iload_n 1, 1) := by decide +kernel
theorem dX2_turned_21 : decode cX2_turned 21 = .ok (.aload_n 0, 1) := by decide +kernel
theorem dX2_turned_22 : decode cX2_turned 22 = .ok (.getfield 9, 3) := by decide +kernel
theorem dX2_turned_25 : decode cX2_turned 25 = .ok (.iload_n 3, 1) := by decide +kernel
theorem dX2_turned_26 : decode cX2_turned 26 = .ok (.iaload, 1) := by decide +kernel
theorem dX2_turned_27 : decode cX2_turned 27 = .ok (.iadd, 1) := by decide +kernel
theorem dX2_turned_28 : decode cX2_turned 28 = .ok (.istore_n 1, 1) := by decide +kernel
theorem dX2_turned_29 : decode cX2_turned 29 = .ok (.iload_n 2, 1) := by decide +kernel
theorem dX2_turned_30 : decode cX2_turned 30 = .ok (.aload_n 0, 1) := by decide +kernel
theorem dX2_turned_31 : decode cX2_turned 31 = .ok (.getfield 9, 3) := by decide +kernel
theorem dX2_turned_34 : decode cX2_turned 34 = .ok (.iload_n 3, 1) := by decide +kernel
theorem dX2_turned_35 : decode cX2_turned 35 = .ok (.iaload, 1) := by decide +kernel
theorem dX2_turned_36 : decode cX2_turned 36 = .ok (.aload_n 0, 1) := by decide +kernel
theorem dX2_turned_37 : decode cX2_turned 37 = .ok (.getfield 18, 3) := by decide +kernel
theorem dX2_turned_40 : decode cX2_turned 40 = .ok (.iload_n 3, 1) := by decide +kernel
theorem dX2_turned_41 : decode cX2_turned 41 = .ok (.iaload, 1) := by decide +kernel
theorem dX2_turned_42 : decode cX2_turned 42 = .ok (.imul, 1) := by decide +kernel
theorem dX2_turned_43 : decode cX2_turned 43 = .ok (.iadd, 1) := by decide +kernel
theorem dX2_turned_44 : decode cX2_turned 44 = .ok (.istore_n 2, 1) := by decide +kernel
theorem dX2_turned_45 : decode cX2_turned 45 = .ok (.iinc 3 1, 3) := by decide +kernel
theorem dX2_turned_48 : decode cX2_turned 48 = .ok (.goto (-42), 3) := by decide +kernel
theorem dX2_turned_51 : decode cX2_turned 51 = .ok (.iload_n 1, 1) := by decide +kernel
theorem dX2_turned_52 : decode cX2_turned 52 = .ok (.ifCond .le 9, 3) := by decide +kernel
theorem dX2_turned_55 : decode cX2_turned 55 = .ok (.iload_n 2, 1) := by decide +kernel
theorem dX2_turned_56 : decode cX2_turned 56 = .ok (.iload_n 1, 1) := by decide +kernel
theorem dX2_turned_57 : decode cX2_turned 57 = .ok (.idiv, 1) := by decide +kernel
theorem dX2_turned_58 : decode cX2_turned 58 = .ok (.goto 4, 3) := by decide +kernel
theorem dX2_turned_61 : decode cX2_turned 61 = .ok (.iconst 0, 1) := by decide +kernel
theorem dX2_turned_62 : decode cX2_turned 62 = .ok (.ireturn, 1) := by decide +kernel
theorem dX2_awayFrom_0 : decode cX2_awayFrom 0 = .ok (.aload_n 0, 1) := by decide +kernel
theorem dX2_awayFrom_1 : decode cX2_awayFrom 1 = .ok (.getfield 51, 3) := by decide +kernel
theorem dX2_awayFrom_4 : decode cX2_awayFrom 4 = .ok (.iload_n 1, 1) := by decide +kernel
theorem dX2_awayFrom_5 : decode cX2_awayFrom 5 = .ok (.isub, 1) := by decide +kernel
theorem dX2_awayFrom_6 : decode cX2_awayFrom 6 = .ok (.invokestatic 75, 3) := by decide +kernel
theorem dX2_awayFrom_9 : decode cX2_awayFrom 9 = .ok (.ireturn, 1) := by decide +kernel
theorem dX2_ring_0 : decode cX2_ring 0 = .ok (.aload_n 0, 1) := by decide +kernel
theorem dX2_ring_1 : decode cX2_ring 1 = .ok (.getfield 51, 3) := by decide +kernel
theorem dX2_ring_4 : decode cX2_ring 4 = .ok (.iconst 2, 1) := by decide +kernel
theorem dX2_ring_5 : decode cX2_ring 5 = .ok (.iload_n 1, 1) := by decide +kernel
theorem dX2_ring_6 : decode cX2_ring 6 = .ok (.imul, 1) := by decide +kernel
theorem dX2_ring_7 : decode cX2_ring 7 = .ok (.iload_n 2, 1) := by decide +kernel
theorem dX2_ring_8 : decode cX2_ring 8 = .ok (.iadd, 1) := by decide +kernel
theorem dX2_ring_9 : decode cX2_ring 9 = .ok (.iconst 3, 1) := by decide +kernel
theorem dX2_ring_10 : decode cX2_ring 10 = .ok (.iadd, 1) := by decide +kernel
theorem dX2_ring_11 : decode cX2_ring 11 = .ok (.imul, 1) := by decide +kernel
theorem dX2_ring_12 : decode cX2_ring 12 = .ok (.iconst 2, 1) := by decide +kernel
theorem dX2_ring_13 : decode cX2_ring 13 = .ok (.invokestatic 79, 3) := by decide +kernel
theorem dX2_ring_16 : decode cX2_ring 16 = .ok (.aload_n 0, 1) := by decide +kernel
theorem dX2_ring_17 : decode cX2_ring 17 = .ok (.getfield 57, 3) := by decide +kernel
theorem dX2_ring_20 : decode cX2_ring 20 = .ok (.iload_n 2, 1) := by decide +kernel
theorem dX2_ring_21 : decode cX2_ring 21 = .ok (.imul, 1) := by decide +kernel
theorem dX2_ring_22 : decode cX2_ring 22 = .ok (.iload_n 2, 1) := by decide +kernel
theorem dX2_ring_23 : decode cX2_ring 23 = .ok (.iconst 1, 1) := by decide +kernel
theorem dX2_ring_24 : decode cX2_ring 24 = .ok (.iadd, 1) := by decide +kernel
theorem dX2_ring_25 : decode cX2_ring 25 = .ok (.imul, 1) := by decide +kernel
theorem dX2_ring_26 : decode cX2_ring 26 = .ok (.isub, 1) := by decide +kernel
theorem dX2_ring_27 : decode cX2_ring 27 = .ok (.istore 4, 2) := by decide +kernel
theorem dX2_ring_29 : decode cX2_ring 29 = .ok (.iload 4, 2) := by decide +kernel
theorem dX2_ring_31 : decode cX2_ring 31 = .ok (.aload_n 0, 1) := by decide +kernel
theorem dX2_ring_32 : decode cX2_ring 32 = .ok (.getfield 66, 3) := by decide +kernel
theorem dX2_ring_35 : decode cX2_ring 35 = .ok (.isub, 1) := by decide +kernel
theorem dX2_ring_36 : decode cX2_ring 36 = .ok (.invokestatic 75, 3) := by decide +kernel
theorem dX2_ring_39 : decode cX2_ring 39 = .ok (.istore 5, 2) := by decide +kernel
theorem dX2_ring_41 : decode cX2_ring 41 = .ok (.iload_n 2, 1) := by decide +kernel
theorem dX2_ring_42 : decode cX2_ring 42 = .ok (.iconst 1, 1) := by decide +kernel
theorem dX2_ring_43 : decode cX2_ring 43 = .ok (.if_icmp .ne 43, 3) := by decide +kernel
theorem dX2_ring_46 : decode cX2_ring 46 = .ok (.iload 5, 2) := by decide +kernel
theorem dX2_ring_48 : decode cX2_ring 48 = .ok (.sipush 500, 3) := by decide +kernel
theorem dX2_ring_51 : decode cX2_ring 51 = .ok (.if_icmp .ge 35, 3) := by decide +kernel
theorem dX2_ring_54 : decode cX2_ring 54 = .ok (.sipush 500, 3) := by decide +kernel
theorem dX2_ring_57 : decode cX2_ring 57 = .ok (.iload 5, 2) := by decide +kernel
theorem dX2_ring_59 : decode cX2_ring 59 = .ok (.isub, 1) := by decide +kernel
theorem dX2_ring_60 : decode cX2_ring 60 = .ok (.iconst 2, 1) := by decide +kernel
theorem dX2_ring_61 : decode cX2_ring 61 = .ok (.idiv, 1) := by decide +kernel
theorem dX2_ring_62 : decode cX2_ring 62 = .ok (.istore 6, 2) := by decide +kernel
theorem dX2_ring_64 : decode cX2_ring 64 = .ok (.iload 4, 2) := by decide +kernel
theorem dX2_ring_66 : decode cX2_ring 66 = .ok (.iload 4, 2) := by decide +kernel
theorem dX2_ring_68 : decode cX2_ring 68 = .ok (.aload_n 0, 1) := by decide +kernel
theorem dX2_ring_69 : decode cX2_ring 69 = .ok (.getfield 66, 3) := by decide +kernel
theorem dX2_ring_72 : decode cX2_ring 72 = .ok (.if_icmp .lt 8, 3) := by decide +kernel
theorem dX2_ring_75 : decode cX2_ring 75 = .ok (.iload 6, 2) := by decide +kernel
theorem dX2_ring_77 : decode cX2_ring 77 = .ok (.goto 6, 3) := by decide +kernel
theorem dX2_ring_80 : decode cX2_ring 80 = .ok (.iload 6, 2) := by decide +kernel
theorem dX2_ring_82 : decode cX2_ring 82 = .ok (.ineg, 1) := by decide +kernel
theorem dX2_ring_83 : decode cX2_ring 83 = .ok (.iadd, 1) := by decide +kernel
theorem dX2_ring_84 : decode cX2_ring 84 = .ok (.istore 4, 2) := by decide +kernel
theorem dX2_ring_86 : decode cX2_ring 86 = .ok (.iload 4, 2) := by decide +kernel
theorem dX2_ring_88 : decode cX2_ring 88 = .ok (.bipush 10, 2) := by decide +kernel
theorem dX2_ring_90 : decode cX2_ring 90 = .ok (.aload_n 0, 1) := by decide +kernel
theorem dX2_ring_91 : decode cX2_ring 91 = .ok (.getfield 63, 3) := by decide +kernel
theorem dX2_ring_94 : decode cX2_ring 94 = .ok (.imul, 1) := by decide +kernel
theorem dX2_ring_95 : decode cX2_ring 95 = .ok (.iload_n 3, 1) := by decide +kernel
theorem dX2_ring_96 : decode cX2_ring 96 = .ok (.imul, 1) := by decide +kernel
theorem dX2_ring_97 : decode cX2_ring 97 = .ok (.iadd, 1) := by decide +kernel
theorem dX2_ring_98 : decode cX2_ring 98 = .ok (.ireturn, 1) := by decide +kernel
theorem dX2_ringsNear_0 : decode cX2_ringsNear 0 = .ok (.iconst 1, 1) := by decide +kernel
theorem dX2_ringsNear_1 : decode cX2_ringsNear 1 = .ok (.istore_n 2, 1) := by decide +kernel
theorem dX2_ringsNear_2 : decode cX2_ringsNear 2 = .ok (.iload_n 2, 1) := by decide +kernel
theorem dX2_ringsNear_3 : decode cX2_ringsNear 3 = .ok (.bipush 12, 2) := by decide +kernel
theorem dX2_ringsNear_5 : decode cX2_ringsNear 5 = .ok (.if_icmp .gt 42, 3) := by decide +kernel
theorem dX2_ringsNear_8 : decode cX2_ringsNear 8 = .ok (.iconst 0, 1) := by decide +kernel
theorem dX2_ringsNear_9 : decode cX2_ringsNear 9 = .ok (.istore_n 3, 1) := by decide +kernel
theorem dX2_ringsNear_10 : decode cX2_ringsNear 10 = .ok (.iload_n 3, 1) := by decide +kernel
theorem dX2_ringsNear_11 : decode cX2_ringsNear 11 = .ok (.iconst 2, 1) := by decide +kernel
theorem dX2_ringsNear_12 : decode cX2_ringsNear 12 = .ok (.if_icmp .gt 29, 3) := by decide +kernel
theorem dX2_ringsNear_15 : decode cX2_ringsNear 15 = .ok (.aload_n 0, 1) := by decide +kernel
theorem dX2_ringsNear_16 : decode cX2_ringsNear 16 = .ok (.iload_n 2, 1) := by decide +kernel
theorem dX2_ringsNear_17 : decode cX2_ringsNear 17 = .ok (.iload_n 3, 1) := by decide +kernel
theorem dX2_ringsNear_18 : decode cX2_ringsNear 18 = .ok (.iconst 0, 1) := by decide +kernel
theorem dX2_ringsNear_19 : decode cX2_ringsNear 19 = .ok (.invokevirtual 82, 3) := by decide +kernel
theorem dX2_ringsNear_22 : decode cX2_ringsNear 22 = .ok (.iload_n 1, 1) := by decide +kernel
theorem dX2_ringsNear_23 : decode cX2_ringsNear 23 = .ok (.isub, 1) := by decide +kernel
theorem dX2_ringsNear_24 : decode cX2_ringsNear 24 = .ok (.invokestatic 75, 3) := by decide +kernel
theorem dX2_ringsNear_27 : decode cX2_ringsNear 27 = .ok (.sipush 20000, 3) := by decide +kernel
theorem dX2_ringsNear_30 : decode cX2_ringsNear 30 = .ok (.if_icmp .ge 5, 3) := by decide +kernel
theorem dX2_ringsNear_33 : decode cX2_ringsNear 33 = .ok (.iconst 1, 1) := by decide +kernel
theorem dX2_ringsNear_34 : decode cX2_ringsNear 34 = .ok (.ireturn, 1) := by decide +kernel
theorem dX2_ringsNear_35 : decode cX2_ringsNear 35 = .ok (.iinc 3 1, 3) := by decide +kernel
theorem dX2_ringsNear_38 : decode cX2_ringsNear 38 = .ok (.goto (-28), 3) := by decide +kernel
theorem dX2_ringsNear_41 : decode cX2_ringsNear 41 = .ok (.iinc 2 1, 3) := by decide +kernel
theorem dX2_ringsNear_44 : decode cX2_ringsNear 44 = .ok (.goto (-42), 3) := by decide +kernel
theorem dX2_ringsNear_47 : decode cX2_ringsNear 47 = .ok (.iconst 0, 1) := by decide +kernel
theorem dX2_ringsNear_48 : decode cX2_ringsNear 48 = .ok (.ireturn, 1) := by decide +kernel
theorem dX3_init_0 : decode cX3_init 0 = .ok (.aload_n 0, 1) := by decide +kernel
theorem dX3_init_1 : decode cX3_init 1 = .ok (.invokespecial 1, 3) := by decide +kernel
theorem dX3_init_4 : decode cX3_init 4 = .ok (.aload_n 0, 1) := by decide +kernel
theorem dX3_init_5 : decode cX3_init 5 = .ok (.bipush 6, 2) := by decide +kernel
theorem dX3_init_7 : decode cX3_init 7 = .ok (.anewarray 9, 3) := by decide +kernel
theorem dX3_init_10 : decode cX3_init 10 = .ok (.putfield 11, 3) := by decide +kernel
theorem dX3_init_13 : decode cX3_init 13 = .ok (.aload_n 0, 1) := by decide +kernel
theorem dX3_init_14 : decode cX3_init 14 = .ok (.new 9, 3) := by decide +kernel
theorem dX3_init_17 : decode cX3_init 17 = .ok (.dup, 1) := by decide +kernel
theorem dX3_init_18 : decode cX3_init 18 = .ok (.invokespecial 15, 3) := by decide +kernel
theorem dX3_init_21 : decode cX3_init 21 = .ok (.putfield 16, 3) := by decide +kernel
theorem dX3_init_24 : decode cX3_init 24 = .ok (.aload_n 0, 1) := by decide +kernel
theorem dX3_init_25 : decode cX3_init 25 = .ok (.iconst 4, 1) := by decide +kernel
theorem dX3_init_26 : decode cX3_init 26 = .ok (.newarray .boolean, 2) := by decide +kernel
theorem dX3_init_28 : decode cX3_init 28 = .ok (.putfield 20, 3) := by decide +kernel
theorem dX3_init_31 : decode cX3_init 31 = .ok (.aload_n 0, 1) := by decide +kernel
theorem dX3_init_32 : decode cX3_init 32 = .ok (.sipush 1000, 3) := by decide +kernel
theorem dX3_init_35 : decode cX3_init 35 = .ok (.putfield 24, 3) := by decide +kernel
theorem dX3_init_38 : decode cX3_init 38 = .ok (.aload_n 0, 1) := by decide +kernel
theorem dX3_init_39 : decode cX3_init 39 = .ok (.bipush 40, 2) := by decide +kernel
theorem dX3_init_41 : decode cX3_init 41 = .ok (.anewarray 28, 3) := by decide +kernel
theorem dX3_init_44 : decode cX3_init 44 = .ok (.putfield 30, 3) := by decide +kernel
theorem dX3_init_47 : decode cX3_init 47 = .ok (.aload_n 0, 1) := by decide +kernel
theorem dX3_init_48 : decode cX3_init 48 = .ok (.new 34, 3) := by decide +kernel
theorem dX3_init_51 : decode cX3_init 51 = .ok (.dup, 1) := by decide +kernel
theorem dX3_init_52 : decode cX3_init 52 = .ok (.invokespecial 36, 3) := by decide +kernel
theorem dX3_init_55 : decode cX3_init 55 = .ok (.putfield 37, 3) := by decide +kernel
theorem dX3_init_58 : decode cX3_init 58 = .ok (.return_, 1) := by decide +kernel
theorem dX3_shell_0 : decode cX3_shell 0 = .ok (.iload_n 1, 1) := by decide +kernel
theorem dX3_shell_1 : decode cX3_shell 1 = .ok (.iconst 1, 1) := by decide +kernel
theorem dX3_shell_2 : decode cX3_shell 2 = .ok (.bipush 99, 2) := by decide +kernel
theorem dX3_shell_4 : decode cX3_shell 4 = .ok (.invokestatic 41, 3) := by decide +kernel
theorem dX3_shell_7 : decode cX3_shell 7 = .ok (.ifCond .ne 23, 3) := by decide +kernel
theorem dX3_shell_10 : decode cX3_shell 10 = .ok (.iload_n 2, 1) := by decide +kernel
theorem dX3_shell_11 : decode cX3_shell 11 = .ok (.iconst 1, 1) := by decide +kernel
theorem dX3_shell_12 : decode cX3_shell 12 = .ok (.bipush 99, 2) := by decide +kernel
theorem dX3_shell_14 : decode cX3_shell 14 = .ok (.invokestatic 41, 3) := by decide +kernel
theorem dX3_shell_17 : decode cX3_shell 17 = .ok (.ifCond .ne 13, 3) := by decide +kernel
theorem dX3_shell_20 : decode cX3_shell 20 = .ok (.iload_n 3, 1) := by decide +kernel
theorem dX3_shell_21 : decode cX3_shell 21 = .ok (.iconst 0, 1) := by decide +kernel
theorem dX3_shell_22 : decode cX3_shell 22 = .ok (.bipush 9, 2) := by decide +kernel
theorem dX3_shell_24 : decode cX3_shell 24 = .ok (.invokestatic 41, 3) := by decide +kernel
theorem dX3_shell_27 : decode cX3_shell 27 = .ok (.ifCond .eq 13, 3) := by decide +kernel
theorem dX3_shell_30 : decode cX3_shell 30 = .ok (.new 45, 3) := by decide +kernel
theorem dX3_shell_33 : decode cX3_shell 33 = .ok (.dup, 1) := by decide +kernel
theorem dX3_shell_34 : decode cX3_shell 34 = .ok (.ldc 47, 2) := by decide +kernel
theorem dX3_shell_36 : decode cX3_shell 36 = .ok (.invokespecial 49, 3) := by decide +kernel
theorem dX3_shell_39 : decode cX3_shell 39 = .ok (.athrow, 1) := by decide +kernel
theorem dX3_shell_40 : decode cX3_shell 40 = .ok (.aload_n 0, 1) := by decide +kernel
theorem dX3_shell_41 : decode cX3_shell 41 = .ok (.getfield 16, 3) := by decide +kernel
theorem dX3_shell_44 : decode cX3_shell 44 = .ok (.getfield 52, 3) := by decide +kernel
theorem dX3_shell_47 : decode cX3_shell 47 = .ok (.bipush 8, 2) := by decide +kernel
theorem dX3_shell_49 : decode cX3_shell 49 = .ok (.if_icmp .lt 13, 3) := by decide +kernel
theorem dX3_shell_52 : decode cX3_shell 52 = .ok (.new 55, 3) := by decide +kernel
theorem dX3_shell_55 : decode cX3_shell 55 = .ok (.dup, 1) := by decide +kernel
theorem dX3_shell_56 : decode cX3_shell 56 = .ok (.ldc 57, 2) := by decide +kernel
theorem dX3_shell_58 : decode cX3_shell 58 = .ok (.invokespecial 59, 3) := by decide +kernel
theorem dX3_shell_61 : decode cX3_shell 61 = .ok (.athrow, 1) := by decide +kernel
theorem dX3_shell_62 : decode cX3_shell 62 = .ok (.aload_n 0, 1) := by decide +kernel
theorem dX3_shell_63 : decode cX3_shell 63 = .ok (.getfield 16, 3) := by decide +kernel
theorem dX3_shell_66 : decode cX3_shell 66 = .ok (.iload_n 1, 1) := by decide +kernel
theorem dX3_shell_67 : decode cX3_shell 67 = .ok (.iload_n 2, 1) := by decide +kernel
theorem dX3_shell_68 : decode cX3_shell 68 = .ok (.iload_n 3, 1) := by decide +kernel
theorem dX3_shell_69 : decode cX3_shell 69 = .ok (.invokevirtual 60, 3) := by decide +kernel
theorem dX3_shell_72 : decode cX3_shell 72 = .ok (.aload_n 0, 1) := by decide +kernel
theorem dX3_shell_73 : decode cX3_shell 73 = .ok (.getfield 16, 3) := by decide +kernel
theorem dX3_shell_76 : decode cX3_shell 76 = .ok (.getfield 52, 3) := by decide +kernel
theorem dX3_shell_79 : decode cX3_shell 79 = .ok (.ireturn, 1) := by decide +kernel
theorem dX3_star_0 : decode cX3_star 0 = .ok (.iload_n 1, 1) := by decide +kernel
theorem dX3_star_1 : decode cX3_star 1 = .ok (.iconst 0, 1) := by decide +kernel
theorem dX3_star_2 : decode cX3_star 2 = .ok (.bipush 99, 2) := by decide +kernel
theorem dX3_star_4 : decode cX3_star 4 = .ok (.invokestatic 41, 3) := by decide +kernel
theorem dX3_star_7 : decode cX3_star 7 = .ok (.ifCond .eq 13, 3) := by decide +kernel
theorem dX3_star_10 : decode cX3_star 10 = .ok (.new 45, 3) := by decide +kernel
theorem dX3_star_13 : decode cX3_star 13 = .ok (.dup, 1) := by decide +kernel
theorem dX3_star_14 : decode cX3_star 14 = .ok (.ldc 64, 2) := by decide +kernel
theorem dX3_star_16 : decode cX3_star 16 = .ok (.invokespecial 49, 3) := by decide +kernel
theorem dX3_star_19 : decode cX3_star 19 = .ok (.athrow, 1) := by decide +kernel
theorem dX3_star_20 : decode cX3_star 20 = .ok (.aload_n 0, 1) := by decide +kernel
theorem dX3_star_21 : decode cX3_star 21 = .ok (.getfield 16, 3) := by decide +kernel
theorem dX3_star_24 : decode cX3_star 24 = .ok (.getfield 52, 3) := by decide +kernel
theorem dX3_star_27 : decode cX3_star 27 = .ok (.ifCond .eq 12, 3) := by decide +kernel
theorem dX3_star_30 : decode cX3_star 30 = .ok (.aload_n 0, 1) := by decide +kernel
theorem dX3_star_31 : decode cX3_star 31 = .ok (.getfield 66, 3) := by decide +kernel
theorem dX3_star_34 : decode cX3_star 34 = .ok (.bipush 6, 2) := by decide +kernel
theorem dX3_star_36 : decode cX3_star 36 = .ok (.if_icmp .lt 13, 3) := by decide +kernel
theorem dX3_star_39 : decode cX3_star 39 = .ok (.new 55, 3) := by decide +kernel
theorem dX3_star_42 : decode cX3_star 42 = .ok (.dup, 1) := by decide +kernel
theorem dX3_star_43 : decode cX3_star 43 = .ok (.ldc 69, 2) := by decide +kernel
theorem dX3_star_45 : decode cX3_star 45 = .ok (.invokespecial 59, 3) := by decide +kernel
theorem dX3_star_48 : decode cX3_star 48 = .ok (.athrow, 1) := by decide +kernel
theorem dX3_star_49 : decode cX3_star 49 = .ok (.aload_n 0, 1) := by decide +kernel
theorem dX3_star_50 : decode cX3_star 50 = .ok (.getfield 16, 3) := by decide +kernel
theorem dX3_star_53 : decode cX3_star 53 = .ok (.iload_n 1, 1) := by decide +kernel
theorem dX3_star_54 : decode cX3_star 54 = .ok (.invokevirtual 71, 3) := by decide +kernel
theorem dX3_star_57 : decode cX3_star 57 = .ok (.aload_n 0, 1) := by decide +kernel
theorem dX3_star_58 : decode cX3_star 58 = .ok (.getfield 11, 3) := by decide +kernel
theorem dX3_star_61 : decode cX3_star 61 = .ok (.aload_n 0, 1) := by decide +kernel
theorem dX3_star_62 : decode cX3_star 62 = .ok (.getfield 66, 3) := by decide +kernel
theorem dX3_star_65 : decode cX3_star 65 = .ok (.aload_n 0, 1) := by decide +kernel
theorem dX3_star_66 : decode cX3_star 66 = .ok (.getfield 16, 3) := by decide +kernel
theorem dX3_star_69 : decode cX3_star 69 = .ok (.aastore, 1) := by decide +kernel
theorem dX3_star_70 : decode cX3_star 70 = .ok (.aload_n 0, 1) := by decide +kernel
theorem dX3_star_71 : decode cX3_star 71 = .ok (.new 9, 3) := by decide +kernel
theorem dX3_star_74 : decode cX3_star 74 = .ok (.dup, 1) := by decide +kernel
theorem dX3_star_75 : decode cX3_star 75 = .ok (.invokespecial 15, 3) := by decide +kernel
theorem dX3_star_78 : decode cX3_star 78 = .ok (.putfield 16, 3) := by decide +kernel
theorem dX3_star_81 : decode cX3_star 81 = .ok (.aload_n 0, 1) := by decide +kernel
theorem dX3_star_82 : decode cX3_star 82 = .ok (.dup, 1) := by decide +kernel
theorem dX3_star_83 : decode cX3_star 83 = .ok (.getfield 66, 3) := by decide +kernel
theorem dX3_star_86 : decode cX3_star 86 = .ok (.iconst 1, 1) := by decide +kernel
theorem dX3_star_87 : decode cX3_star 87 = .ok (.iadd, 1) := by decide +kernel
theorem dX3_star_88 : decode cX3_star 88 = .ok (.putfield 66, 3) := by decide +kernel
theorem dX3_star_91 : decode cX3_star 91 = .ok (.aload_n 0, 1) := by decide +kernel
theorem dX3_star_92 : decode cX3_star 92 = .ok (.getfield 66, 3) := by decide +kernel
theorem dX3_star_95 : decode cX3_star 95 = .ok (.iconst 1, 1) := by decide +kernel
theorem dX3_star_96 : decode cX3_star 96 = .ok (.isub, 1) := by decide +kernel
theorem dX3_star_97 : decode cX3_star 97 = .ok (.ireturn, 1) := by decide +kernel
theorem dX3_frame_0 : decode cX3_frame 0 = .ok (.aload_n 0, 1) := by decide +kernel
theorem dX3_frame_1 : decode cX3_frame 1 = .ok (.iload_n 1, 1) := by decide +kernel
theorem dX3_frame_2 : decode cX3_frame 2 = .ok (.invokevirtual 75, 3) := by decide +kernel
theorem dX3_frame_5 : decode cX3_frame 5 = .ok (.astore 5, 2) := by decide +kernel
theorem dX3_frame_7 : decode cX3_frame 7 = .ok (.iload_n 2, 1) := by decide +kernel
theorem dX3_frame_8 : decode cX3_frame 8 = .ok (.invokestatic 79, 3) := by decide +kernel
theorem dX3_frame_11 : decode cX3_frame 11 = .ok (.iload_n 3, 1) := by decide +kernel
theorem dX3_frame_12 : decode cX3_frame 12 = .ok (.invokestatic 82, 3) := by decide +kernel
theorem dX3_frame_15 : decode cX3_frame 15 = .ok (.iload 4, 2) := by decide +kernel
theorem dX3_frame_17 : decode cX3_frame 17 = .ok (.iconst 0, 1) := by decide +kernel
theorem dX3_frame_18 : decode cX3_frame 18 = .ok (.sipush 9999, 3) := by decide +kernel
theorem dX3_frame_21 : decode cX3_frame 21 = .ok (.invokestatic 41, 3) := by decide +kernel
theorem dX3_frame_24 : decode cX3_frame 24 = .ok (.ifCond .eq 13, 3) := by decide +kernel
theorem dX3_frame_27 : decode cX3_frame 27 = .ok (.new 45, 3) := by decide +kernel
theorem dX3_frame_30 : decode cX3_frame 30 = .ok (.dup, 1) := by decide +kernel
theorem dX3_frame_31 : decode cX3_frame 31 = .ok (.ldc 85, 2) := by decide +kernel
theorem dX3_frame_33 : decode cX3_frame 33 = .ok (.invokespecial 49, 3) := by decide +kernel
theorem dX3_frame_36 : decode cX3_frame 36 = .ok (.athrow, 1) := by decide +kernel
theorem dX3_frame_37 : decode cX3_frame 37 = .ok (.aload 5, 2) := by decide +kernel
theorem dX3_frame_39 : decode cX3_frame 39 = .ok (.getfield 87, 3) := by decide +kernel
theorem dX3_frame_42 : decode cX3_frame 42 = .ok (.iload_n 3, 1) := by decide +kernel
theorem dX3_frame_43 : decode cX3_frame 43 = .ok (.iaload, 1) := by decide +kernel
theorem dX3_frame_44 : decode cX3_frame 44 = .ok (.istore 6, 2) := by decide +kernel
theorem dX3_frame_46 : decode cX3_frame 46 = .ok (.aload 5, 2) := by decide +kernel
theorem dX3_frame_48 : decode cX3_frame 48 = .ok (.getfield 87, 3) := by decide +kernel
theorem dX3_frame_51 : decode cX3_frame 51 = .ok (.iload_n 3, 1) := by decide +kernel
theorem dX3_frame_52 : decode cX3_frame 52 = .ok (.iload 4, 2) := by decide +kernel
theorem dX3_frame_54 : decode cX3_frame 54 = .ok (.iastore, 1) := by decide +kernel
theorem dX3_frame_55 : decode cX3_frame 55 = .ok (.aload 5, 2) := by decide +kernel
theorem dX3_frame_57 : decode cX3_frame 57 = .ok (.getfield 91, 3) := by decide +kernel
theorem dX3_frame_60 : decode cX3_frame 60 = .ok (.iload_n 3, 1) := by decide +kernel
theorem dX3_frame_61 : decode cX3_frame 61 = .ok (.iload_n 2, 1) := by decide +kernel
theorem dX3_frame_62 : decode cX3_frame 62 = .ok (.iastore, 1) := by decide +kernel
theorem dX3_frame_63 : decode cX3_frame 63 = .ok (.iload 6, 2) := by decide +kernel
theorem dX3_frame_65 : decode cX3_frame 65 = .ok (.ireturn, 1) := by decide +kernel
theorem dX3_drop_0 : decode cX3_drop 0 = .ok (.aload_n 0, 1) := by decide +kernel
theorem dX3_drop_1 : decode cX3_drop 1 = .ok (.iload_n 1, 1) := by decide +kernel
theorem dX3_drop_2 : decode cX3_drop 2 = .ok (.invokevirtual 75, 3) := by decide +kernel
theorem dX3_drop_5 : decode cX3_drop 5 = .ok (.astore_n 3, 1) := by decide +kernel
theorem dX3_drop_6 : decode cX3_drop 6 = .ok (.iload_n 2, 1) := by decide +kernel
theorem dX3_drop_7 : decode cX3_drop 7 = .ok (.invokestatic 82, 3) := by decide +kernel
theorem dX3_drop_10 : decode cX3_drop 10 = .ok (.aload_n 3, 1) := by decide +kernel
theorem dX3_drop_11 : decode cX3_drop 11 = .ok (.getfield 87, 3) := by decide +kernel
theorem dX3_drop_14 : decode cX3_drop 14 = .ok (.iload_n 2, 1) := by decide +kernel
theorem dX3_drop_15 : decode cX3_drop 15 = .ok (.iaload, 1) := by decide +kernel
theorem dX3_drop_16 : decode cX3_drop 16 = .ok (.istore 4, 2) := by decide +kernel
theorem dX3_drop_18 : decode cX3_drop 18 = .ok (.iload 4, 2) := by decide +kernel
theorem dX3_drop_20 : decode cX3_drop 20 = .ok (.iconst (-1), 1) := by decide +kernel
theorem dX3_drop_21 : decode cX3_drop 21 = .ok (.if_icmp .ne 13, 3) := by decide +kernel
theorem dX3_drop_24 : decode cX3_drop 24 = .ok (.new 55, 3) := by decide +kernel
theorem dX3_drop_27 : decode cX3_drop 27 = .ok (.dup, 1) := by decide +kernel
theorem dX3_drop_28 : decode cX3_drop 28 = .ok (.ldc 94, 2) := by decide +kernel
theorem dX3_drop_30 : decode cX3_drop 30 = .ok (.invokespecial 59, 3) := by decide +kernel
theorem dX3_drop_33 : decode cX3_drop 33 = .ok (.athrow, 1) := by decide +kernel
theorem dX3_drop_34 : decode cX3_drop 34 = .ok (.aload_n 3, 1) := by decide +kernel
theorem dX3_drop_35 : decode cX3_drop 35 = .ok (.getfield 87, 3) := by decide +kernel
theorem dX3_drop_38 : decode cX3_drop 38 = .ok (.iload_n 2, 1) := by decide +kernel
theorem dX3_drop_39 : decode cX3_drop 39 = .ok (.iconst (-1), 1) := by decide +kernel
theorem dX3_drop_40 : decode cX3_drop 40 = .ok (.iastore, 1) := by decide +kernel
theorem dX3_drop_41 : decode cX3_drop 41 = .ok (.iload 4, 2) := by decide +kernel
theorem dX3_drop_43 : decode cX3_drop 43 = .ok (.ireturn, 1) := by decide +kernel
theorem dX3_mask_0 : decode cX3_mask 0 = .ok (.iload_n 1, 1) := by decide +kernel
theorem dX3_mask_1 : decode cX3_mask 1 = .ok (.invokestatic 79, 3) := by decide +kernel
theorem dX3_mask_4 : decode cX3_mask 4 = .ok (.aload_n 0, 1) := by decide +kernel
theorem dX3_mask_5 : decode cX3_mask 5 = .ok (.getfield 20, 3) := by decide +kernel
theorem dX3_mask_8 : decode cX3_mask 8 = .ok (.iload_n 1, 1) := by decide +kernel
theorem dX3_mask_9 : decode cX3_mask 9 = .ok (.baload, 1) := by decide +kernel
theorem dX3_mask_10 : decode cX3_mask 10 = .ok (.istore_n 3, 1) := by decide +kernel
theorem dX3_mask_11 : decode cX3_mask 11 = .ok (.aload_n 0, 1) := by decide +kernel
theorem dX3_mask_12 : decode cX3_mask 12 = .ok (.getfield 20, 3) := by decide +kernel
theorem dX3_mask_15 : decode cX3_mask 15 = .ok (.iload_n 1, 1) := by decide +kernel
theorem dX3_mask_16 : decode cX3_mask 16 = .ok (.iload_n 2, 1) := by decide +kernel
theorem dX3_mask_17 : decode cX3_mask 17 = .ok (.bastore, 1) := by decide +kernel
theorem dX3_mask_18 : decode cX3_mask 18 = .ok (.iload_n 3, 1) := by decide +kernel
theorem dX3_mask_19 : decode cX3_mask 19 = .ok (.ireturn, 1) := by decide +kernel
theorem dX3_threshold_0 : decode cX3_threshold 0 = .ok (.iload_n 1, 1) := by decide +kernel
theorem dX3_threshold_1 : decode cX3_threshold 1 = .ok (.iconst 1, 1) := by decide +kernel
theorem dX3_threshold_2 : decode cX3_threshold 2 = .ok (.ldc 96, 2) := by decide +kernel
theorem dX3_threshold_4 : decode cX3_threshold 4 = .ok (.invokestatic 41, 3) := by decide +kernel
theorem dX3_threshold_7 : decode cX3_threshold 7 = .ok (.ifCond .eq 13, 3) := by decide +kernel
theorem dX3_threshold_10 : decode cX3_threshold 10 = .ok (.new 45, 3) := by decide +kernel
theorem dX3_threshold_13 : decode cX3_threshold 13 = .ok (.dup, 1) := by decide +kernel
theorem dX3_threshold_14 : decode cX3_threshold 14 = .ok (.ldc 97, 2) := by decide +kernel
theorem dX3_threshold_16 : decode cX3_threshold 16 = .ok (.invokespecial 49, 3) := by decide +kernel
theorem dX3_threshold_19 : decode cX3_threshold 19 = .ok (.athrow, 1) := by decide +kernel
theorem dX3_threshold_20 : decode cX3_threshold 20 = .ok (.aload_n 0, 1) := by decide +kernel
theorem dX3_threshold_21 : decode cX3_threshold 21 = .ok (.getfield 24, 3) := by decide +kernel
theorem dX3_threshold_24 : decode cX3_threshold 24 = .ok (.istore_n 2, 1) := by decide +kernel
theorem dX3_threshold_25 : decode cX3_threshold 25 = .ok (.aload_n 0, 1) := by decide +kernel
theorem dX3_threshold_26 : decode cX3_threshold 26 = .ok (.iload_n 1, 1) := by decide +kernel
theorem dX3_threshold_27 : decode cX3_threshold 27 = .ok (.putfield 24, 3) := by decide +kernel
theorem dX3_threshold_30 : decode cX3_threshold 30 = .ok (.iload_n 2, 1) := by decide +kernel
theorem dX3_threshold_31 : decode cX3_threshold 31 = .ok (.ireturn, 1) := by decide +kernel
theorem dX3_takeOut_0 : decode cX3_takeOut 0 = .ok (.aload_n 0, 1) := by decide +kernel
theorem dX3_takeOut_1 : decode cX3_takeOut 1 = .ok (.iload_n 1, 1) := by decide +kernel
theorem dX3_takeOut_2 : decode cX3_takeOut 2 = .ok (.invokevirtual 75, 3) := by decide +kernel
theorem dX3_takeOut_5 : decode cX3_takeOut 5 = .ok (.astore_n 3, 1) := by decide +kernel
theorem dX3_takeOut_6 : decode cX3_takeOut 6 = .ok (.iload_n 2, 1) := by decide +kernel
theorem dX3_takeOut_7 : decode cX3_takeOut 7 = .ok (.iconst 1, 1) := by decide +kernel
theorem dX3_takeOut_8 : decode cX3_takeOut 8 = .ok (.bipush 31, 2) := by decide +kernel
theorem dX3_takeOut_10 : decode cX3_takeOut 10 = .ok (.invokestatic 41, 3) := by decide +kernel
theorem dX3_takeOut_13 : decode cX3_takeOut 13 = .ok (.ifCond .eq 13, 3) := by decide +kernel
theorem dX3_takeOut_16 : decode cX3_takeOut 16 = .ok (.new 45, 3) := by decide +kernel
theorem dX3_takeOut_19 : decode cX3_takeOut 19 = .ok (.dup, 1) := by decide +kernel
theorem dX3_takeOut_20 : decode cX3_takeOut 20 = .ok (.ldc 99, 2) := by decide +kernel
theorem dX3_takeOut_22 : decode cX3_takeOut 22 = .ok (.invokespecial 49, 3) := by decide +kernel
theorem dX3_takeOut_25 : decode cX3_takeOut 25 = .ok (.athrow, 1) := by decide +kernel
theorem dX3_takeOut_26 : decode cX3_takeOut 26 = .ok (.aload_n 3, 1) := by decide +kernel
theorem dX3_takeOut_27 : decode cX3_takeOut 27 = .ok (.getfield 101, 3) := by decide +kernel
theorem dX3_takeOut_30 : decode cX3_takeOut 30 = .ok (.bipush 6, 2) := by decide +kernel
theorem dX3_takeOut_32 : decode cX3_takeOut 32 = .ok (.if_icmp .lt 13, 3) := by decide +kernel
theorem dX3_takeOut_35 : decode cX3_takeOut 35 = .ok (.new 55, 3) := by decide +kernel
theorem dX3_takeOut_38 : decode cX3_takeOut 38 = .ok (.dup, 1) := by decide +kernel
theorem dX3_takeOut_39 : decode cX3_takeOut 39 = .ok (.ldc 104, 2) := by decide +kernel
theorem dX3_takeOut_41 : decode cX3_takeOut 41 = .ok (.invokespecial 59, 3) := by decide +kernel
theorem dX3_takeOut_44 : decode cX3_takeOut 44 = .ok (.athrow, 1) := by decide +kernel
theorem dX3_takeOut_45 : decode cX3_takeOut 45 = .ok (.aload_n 3, 1) := by decide +kernel
theorem dX3_takeOut_46 : decode cX3_takeOut 46 = .ok (.getfield 106, 3) := by decide +kernel
theorem dX3_takeOut_49 : decode cX3_takeOut 49 = .ok (.aload_n 3, 1) := by decide +kernel
theorem dX3_takeOut_50 : decode cX3_takeOut 50 = .ok (.getfield 101, 3) := by decide +kernel
theorem dX3_takeOut_53 : decode cX3_takeOut 53 = .ok (.iload_n 2, 1) := by decide +kernel
theorem dX3_takeOut_54 : decode cX3_takeOut 54 = .ok (.iastore, 1) := by decide +kernel
theorem dX3_takeOut_55 : decode cX3_takeOut 55 = .ok (.aload_n 3, 1) := by decide +kernel
theorem dX3_takeOut_56 : decode cX3_takeOut 56 = .ok (.dup, 1) := by decide +kernel
theorem dX3_takeOut_57 : decode cX3_takeOut 57 = .ok (.getfield 101, 3) := by decide +kernel
theorem dX3_takeOut_60 : decode cX3_takeOut 60 = .ok (.iconst 1, 1) := by decide +kernel
theorem dX3_takeOut_61 : decode cX3_takeOut 61 = .ok (.iadd, 1) := by decide +kernel
theorem dX3_takeOut_62 : decode cX3_takeOut 62 = .ok (.putfield 101, 3) := by decide +kernel
theorem dX3_takeOut_65 : decode cX3_takeOut 65 = .ok (.aload_n 3, 1) := by decide +kernel
theorem dX3_takeOut_66 : decode cX3_takeOut 66 = .ok (.getfield 101, 3) := by decide +kernel
theorem dX3_takeOut_69 : decode cX3_takeOut 69 = .ok (.ireturn, 1) := by decide +kernel
theorem dX3_putBack_0 : decode cX3_putBack 0 = .ok (.aload_n 0, 1) := by decide +kernel
theorem dX3_putBack_1 : decode cX3_putBack 1 = .ok (.iload_n 1, 1) := by decide +kernel
theorem dX3_putBack_2 : decode cX3_putBack 2 = .ok (.invokevirtual 75, 3) := by decide +kernel
theorem dX3_putBack_5 : decode cX3_putBack 5 = .ok (.astore_n 2, 1) := by decide +kernel
theorem dX3_putBack_6 : decode cX3_putBack 6 = .ok (.aload_n 2, 1) := by decide +kernel
theorem dX3_putBack_7 : decode cX3_putBack 7 = .ok (.getfield 101, 3) := by decide +kernel
theorem dX3_putBack_10 : decode cX3_putBack 10 = .ok (.istore_n 3, 1) := by decide +kernel
theorem dX3_putBack_11 : decode cX3_putBack 11 = .ok (.aload_n 2, 1) := by decide +kernel
theorem dX3_putBack_12 : decode cX3_putBack 12 = .ok (.iconst 0, 1) := by decide +kernel
theorem dX3_putBack_13 : decode cX3_putBack 13 = .ok (.putfield 101, 3) := by decide +kernel
theorem dX3_putBack_16 : decode cX3_putBack 16 = .ok (.iload_n 3, 1) := by decide +kernel
theorem dX3_putBack_17 : decode cX3_putBack 17 = .ok (.ireturn, 1) := by decide +kernel
theorem dX3_claimTone_0 : decode cX3_claimTone 0 = .ok (.aload_n 0, 1) := by decide +kernel
theorem dX3_claimTone_1 : decode cX3_claimTone 1 = .ok (.iload_n 1, 1) := by decide +kernel
theorem dX3_claimTone_2 : decode cX3_claimTone 2 = .ok (.invokevirtual 75, 3) := by decide +kernel
theorem dX3_claimTone_5 : decode cX3_claimTone 5 = .ok (.astore 4, 2) := by decide +kernel
theorem dX3_claimTone_7 : decode cX3_claimTone 7 = .ok (.iload_n 2, 1) := by decide +kernel
theorem dX3_claimTone_8 : decode cX3_claimTone 8 = .ok (.invokestatic 109, 3) := by decide +kernel
theorem dX3_claimTone_11 : decode cX3_claimTone 11 = .ok (.aload_n 0, 1) := by decide +kernel
theorem dX3_claimTone_12 : decode cX3_claimTone 12 = .ok (.invokevirtual 112, 3) := by decide +kernel
theorem dX3_claimTone_15 : decode cX3_claimTone 15 = .ok (.aload_n 0, 1) := by decide +kernel
theorem dX3_claimTone_16 : decode cX3_claimTone 16 = .ok (.aload 4, 2) := by decide +kernel
theorem dX3_claimTone_18 : decode cX3_claimTone 18 = .ok (.iload_n 2, 1) := by decide +kernel
theorem dX3_claimTone_19 : decode cX3_claimTone 19 = .ok (.iload_n 3, 1) := by decide +kernel
theorem dX3_claimTone_20 : decode cX3_claimTone 20 = .ok (.invokevirtual 115, 3) := by decide +kernel
theorem dX3_claimTone_23 : decode cX3_claimTone 23 = .ok (.ifCond .ne 13, 3) := by decide +kernel
theorem dX3_claimTone_26 : decode cX3_claimTone 26 = .ok (.new 55, 3) := by decide +kernel
theorem dX3_claimTone_29 : decode cX3_claimTone 29 = .ok (.dup, 1) := by decide +kernel
theorem dX3_claimTone_30 : decode cX3_claimTone 30 = .ok (.ldc 119, 2) := by decide +kernel
theorem dX3_claimTone_32 : decode cX3_claimTone 32 = .ok (.invokespecial 59, 3) := by decide +kernel
theorem dX3_claimTone_35 : decode cX3_claimTone 35 = .ok (.athrow, 1) := by decide +kernel
theorem dX3_claimTone_36 : decode cX3_claimTone 36 = .ok (.new 28, 3) := by decide +kernel
theorem dX3_claimTone_39 : decode cX3_claimTone 39 = .ok (.dup, 1) := by decide +kernel
theorem dX3_claimTone_40 : decode cX3_claimTone 40 = .ok (.iconst 0, 1) := by decide +kernel
theorem dX3_claimTone_41 : decode cX3_claimTone 41 = .ok (.iload_n 1, 1) := by decide +kernel
theorem dX3_claimTone_42 : decode cX3_claimTone 42 = .ok (.iload_n 3, 1) := by decide +kernel
theorem dX3_claimTone_43 : decode cX3_claimTone 43 = .ok (.invokespecial 121, 3) := by decide +kernel
theorem dX3_claimTone_46 : decode cX3_claimTone 46 = .ok (.astore 5, 2) := by decide +kernel
theorem dX3_claimTone_48 : decode cX3_claimTone 48 = .ok (.aload 5, 2) := by decide +kernel
theorem dX3_claimTone_50 : decode cX3_claimTone 50 = .ok (.iload_n 2, 1) := by decide +kernel
theorem dX3_claimTone_51 : decode cX3_claimTone 51 = .ok (.putfield 123, 3) := by decide +kernel
theorem dX3_claimTone_54 : decode cX3_claimTone 54 = .ok (.aload 5, 2) := by decide +kernel
theorem dX3_claimTone_56 : decode cX3_claimTone 56 = .ok (.aload 4, 2) := by decide +kernel
theorem dX3_claimTone_58 : decode cX3_claimTone 58 = .ok (.getfield 101, 3) := by decide +kernel
theorem dX3_claimTone_61 : decode cX3_claimTone 61 = .ok (.putfield 126, 3) := by decide +kernel
theorem dX3_claimTone_64 : decode cX3_claimTone 64 = .ok (.aload 5, 2) := by decide +kernel
theorem dX3_claimTone_66 : decode cX3_claimTone 66 = .ok (.aload_n 0, 1) := by decide +kernel
theorem dX3_claimTone_67 : decode cX3_claimTone 67 = .ok (.getfield 37, 3) := by decide +kernel
theorem dX3_claimTone_70 : decode cX3_claimTone 70 = .ok (.iload_n 3, 1) := by decide +kernel
theorem dX3_claimTone_71 : decode cX3_claimTone 71 = .ok (.invokevirtual 127, 3) := by decide +kernel
theorem dX3_claimTone_74 : decode cX3_claimTone 74 = .ok (.putfield 131, 3) := by decide +kernel
theorem dX3_claimTone_77 : decode cX3_claimTone 77 = .ok (.aload_n 0, 1) := by decide +kernel
theorem dX3_claimTone_78 : decode cX3_claimTone 78 = .ok (.aload 5, 2) := by decide +kernel
theorem dX3_claimTone_80 : decode cX3_claimTone 80 = .ok (.invokevirtual 135, 3) := by decide +kernel
theorem dX3_claimTone_83 : decode cX3_claimTone 83 = .ok (.ireturn, 1) := by decide +kernel
theorem dX3_claimAge_0 : decode cX3_claimAge 0 = .ok (.aload_n 0, 1) := by decide +kernel
theorem dX3_claimAge_1 : decode cX3_claimAge 1 = .ok (.iload_n 1, 1) := by decide +kernel
theorem dX3_claimAge_2 : decode cX3_claimAge 2 = .ok (.invokevirtual 139, 3) := by decide +kernel
theorem dX3_claimAge_5 : decode cX3_claimAge 5 = .ok (.astore_n 3, 1) := by decide +kernel
theorem dX3_claimAge_6 : decode cX3_claimAge 6 = .ok (.aload_n 0, 1) := by decide +kernel
theorem dX3_claimAge_7 : decode cX3_claimAge 7 = .ok (.iload_n 2, 1) := by decide +kernel
theorem dX3_claimAge_8 : decode cX3_claimAge 8 = .ok (.invokevirtual 139, 3) := by decide +kernel
theorem dX3_claimAge_11 : decode cX3_claimAge 11 = .ok (.astore 4, 2) := by decide +kernel
theorem dX3_claimAge_13 : decode cX3_claimAge 13 = .ok (.aload_n 3, 1) := by decide +kernel
theorem dX3_claimAge_14 : decode cX3_claimAge 14 = .ok (.getfield 143, 3) := by decide +kernel
theorem dX3_claimAge_17 : decode cX3_claimAge 17 = .ok (.ifCond .ne 11, 3) := by decide +kernel
theorem dX3_claimAge_20 : decode cX3_claimAge 20 = .ok (.aload 4, 2) := by decide +kernel
theorem dX3_claimAge_22 : decode cX3_claimAge 22 = .ok (.getfield 143, 3) := by decide +kernel
theorem dX3_claimAge_25 : decode cX3_claimAge 25 = .ok (.ifCond .eq 13, 3) := by decide +kernel
theorem dX3_claimAge_28 : decode cX3_claimAge 28 = .ok (.new 45, 3) := by decide +kernel
theorem dX3_claimAge_31 : decode cX3_claimAge 31 = .ok (.dup, 1) := by decide +kernel
theorem dX3_claimAge_32 : decode cX3_claimAge 32 = .ok (.ldc 146, 2) := by decide +kernel
theorem dX3_claimAge_34 : decode cX3_claimAge 34 = .ok (.invokespecial 49, 3) := by decide +kernel
theorem dX3_claimAge_37 : decode cX3_claimAge 37 = .ok (.athrow, 1) := by decide +kernel
theorem dX3_claimAge_38 : decode cX3_claimAge 38 = .ok (.aload_n 3, 1) := by decide +kernel
theorem dX3_claimAge_39 : decode cX3_claimAge 39 = .ok (.getfield 148, 3) := by decide +kernel
theorem dX3_claimAge_42 : decode cX3_claimAge 42 = .ok (.aload 4, 2) := by decide +kernel
theorem dX3_claimAge_44 : decode cX3_claimAge 44 = .ok (.getfield 148, 3) := by decide +kernel
theorem dX3_claimAge_47 : decode cX3_claimAge 47 = .ok (.if_icmp .ne 15, 3) := by decide +kernel
theorem dX3_claimAge_50 : decode cX3_claimAge 50 = .ok (.aload_n 3, 1) := by decide +kernel
theorem dX3_claimAge_51 : decode cX3_claimAge 51 = .ok (.getfield 151, 3) := by decide +kernel
theorem dX3_claimAge_54 : decode cX3_claimAge 54 = .ok (.aload 4, 2) := by decide +kernel
theorem dX3_claimAge_56 : decode cX3_claimAge 56 = .ok (.getfield 151, 3) := by decide +kernel
theorem dX3_claimAge_59 : decode cX3_claimAge 59 = .ok (.if_icmp .ne 13, 3) := by decide +kernel
theorem dX3_claimAge_62 : decode cX3_claimAge 62 = .ok (.new 45, 3) := by decide +kernel
theorem dX3_claimAge_65 : decode cX3_claimAge 65 = .ok (.dup, 1) := by decide +kernel
theorem dX3_claimAge_66 : decode cX3_claimAge 66 = .ok (.ldc 154, 2) := by decide +kernel
theorem dX3_claimAge_68 : decode cX3_claimAge 68 = .ok (.invokespecial 49, 3) := by decide +kernel
theorem dX3_claimAge_71 : decode cX3_claimAge 71 = .ok (.athrow, 1) := by decide +kernel
theorem dX3_claimAge_72 : decode cX3_claimAge 72 = .ok (.aload_n 0, 1) := by decide +kernel
theorem dX3_claimAge_73 : decode cX3_claimAge 73 = .ok (.invokevirtual 112, 3) := by decide +kernel
theorem dX3_claimAge_76 : decode cX3_claimAge 76 = .ok (.aload_n 3, 1) := by decide +kernel
theorem dX3_claimAge_77 : decode cX3_claimAge 77 = .ok (.getfield 156, 3) := by decide +kernel
theorem dX3_claimAge_80 : decode cX3_claimAge 80 = .ok (.ifCond .eq 11, 3) := by decide +kernel
theorem dX3_claimAge_83 : decode cX3_claimAge 83 = .ok (.aload 4, 2) := by decide +kernel
theorem dX3_claimAge_85 : decode cX3_claimAge 85 = .ok (.getfield 156, 3) := by decide +kernel
theorem dX3_claimAge_88 : decode cX3_claimAge 88 = .ok (.ifCond .ne 13, 3) := by decide +kernel
theorem dX3_claimAge_91 : decode cX3_claimAge 91 = .ok (.new 55, 3) := by decide +kernel
theorem dX3_claimAge_94 : decode cX3_claimAge 94 = .ok (.dup, 1) := by decide +kernel
theorem dX3_claimAge_95 : decode cX3_claimAge 95 = .ok (.ldc 160, 2) := by decide +kernel
theorem dX3_claimAge_97 : decode cX3_claimAge 97 = .ok (.invokespecial 59, 3) := by decide +kernel
theorem dX3_claimAge_100 : decode cX3_claimAge 100 = .ok (.athrow, 1) := by decide +kernel
theorem dX3_claimAge_101 : decode cX3_claimAge 101 = .ok (.new 28, 3) := by decide +kernel
theorem dX3_claimAge_104 : decode cX3_claimAge 104 = .ok (.dup, 1) := by decide +kernel
theorem dX3_claimAge_105 : decode cX3_claimAge 105 = .ok (.iconst 1, 1) := by decide +kernel
theorem dX3_claimAge_106 : decode cX3_claimAge 106 = .ok (.aload_n 3, 1) := by decide +kernel
theorem dX3_claimAge_107 : decode cX3_claimAge 107 = .ok (.getfield 148, 3) := by decide +kernel
theorem dX3_claimAge_110 : decode cX3_claimAge 110 = .ok (.aload_n 3, 1) := by decide +kernel
theorem dX3_claimAge_111 : decode cX3_claimAge 111 = .ok (.getfield 151, 3) := by decide +kernel
theorem dX3_claimAge_114 : decode cX3_claimAge 114 = .ok (.invokespecial 121, 3) := by decide +kernel
theorem dX3_claimAge_117 : decode cX3_claimAge 117 = .ok (.astore 5, 2) := by decide +kernel
theorem dX3_claimAge_119 : decode cX3_claimAge 119 = .ok (.aload 5, 2) := by decide +kernel
theorem dX3_claimAge_121 : decode cX3_claimAge 121 = .ok (.aload_n 0, 1) := by decide +kernel
theorem dX3_claimAge_122 : decode cX3_claimAge 122 = .ok (.ldc 162, 2) := by decide +kernel
theorem dX3_claimAge_124 : decode cX3_claimAge 124 = .ok (.aload_n 3, 1) := by decide +kernel
theorem dX3_claimAge_125 : decode cX3_claimAge 125 = .ok (.getfield 151, 3) := by decide +kernel
theorem dX3_claimAge_128 : decode cX3_claimAge 128 = .ok (.aload 4, 2) := by decide +kernel
theorem dX3_claimAge_130 : decode cX3_claimAge 130 = .ok (.getfield 151, 3) := by decide +kernel
theorem dX3_claimAge_133 : decode cX3_claimAge 133 = .ok (.isub, 1) := by decide +kernel
theorem dX3_claimAge_134 : decode cX3_claimAge 134 = .ok (.invokestatic 163, 3) := by decide +kernel
theorem dX3_claimAge_137 : decode cX3_claimAge 137 = .ok (.imul, 1) := by decide +kernel
theorem dX3_claimAge_138 : decode cX3_claimAge 138 = .ok (.invokevirtual 169, 3) := by decide +kernel
theorem dX3_claimAge_141 : decode cX3_claimAge 141 = .ok (.putfield 172, 3) := by decide +kernel
theorem dX3_claimAge_144 : decode cX3_claimAge 144 = .ok (.aload 5, 2) := by decide +kernel
theorem dX3_claimAge_146 : decode cX3_claimAge 146 = .ok (.iload_n 1, 1) := by decide +kernel
theorem dX3_claimAge_147 : decode cX3_claimAge 147 = .ok (.invokestatic 175, 3) := by decide +kernel
theorem dX3_claimAge_150 : decode cX3_claimAge 150 = .ok (.iload_n 2, 1) := by decide +kernel
theorem dX3_claimAge_151 : decode cX3_claimAge 151 = .ok (.invokestatic 175, 3) := by decide +kernel
theorem dX3_claimAge_154 : decode cX3_claimAge 154 = .ok (.lor, 1) := by decide +kernel
theorem dX3_claimAge_155 : decode cX3_claimAge 155 = .ok (.putfield 178, 3) := by decide +kernel
theorem dX3_claimAge_158 : decode cX3_claimAge 158 = .ok (.aload_n 0, 1) := by decide +kernel
theorem dX3_claimAge_159 : decode cX3_claimAge 159 = .ok (.aload 5, 2) := by decide +kernel
theorem dX3_claimAge_161 : decode cX3_claimAge 161 = .ok (.invokevirtual 135, 3) := by decide +kernel
theorem dX3_claimAge_164 : decode cX3_claimAge 164 = .ok (.ireturn, 1) := by decide +kernel
theorem dX3_claimPlanet_0 : decode cX3_claimPlanet 0 = .ok (.aload_n 0, 1) := by decide +kernel
theorem dX3_claimPlanet_1 : decode cX3_claimPlanet 1 = .ok (.iload_n 1, 1) := by decide +kernel
theorem dX3_claimPlanet_2 : decode cX3_claimPlanet 2 = .ok (.invokevirtual 139, 3) := by decide +kernel
theorem dX3_claimPlanet_5 : decode cX3_claimPlanet 5 = .ok (.astore_n 2, 1) := by decide +kernel
theorem dX3_claimPlanet_6 : decode cX3_claimPlanet 6 = .ok (.aload_n 2, 1) := by decide +kernel
theorem dX3_claimPlanet_7 : decode cX3_claimPlanet 7 = .ok (.getfield 143, 3) := by decide +kernel
theorem dX3_claimPlanet_10 : decode cX3_claimPlanet 10 = .ok (.ifCond .eq 13, 3) := by decide +kernel
theorem dX3_claimPlanet_13 : decode cX3_claimPlanet 13 = .ok (.new 45, 3) := by decide +kernel
theorem dX3_claimPlanet_16 : decode cX3_claimPlanet 16 = .ok (.dup, 1) := by decide +kernel
theorem dX3_claimPlanet_17 : decode cX3_claimPlanet 17 = .ok (.ldc 181, 2) := by decide +kernel
theorem dX3_claimPlanet_19 : decode cX3_claimPlanet 19 = .ok (.invokespecial 49, 3) := by decide +kernel
theorem dX3_claimPlanet_22 : decode cX3_claimPlanet 22 = .ok (.athrow, 1) := by decide +kernel
theorem dX3_claimPlanet_23 : decode cX3_claimPlanet 23 = .ok (.aload_n 0, 1) := by decide +kernel
theorem dX3_claimPlanet_24 : decode cX3_claimPlanet 24 = .ok (.invokevirtual 112, 3) := by decide +kernel
theorem dX3_claimPlanet_27 : decode cX3_claimPlanet 27 = .ok (.aload_n 2, 1) := by decide +kernel
theorem dX3_claimPlanet_28 : decode cX3_claimPlanet 28 = .ok (.getfield 156, 3) := by decide +kernel
theorem dX3_claimPlanet_31 : decode cX3_claimPlanet 31 = .ok (.ifCond .ne 13, 3) := by decide +kernel
theorem dX3_claimPlanet_34 : decode cX3_claimPlanet 34 = .ok (.new 55, 3) := by decide +kernel
theorem dX3_claimPlanet_37 : decode cX3_claimPlanet 37 = .ok (.dup, 1) := by decide +kernel
theorem dX3_claimPlanet_38 : decode cX3_claimPlanet 38 = .ok (.ldc 183, 2) := by decide +kernel
theorem dX3_claimPlanet_40 : decode cX3_claimPlanet 40 = .ok (.invokespecial 59, 3) := by decide +kernel
theorem dX3_claimPlanet_43 : decode cX3_claimPlanet 43 = .ok (.athrow, 1) := by decide +kernel
theorem dX3_claimPlanet_44 : decode cX3_claimPlanet 44 = .ok (.new 28, 3) := by decide +kernel
theorem dX3_claimPlanet_47 : decode cX3_claimPlanet 47 = .ok (.dup, 1) := by decide +kernel
theorem dX3_claimPlanet_48 : decode cX3_claimPlanet 48 = .ok (.iconst 2, 1) := by decide +kernel
theorem dX3_claimPlanet_49 : decode cX3_claimPlanet 49 = .ok (.aload_n 2, 1) := by decide +kernel
theorem dX3_claimPlanet_50 : decode cX3_claimPlanet 50 = .ok (.getfield 148, 3) := by decide +kernel
theorem dX3_claimPlanet_53 : decode cX3_claimPlanet 53 = .ok (.aload_n 2, 1) := by decide +kernel
theorem dX3_claimPlanet_54 : decode cX3_claimPlanet 54 = .ok (.getfield 151, 3) := by decide +kernel
theorem dX3_claimPlanet_57 : decode cX3_claimPlanet 57 = .ok (.invokespecial 121, 3) := by decide +kernel
theorem dX3_claimPlanet_60 : decode cX3_claimPlanet 60 = .ok (.astore_n 3, 1) := by decide +kernel
theorem dX3_claimPlanet_61 : decode cX3_claimPlanet 61 = .ok (.aload_n 3, 1) := by decide +kernel
theorem dX3_claimPlanet_62 : decode cX3_claimPlanet 62 = .ok (.iload_n 1, 1) := by decide +kernel
theorem dX3_claimPlanet_63 : decode cX3_claimPlanet 63 = .ok (.invokestatic 175, 3) := by decide +kernel
theorem dX3_claimPlanet_66 : decode cX3_claimPlanet 66 = .ok (.putfield 178, 3) := by decide +kernel
theorem dX3_claimPlanet_69 : decode cX3_claimPlanet 69 = .ok (.aload_n 0, 1) := by decide +kernel
theorem dX3_claimPlanet_70 : decode cX3_claimPlanet 70 = .ok (.aload_n 3, 1) := by decide +kernel
theorem dX3_claimPlanet_71 : decode cX3_claimPlanet 71 = .ok (.invokevirtual 135, 3) := by decide +kernel
theorem dX3_claimPlanet_74 : decode cX3_claimPlanet 74 = .ok (.ireturn, 1) := by decide +kernel
theorem dX3_cite_0 : decode cX3_cite 0 = .ok (.aload_n 0, 1) := by decide +kernel
theorem dX3_cite_1 : decode cX3_cite 1 = .ok (.iload_n 1, 1) := by decide +kernel
theorem dX3_cite_2 : decode cX3_cite 2 = .ok (.invokevirtual 139, 3) := by decide +kernel
theorem dX3_cite_5 : decode cX3_cite 5 = .ok (.astore_n 3, 1) := by decide +kernel
theorem dX3_cite_6 : decode cX3_cite 6 = .ok (.aload_n 0, 1) := by decide +kernel
theorem dX3_cite_7 : decode cX3_cite 7 = .ok (.iload_n 2, 1) := by decide +kernel
theorem dX3_cite_8 : decode cX3_cite 8 = .ok (.invokevirtual 139, 3) := by decide +kernel
theorem dX3_cite_11 : decode cX3_cite 11 = .ok (.astore 4, 2) := by decide +kernel
theorem dX3_cite_13 : decode cX3_cite 13 = .ok (.iload_n 2, 1) := by decide +kernel
theorem dX3_cite_14 : decode cX3_cite 14 = .ok (.iload_n 1, 1) := by decide +kernel
theorem dX3_cite_15 : decode cX3_cite 15 = .ok (.if_icmp .lt 13, 3) := by decide +kernel
theorem dX3_cite_18 : decode cX3_cite 18 = .ok (.new 45, 3) := by decide +kernel
theorem dX3_cite_21 : decode cX3_cite 21 = .ok (.dup, 1) := by decide +kernel
theorem dX3_cite_22 : decode cX3_cite 22 = .ok (.ldc 185, 2) := by decide +kernel
theorem dX3_cite_24 : decode cX3_cite 24 = .ok (.invokespecial 49, 3) := by decide +kernel
theorem dX3_cite_27 : decode cX3_cite 27 = .ok (.athrow, 1) := by decide +kernel
theorem dX3_cite_28 : decode cX3_cite 28 = .ok (.aload_n 3, 1) := by decide +kernel
theorem dX3_cite_29 : decode cX3_cite 29 = .ok (.getfield 156, 3) := by decide +kernel
theorem dX3_cite_32 : decode cX3_cite 32 = .ok (.ifCond .eq 25, 3) := by decide +kernel
theorem dX3_cite_35 : decode cX3_cite 35 = .ok (.aload 4, 2) := by decide +kernel
theorem dX3_cite_37 : decode cX3_cite 37 = .ok (.getfield 156, 3) := by decide +kernel
theorem dX3_cite_40 : decode cX3_cite 40 = .ok (.ifCond .eq 17, 3) := by decide +kernel
theorem dX3_cite_43 : decode cX3_cite 43 = .ok (.aload_n 3, 1) := by decide +kernel
theorem dX3_cite_44 : decode cX3_cite 44 = .ok (.getfield 178, 3) := by decide +kernel
theorem dX3_cite_47 : decode cX3_cite 47 = .ok (.iload_n 2, 1) := by decide +kernel
theorem dX3_cite_48 : decode cX3_cite 48 = .ok (.invokestatic 175, 3) := by decide +kernel
theorem dX3_cite_51 : decode cX3_cite 51 = .ok (.land, 1) := by decide +kernel
theorem dX3_cite_52 : decode cX3_cite 52 = .ok (.lconst 0, 1) := by decide +kernel
theorem dX3_cite_53 : decode cX3_cite 53 = .ok (.lcmp, 1) := by decide +kernel
theorem dX3_cite_54 : decode cX3_cite 54 = .ok (.ifCond .eq 13, 3) := by decide +kernel
theorem dX3_cite_57 : decode cX3_cite 57 = .ok (.new 55, 3) := by decide +kernel
theorem dX3_cite_60 : decode cX3_cite 60 = .ok (.dup, 1) := by decide +kernel
theorem dX3_cite_61 : decode cX3_cite 61 = .ok (.ldc 187, 2) := by decide +kernel
theorem dX3_cite_63 : decode cX3_cite 63 = .ok (.invokespecial 59, 3) := by decide +kernel
theorem dX3_cite_66 : decode cX3_cite 66 = .ok (.athrow, 1) := by decide +kernel
theorem dX3_cite_67 : decode cX3_cite 67 = .ok (.aload_n 3, 1) := by decide +kernel
theorem dX3_cite_68 : decode cX3_cite 68 = .ok (.dup, 1) := by decide +kernel
theorem dX3_cite_69 : decode cX3_cite 69 = .ok (.getfield 178, 3) := by decide +kernel
theorem dX3_cite_72 : decode cX3_cite 72 = .ok (.iload_n 2, 1) := by decide +kernel
theorem dX3_cite_73 : decode cX3_cite 73 = .ok (.invokestatic 175, 3) := by decide +kernel
theorem dX3_cite_76 : decode cX3_cite 76 = .ok (.lor, 1) := by decide +kernel
theorem dX3_cite_77 : decode cX3_cite 77 = .ok (.putfield 178, 3) := by decide +kernel
theorem dX3_cite_80 : decode cX3_cite 80 = .ok (.aload_n 3, 1) := by decide +kernel
theorem dX3_cite_81 : decode cX3_cite 81 = .ok (.getfield 178, 3) := by decide +kernel
theorem dX3_cite_84 : decode cX3_cite 84 = .ok (.invokestatic 189, 3) := by decide +kernel
theorem dX3_cite_87 : decode cX3_cite 87 = .ok (.ireturn, 1) := by decide +kernel
theorem dX3_withdraw_0 : decode cX3_withdraw 0 = .ok (.aload_n 0, 1) := by decide +kernel
theorem dX3_withdraw_1 : decode cX3_withdraw 1 = .ok (.iload_n 1, 1) := by decide +kernel
theorem dX3_withdraw_2 : decode cX3_withdraw 2 = .ok (.invokevirtual 139, 3) := by decide +kernel
theorem dX3_withdraw_5 : decode cX3_withdraw 5 = .ok (.getfield 156, 3) := by decide +kernel
theorem dX3_withdraw_8 : decode cX3_withdraw 8 = .ok (.ifCond .ne 13, 3) := by decide +kernel
theorem dX3_withdraw_11 : decode cX3_withdraw 11 = .ok (.new 55, 3) := by decide +kernel
theorem dX3_withdraw_14 : decode cX3_withdraw 14 = .ok (.dup, 1) := by decide +kernel
theorem dX3_withdraw_15 : decode cX3_withdraw 15 = .ok (.ldc 183, 2) := by decide +kernel
theorem dX3_withdraw_17 : decode cX3_withdraw 17 = .ok (.invokespecial 59, 3) := by decide +kernel
theorem dX3_withdraw_20 : decode cX3_withdraw 20 = .ok (.athrow, 1) := by decide +kernel
theorem dX3_withdraw_21 : decode cX3_withdraw 21 = .ok (.aload_n 0, 1) := by decide +kernel
theorem dX3_withdraw_22 : decode cX3_withdraw 22 = .ok (.iload_n 1, 1) := by decide +kernel
theorem dX3_withdraw_23 : decode cX3_withdraw 23 = .ok (.invokestatic 175, 3) := by decide +kernel
theorem dX3_withdraw_26 : decode cX3_withdraw 26 = .ok (.invokevirtual 195, 3) := by decide +kernel
theorem dX3_withdraw_29 : decode cX3_withdraw 29 = .ok (.ireturn, 1) := by decide +kernel
theorem dX3_audit_0 : decode cX3_audit 0 = .ok (.lconst 0, 1) := by decide +kernel
theorem dX3_audit_1 : decode cX3_audit 1 = .ok (.lstore_n 1, 1) := by decide +kernel
theorem dX3_audit_2 : decode cX3_audit 2 = .ok (.iconst 0, 1) := by decide +kernel
theorem dX3_audit_3 : decode cX3_audit 3 = .ok (.istore_n 3, 1) := by decide +kernel
theorem dX3_audit_4 : decode cX3_audit 4 = .ok (.iload_n 3, 1) := by decide +kernel
theorem dX3_audit_5 : decode cX3_audit 5 = .ok (.aload_n 0, 1) := by decide +kernel
theorem dX3_audit_6 : decode cX3_audit 6 = .ok (.getfield 198, 3) := by decide +kernel
theorem dX3_audit_9 : decode cX3_audit 9 = .ok (.if_icmp .ge 46, 3) := by decide +kernel
theorem dX3_audit_12 : decode cX3_audit 12 = .ok (.aload_n 0, 1) := by decide +kernel
theorem dX3_audit_13 : decode cX3_audit 13 = .ok (.getfield 30, 3) := by decide +kernel
theorem dX3_audit_16 : decode cX3_audit 16 = .ok (.iload_n 3, 1) := by decide +kernel
theorem dX3_audit_17 : decode cX3_audit 17 = .ok (.aaload, 1) := by decide +kernel
theorem dX3_audit_18 : decode cX3_audit 18 = .ok (.astore 4, 2) := by decide +kernel
theorem dX3_audit_20 : decode cX3_audit 20 = .ok (.aload 4, 2) := by decide +kernel
theorem dX3_audit_22 : decode cX3_audit 22 = .ok (.ifnull 27, 3) := by decide +kernel
theorem dX3_audit_25 : decode cX3_audit 25 = .ok (.aload 4, 2) := by decide +kernel
theorem dX3_audit_27 : decode cX3_audit 27 = .ok (.getfield 156, 3) := by decide +kernel
theorem dX3_audit_30 : decode cX3_audit 30 = .ok (.ifCond .eq 19, 3) := by decide +kernel
theorem dX3_audit_33 : decode cX3_audit 33 = .ok (.aload_n 0, 1) := by decide +kernel
theorem dX3_audit_34 : decode cX3_audit 34 = .ok (.aload 4, 2) := by decide +kernel
theorem dX3_audit_36 : decode cX3_audit 36 = .ok (.invokevirtual 201, 3) := by decide +kernel
theorem dX3_audit_39 : decode cX3_audit 39 = .ok (.ifCond .ne 10, 3) := by decide +kernel
theorem dX3_audit_42 : decode cX3_audit 42 = .ok (.lload_n 1, 1) := by decide +kernel
theorem dX3_audit_43 : decode cX3_audit 43 = .ok (.iload_n 3, 1) := by decide +kernel
theorem dX3_audit_44 : decode cX3_audit 44 = .ok (.invokestatic 175, 3) := by decide +kernel
theorem dX3_audit_47 : decode cX3_audit 47 = .ok (.lor, 1) := by decide +kernel
theorem dX3_audit_48 : decode cX3_audit 48 = .ok (.lstore_n 1, 1) := by decide +kernel
theorem dX3_audit_49 : decode cX3_audit 49 = .ok (.iinc 3 1, 3) := by decide +kernel
theorem dX3_audit_52 : decode cX3_audit 52 = .ok (.goto (-48), 3) := by decide +kernel
theorem dX3_audit_55 : decode cX3_audit 55 = .ok (.aload_n 0, 1) := by decide +kernel
theorem dX3_audit_56 : decode cX3_audit 56 = .ok (.lload_n 1, 1) := by decide +kernel
theorem dX3_audit_57 : decode cX3_audit 57 = .ok (.invokevirtual 195, 3) := by decide +kernel
theorem dX3_audit_60 : decode cX3_audit 60 = .ok (.ireturn, 1) := by decide +kernel
theorem dX3_ofStar_0 : decode cX3_ofStar 0 = .ok (.aload_n 0, 1) := by decide +kernel
theorem dX3_ofStar_1 : decode cX3_ofStar 1 = .ok (.iload_n 1, 1) := by decide +kernel
theorem dX3_ofStar_2 : decode cX3_ofStar 2 = .ok (.invokevirtual 75, 3) := by decide +kernel
theorem dX3_ofStar_5 : decode cX3_ofStar 5 = .ok (.astore_n 3, 1) := by decide +kernel
theorem dX3_ofStar_6 : decode cX3_ofStar 6 = .ok (.iload_n 2, 1) := by decide +kernel
theorem dX3_ofStar_7 : decode cX3_ofStar 7 = .ok (.tableswitch 67 0 5 #[37, 42, 47, 52, 57, 62], 37) := by decide +kernel
theorem dX3_ofStar_44 : decode cX3_ofStar 44 = .ok (.aload_n 3, 1) := by decide +kernel
theorem dX3_ofStar_45 : decode cX3_ofStar 45 = .ok (.getfield 205, 3) := by decide +kernel
theorem dX3_ofStar_48 : decode cX3_ofStar 48 = .ok (.ireturn, 1) := by decide +kernel
theorem dX3_ofStar_49 : decode cX3_ofStar 49 = .ok (.aload_n 3, 1) := by decide +kernel
theorem dX3_ofStar_50 : decode cX3_ofStar 50 = .ok (.getfield 206, 3) := by decide +kernel
theorem dX3_ofStar_53 : decode cX3_ofStar 53 = .ok (.ireturn, 1) := by decide +kernel
theorem dX3_ofStar_54 : decode cX3_ofStar 54 = .ok (.aload_n 3, 1) := by decide +kernel
theorem dX3_ofStar_55 : decode cX3_ofStar 55 = .ok (.getfield 209, 3) := by decide +kernel
theorem dX3_ofStar_58 : decode cX3_ofStar 58 = .ok (.ireturn, 1) := by decide +kernel
theorem dX3_ofStar_59 : decode cX3_ofStar 59 = .ok (.aload_n 3, 1) := by decide +kernel
theorem dX3_ofStar_60 : decode cX3_ofStar 60 = .ok (.getfield 212, 3) := by decide +kernel
theorem dX3_ofStar_63 : decode cX3_ofStar 63 = .ok (.ireturn, 1) := by decide +kernel
theorem dX3_ofStar_64 : decode cX3_ofStar 64 = .ok (.aload_n 3, 1) := by decide +kernel
theorem dX3_ofStar_65 : decode cX3_ofStar 65 = .ok (.getfield 215, 3) := by decide +kernel
theorem dX3_ofStar_68 : decode cX3_ofStar 68 = .ok (.ireturn, 1) := by decide +kernel
theorem dX3_ofStar_69 : decode cX3_ofStar 69 = .ok (.aload_n 3, 1) := by decide +kernel
theorem dX3_ofStar_70 : decode cX3_ofStar 70 = .ok (.getfield 218, 3) := by decide +kernel
theorem dX3_ofStar_73 : decode cX3_ofStar 73 = .ok (.ireturn, 1) := by decide +kernel
theorem dX3_ofStar_74 : decode cX3_ofStar 74 = .ok (.new 45, 3) := by decide +kernel
theorem dX3_ofStar_77 : decode cX3_ofStar 77 = .ok (.dup, 1) := by decide +kernel
theorem dX3_ofStar_78 : decode cX3_ofStar 78 = .ok (.ldc 221, 2) := by decide +kernel
theorem dX3_ofStar_80 : decode cX3_ofStar 80 = .ok (.invokespecial 49, 3) := by decide +kernel
theorem dX3_ofStar_83 : decode cX3_ofStar 83 = .ok (.athrow, 1) := by decide +kernel
theorem dX3_crossingAnew_0 : decode cX3_crossingAnew 0 = .ok (.aload_n 0, 1) := by decide +kernel
theorem dX3_crossingAnew_1 : decode cX3_crossingAnew 1 = .ok (.iload_n 1, 1) := by decide +kernel
theorem dX3_crossingAnew_2 : decode cX3_crossingAnew 2 = .ok (.invokevirtual 75, 3) := by decide +kernel
theorem dX3_crossingAnew_5 : decode cX3_crossingAnew 5 = .ok (.invokevirtual 223, 3) := by decide +kernel
theorem dX3_crossingAnew_8 : decode cX3_crossingAnew 8 = .ok (.ireturn, 1) := by decide +kernel
theorem dX3_tone_0 : decode cX3_tone 0 = .ok (.aload_n 0, 1) := by decide +kernel
theorem dX3_tone_1 : decode cX3_tone 1 = .ok (.iload_n 1, 1) := by decide +kernel
theorem dX3_tone_2 : decode cX3_tone 2 = .ok (.invokevirtual 75, 3) := by decide +kernel
theorem dX3_tone_5 : decode cX3_tone 5 = .ok (.astore 5, 2) := by decide +kernel
theorem dX3_tone_7 : decode cX3_tone 7 = .ok (.iload_n 2, 1) := by decide +kernel
theorem dX3_tone_8 : decode cX3_tone 8 = .ok (.iconst 1, 1) := by decide +kernel
theorem dX3_tone_9 : decode cX3_tone 9 = .ok (.bipush 12, 2) := by decide +kernel
theorem dX3_tone_11 : decode cX3_tone 11 = .ok (.invokestatic 41, 3) := by decide +kernel
theorem dX3_tone_14 : decode cX3_tone 14 = .ok (.ifCond .ne 23, 3) := by decide +kernel
theorem dX3_tone_17 : decode cX3_tone 17 = .ok (.iload_n 3, 1) := by decide +kernel
theorem dX3_tone_18 : decode cX3_tone 18 = .ok (.iconst 0, 1) := by decide +kernel
theorem dX3_tone_19 : decode cX3_tone 19 = .ok (.iconst 3, 1) := by decide +kernel
theorem dX3_tone_20 : decode cX3_tone 20 = .ok (.invokestatic 41, 3) := by decide +kernel
theorem dX3_tone_23 : decode cX3_tone 23 = .ok (.ifCond .ne 14, 3) := by decide +kernel
theorem dX3_tone_26 : decode cX3_tone 26 = .ok (.iload 4, 2) := by decide +kernel
theorem dX3_tone_28 : decode cX3_tone 28 = .ok (.iload_n 3, 1) := by decide +kernel
theorem dX3_tone_29 : decode cX3_tone 29 = .ok (.ineg, 1) := by decide +kernel
theorem dX3_tone_30 : decode cX3_tone 30 = .ok (.iload_n 3, 1) := by decide +kernel
theorem dX3_tone_31 : decode cX3_tone 31 = .ok (.invokestatic 41, 3) := by decide +kernel
theorem dX3_tone_34 : decode cX3_tone 34 = .ok (.ifCond .eq 13, 3) := by decide +kernel
theorem dX3_tone_37 : decode cX3_tone 37 = .ok (.new 45, 3) := by decide +kernel
theorem dX3_tone_40 : decode cX3_tone 40 = .ok (.dup, 1) := by decide +kernel
theorem dX3_tone_41 : decode cX3_tone 41 = .ok (.ldc 227, 2) := by decide +kernel
theorem dX3_tone_43 : decode cX3_tone 43 = .ok (.invokespecial 49, 3) := by decide +kernel
theorem dX3_tone_46 : decode cX3_tone 46 = .ok (.athrow, 1) := by decide +kernel
theorem dX3_tone_47 : decode cX3_tone 47 = .ok (.aload 5, 2) := by decide +kernel
theorem dX3_tone_49 : decode cX3_tone 49 = .ok (.iload_n 2, 1) := by decide +kernel
theorem dX3_tone_50 : decode cX3_tone 50 = .ok (.iload_n 3, 1) := by decide +kernel
theorem dX3_tone_51 : decode cX3_tone 51 = .ok (.iload 4, 2) := by decide +kernel
theorem dX3_tone_53 : decode cX3_tone 53 = .ok (.invokevirtual 229, 3) := by decide +kernel
theorem dX3_tone_56 : decode cX3_tone 56 = .ok (.ireturn, 1) := by decide +kernel
theorem dX3_frames_0 : decode cX3_frames 0 = .ok (.aload_n 0, 1) := by decide +kernel
theorem dX3_frames_1 : decode cX3_frames 1 = .ok (.getfield 37, 3) := by decide +kernel
theorem dX3_frames_4 : decode cX3_frames 4 = .ok (.aload_n 0, 1) := by decide +kernel
theorem dX3_frames_5 : decode cX3_frames 5 = .ok (.iload_n 1, 1) := by decide +kernel
theorem dX3_frames_6 : decode cX3_frames 6 = .ok (.invokevirtual 75, 3) := by decide +kernel
theorem dX3_frames_9 : decode cX3_frames 9 = .ok (.aload_n 0, 1) := by decide +kernel
theorem dX3_frames_10 : decode cX3_frames 10 = .ok (.getfield 20, 3) := by decide +kernel
theorem dX3_frames_13 : decode cX3_frames 13 = .ok (.invokevirtual 233, 3) := by decide +kernel
theorem dX3_frames_16 : decode cX3_frames 16 = .ok (.aload_n 0, 1) := by decide +kernel
theorem dX3_frames_17 : decode cX3_frames 17 = .ok (.getfield 37, 3) := by decide +kernel
theorem dX3_frames_20 : decode cX3_frames 20 = .ok (.getfield 237, 3) := by decide +kernel
theorem dX3_frames_23 : decode cX3_frames 23 = .ok (.ireturn, 1) := by decide +kernel
theorem dX3_value_0 : decode cX3_value 0 = .ok (.aload_n 0, 1) := by decide +kernel
theorem dX3_value_1 : decode cX3_value 1 = .ok (.iload_n 1, 1) := by decide +kernel
theorem dX3_value_2 : decode cX3_value 2 = .ok (.invokevirtual 75, 3) := by decide +kernel
theorem dX3_value_5 : decode cX3_value 5 = .ok (.astore 4, 2) := by decide +kernel
theorem dX3_value_7 : decode cX3_value 7 = .ok (.iload_n 2, 1) := by decide +kernel
theorem dX3_value_8 : decode cX3_value 8 = .ok (.invokestatic 109, 3) := by decide +kernel
theorem dX3_value_11 : decode cX3_value 11 = .ok (.iload_n 3, 1) := by decide +kernel
theorem dX3_value_12 : decode cX3_value 12 = .ok (.invokestatic 82, 3) := by decide +kernel
theorem dX3_value_15 : decode cX3_value 15 = .ok (.aload_n 0, 1) := by decide +kernel
theorem dX3_value_16 : decode cX3_value 16 = .ok (.getfield 37, 3) := by decide +kernel
theorem dX3_value_19 : decode cX3_value 19 = .ok (.aload 4, 2) := by decide +kernel
theorem dX3_value_21 : decode cX3_value 21 = .ok (.aload_n 0, 1) := by decide +kernel
theorem dX3_value_22 : decode cX3_value 22 = .ok (.getfield 20, 3) := by decide +kernel
theorem dX3_value_25 : decode cX3_value 25 = .ok (.iload_n 2, 1) := by decide +kernel
theorem dX3_value_26 : decode cX3_value 26 = .ok (.aload 4, 2) := by decide +kernel
theorem dX3_value_28 : decode cX3_value 28 = .ok (.getfield 101, 3) := by decide +kernel
theorem dX3_value_31 : decode cX3_value 31 = .ok (.invokevirtual 240, 3) := by decide +kernel
theorem dX3_value_34 : decode cX3_value 34 = .ok (.aload_n 0, 1) := by decide +kernel
theorem dX3_value_35 : decode cX3_value 35 = .ok (.getfield 37, 3) := by decide +kernel
theorem dX3_value_38 : decode cX3_value 38 = .ok (.iload_n 3, 1) := by decide +kernel
theorem dX3_value_39 : decode cX3_value 39 = .ok (.invokevirtual 244, 3) := by decide +kernel
theorem dX3_value_42 : decode cX3_value 42 = .ok (.l2i, 1) := by decide +kernel
theorem dX3_value_43 : decode cX3_value 43 = .ok (.ireturn, 1) := by decide +kernel
theorem dX3_power_0 : decode cX3_power 0 = .ok (.aload_n 0, 1) := by decide +kernel
theorem dX3_power_1 : decode cX3_power 1 = .ok (.iload_n 1, 1) := by decide +kernel
theorem dX3_power_2 : decode cX3_power 2 = .ok (.invokevirtual 75, 3) := by decide +kernel
theorem dX3_power_5 : decode cX3_power 5 = .ok (.astore 4, 2) := by decide +kernel
theorem dX3_power_7 : decode cX3_power 7 = .ok (.iload_n 2, 1) := by decide +kernel
theorem dX3_power_8 : decode cX3_power 8 = .ok (.invokestatic 109, 3) := by decide +kernel
theorem dX3_power_11 : decode cX3_power 11 = .ok (.iload_n 3, 1) := by decide +kernel
theorem dX3_power_12 : decode cX3_power 12 = .ok (.invokestatic 247, 3) := by decide +kernel
theorem dX3_power_15 : decode cX3_power 15 = .ok (.aload_n 0, 1) := by decide +kernel
theorem dX3_power_16 : decode cX3_power 16 = .ok (.getfield 37, 3) := by decide +kernel
theorem dX3_power_19 : decode cX3_power 19 = .ok (.aload 4, 2) := by decide +kernel
theorem dX3_power_21 : decode cX3_power 21 = .ok (.aload_n 0, 1) := by decide +kernel
theorem dX3_power_22 : decode cX3_power 22 = .ok (.getfield 20, 3) := by decide +kernel
theorem dX3_power_25 : decode cX3_power 25 = .ok (.iload_n 2, 1) := by decide +kernel
theorem dX3_power_26 : decode cX3_power 26 = .ok (.aload 4, 2) := by decide +kernel
theorem dX3_power_28 : decode cX3_power 28 = .ok (.getfield 101, 3) := by decide +kernel
theorem dX3_power_31 : decode cX3_power 31 = .ok (.invokevirtual 240, 3) := by decide +kernel
theorem dX3_power_34 : decode cX3_power 34 = .ok (.aload_n 0, 1) := by decide +kernel
theorem dX3_power_35 : decode cX3_power 35 = .ok (.getfield 37, 3) := by decide +kernel
theorem dX3_power_38 : decode cX3_power 38 = .ok (.iload_n 3, 1) := by decide +kernel
theorem dX3_power_39 : decode cX3_power 39 = .ok (.invokevirtual 127, 3) := by decide +kernel
theorem dX3_power_42 : decode cX3_power 42 = .ok (.lreturn, 1) := by decide +kernel
theorem dX3_window_0 : decode cX3_window 0 = .ok (.aload_n 0, 1) := by decide +kernel
theorem dX3_window_1 : decode cX3_window 1 = .ok (.iload_n 1, 1) := by decide +kernel
theorem dX3_window_2 : decode cX3_window 2 = .ok (.invokevirtual 75, 3) := by decide +kernel
theorem dX3_window_5 : decode cX3_window 5 = .ok (.astore_n 3, 1) := by decide +kernel
theorem dX3_window_6 : decode cX3_window 6 = .ok (.iload_n 2, 1) := by decide +kernel
theorem dX3_window_7 : decode cX3_window 7 = .ok (.invokestatic 247, 3) := by decide +kernel
theorem dX3_window_10 : decode cX3_window 10 = .ok (.aload_n 0, 1) := by decide +kernel
theorem dX3_window_11 : decode cX3_window 11 = .ok (.getfield 37, 3) := by decide +kernel
theorem dX3_window_14 : decode cX3_window 14 = .ok (.aload_n 3, 1) := by decide +kernel
theorem dX3_window_15 : decode cX3_window 15 = .ok (.aload_n 0, 1) := by decide +kernel
theorem dX3_window_16 : decode cX3_window 16 = .ok (.getfield 20, 3) := by decide +kernel
theorem dX3_window_19 : decode cX3_window 19 = .ok (.invokevirtual 233, 3) := by decide +kernel
theorem dX3_window_22 : decode cX3_window 22 = .ok (.aload_n 0, 1) := by decide +kernel
theorem dX3_window_23 : decode cX3_window 23 = .ok (.getfield 37, 3) := by decide +kernel
theorem dX3_window_26 : decode cX3_window 26 = .ok (.invokevirtual 250, 3) := by decide +kernel
theorem dX3_window_29 : decode cX3_window 29 = .ok (.aload_n 0, 1) := by decide +kernel
theorem dX3_window_30 : decode cX3_window 30 = .ok (.getfield 37, 3) := by decide +kernel
theorem dX3_window_33 : decode cX3_window 33 = .ok (.iload_n 2, 1) := by decide +kernel
theorem dX3_window_34 : decode cX3_window 34 = .ok (.invokevirtual 127, 3) := by decide +kernel
theorem dX3_window_37 : decode cX3_window 37 = .ok (.lreturn, 1) := by decide +kernel
theorem dX3_isPeak_0 : decode cX3_isPeak 0 = .ok (.aload_n 0, 1) := by decide +kernel
theorem dX3_isPeak_1 : decode cX3_isPeak 1 = .ok (.iload_n 1, 1) := by decide +kernel
theorem dX3_isPeak_2 : decode cX3_isPeak 2 = .ok (.invokevirtual 75, 3) := by decide +kernel
theorem dX3_isPeak_5 : decode cX3_isPeak 5 = .ok (.astore 4, 2) := by decide +kernel
theorem dX3_isPeak_7 : decode cX3_isPeak 7 = .ok (.iload_n 2, 1) := by decide +kernel
theorem dX3_isPeak_8 : decode cX3_isPeak 8 = .ok (.invokestatic 109, 3) := by decide +kernel
theorem dX3_isPeak_11 : decode cX3_isPeak 11 = .ok (.aload_n 0, 1) := by decide +kernel
theorem dX3_isPeak_12 : decode cX3_isPeak 12 = .ok (.aload 4, 2) := by decide +kernel
theorem dX3_isPeak_14 : decode cX3_isPeak 14 = .ok (.iload_n 2, 1) := by decide +kernel
theorem dX3_isPeak_15 : decode cX3_isPeak 15 = .ok (.iload_n 3, 1) := by decide +kernel
theorem dX3_isPeak_16 : decode cX3_isPeak 16 = .ok (.invokevirtual 115, 3) := by decide +kernel
theorem dX3_isPeak_19 : decode cX3_isPeak 19 = .ok (.ireturn, 1) := by decide +kernel
theorem dX3_isSeenThrough_0 : decode cX3_isSeenThrough 0 = .ok (.aload_n 0, 1) := by decide +kernel
theorem dX3_isSeenThrough_1 : decode cX3_isSeenThrough 1 = .ok (.iload_n 1, 1) := by decide +kernel
theorem dX3_isSeenThrough_2 : decode cX3_isSeenThrough 2 = .ok (.invokevirtual 75, 3) := by decide +kernel
theorem dX3_isSeenThrough_5 : decode cX3_isSeenThrough 5 = .ok (.astore 5, 2) := by decide +kernel
theorem dX3_isSeenThrough_7 : decode cX3_isSeenThrough 7 = .ok (.iload_n 2, 1) := by decide +kernel
theorem dX3_isSeenThrough_8 : decode cX3_isSeenThrough 8 = .ok (.invokestatic 109, 3) := by decide +kernel
theorem dX3_isSeenThrough_11 : decode cX3_isSeenThrough 11 = .ok (.iload_n 3, 1) := by decide +kernel
theorem dX3_isSeenThrough_12 : decode cX3_isSeenThrough 12 = .ok (.invokestatic 247, 3) := by decide +kernel
theorem dX3_isSeenThrough_15 : decode cX3_isSeenThrough 15 = .ok (.iload 4, 2) := by decide +kernel
theorem dX3_isSeenThrough_17 : decode cX3_isSeenThrough 17 = .ok (.invokestatic 247, 3) := by decide +kernel
theorem dX3_isSeenThrough_20 : decode cX3_isSeenThrough 20 = .ok (.iload_n 3, 1) := by decide +kernel
theorem dX3_isSeenThrough_21 : decode cX3_isSeenThrough 21 = .ok (.iload 4, 2) := by decide +kernel
theorem dX3_isSeenThrough_23 : decode cX3_isSeenThrough 23 = .ok (.if_icmp .ne 13, 3) := by decide +kernel
theorem dX3_isSeenThrough_26 : decode cX3_isSeenThrough 26 = .ok (.new 45, 3) := by decide +kernel
theorem dX3_isSeenThrough_29 : decode cX3_isSeenThrough 29 = .ok (.dup, 1) := by decide +kernel
theorem dX3_isSeenThrough_30 : decode cX3_isSeenThrough 30 = .ok (.ldc 253, 2) := by decide +kernel
theorem dX3_isSeenThrough_32 : decode cX3_isSeenThrough 32 = .ok (.invokespecial 49, 3) := by decide +kernel
theorem dX3_isSeenThrough_35 : decode cX3_isSeenThrough 35 = .ok (.athrow, 1) := by decide +kernel
theorem dX3_isSeenThrough_36 : decode cX3_isSeenThrough 36 = .ok (.aload_n 0, 1) := by decide +kernel
theorem dX3_isSeenThrough_37 : decode cX3_isSeenThrough 37 = .ok (.getfield 37, 3) := by decide +kernel
theorem dX3_isSeenThrough_40 : decode cX3_isSeenThrough 40 = .ok (.aload 5, 2) := by decide +kernel
theorem dX3_isSeenThrough_42 : decode cX3_isSeenThrough 42 = .ok (.aload_n 0, 1) := by decide +kernel
theorem dX3_isSeenThrough_43 : decode cX3_isSeenThrough 43 = .ok (.getfield 20, 3) := by decide +kernel
theorem dX3_isSeenThrough_46 : decode cX3_isSeenThrough 46 = .ok (.iload_n 2, 1) := by decide +kernel
theorem dX3_isSeenThrough_47 : decode cX3_isSeenThrough 47 = .ok (.aload 5, 2) := by decide +kernel
theorem dX3_isSeenThrough_49 : decode cX3_isSeenThrough 49 = .ok (.getfield 101, 3) := by decide +kernel
theorem dX3_isSeenThrough_52 : decode cX3_isSeenThrough 52 = .ok (.invokevirtual 240, 3) := by decide +kernel
theorem dX3_isSeenThrough_55 : decode cX3_isSeenThrough 55 = .ok (.aload_n 0, 1) := by decide +kernel
theorem dX3_isSeenThrough_56 : decode cX3_isSeenThrough 56 = .ok (.getfield 37, 3) := by decide +kernel
theorem dX3_isSeenThrough_59 : decode cX3_isSeenThrough 59 = .ok (.iload 4, 2) := by decide +kernel
theorem dX3_isSeenThrough_61 : decode cX3_isSeenThrough 61 = .ok (.invokevirtual 127, 3) := by decide +kernel
theorem dX3_isSeenThrough_64 : decode cX3_isSeenThrough 64 = .ok (.aload_n 0, 1) := by decide +kernel
theorem dX3_isSeenThrough_65 : decode cX3_isSeenThrough 65 = .ok (.getfield 37, 3) := by decide +kernel
theorem dX3_isSeenThrough_68 : decode cX3_isSeenThrough 68 = .ok (.iload_n 3, 1) := by decide +kernel
theorem dX3_isSeenThrough_69 : decode cX3_isSeenThrough 69 = .ok (.invokevirtual 127, 3) := by decide +kernel
theorem dX3_isSeenThrough_72 : decode cX3_isSeenThrough 72 = .ok (.lcmp, 1) := by decide +kernel
theorem dX3_isSeenThrough_73 : decode cX3_isSeenThrough 73 = .ok (.ifCond .gt 5, 3) := by decide +kernel
theorem dX3_isSeenThrough_76 : decode cX3_isSeenThrough 76 = .ok (.iconst 0, 1) := by decide +kernel
theorem dX3_isSeenThrough_77 : decode cX3_isSeenThrough 77 = .ok (.ireturn, 1) := by decide +kernel
theorem dX3_isSeenThrough_78 : decode cX3_isSeenThrough 78 = .ok (.aload_n 0, 1) := by decide +kernel
theorem dX3_isSeenThrough_79 : decode cX3_isSeenThrough 79 = .ok (.getfield 37, 3) := by decide +kernel
theorem dX3_isSeenThrough_82 : decode cX3_isSeenThrough 82 = .ok (.invokevirtual 250, 3) := by decide +kernel
theorem dX3_isSeenThrough_85 : decode cX3_isSeenThrough 85 = .ok (.aload_n 0, 1) := by decide +kernel
theorem dX3_isSeenThrough_86 : decode cX3_isSeenThrough 86 = .ok (.getfield 37, 3) := by decide +kernel
theorem dX3_isSeenThrough_89 : decode cX3_isSeenThrough 89 = .ok (.getfield 237, 3) := by decide +kernel
theorem dX3_isSeenThrough_92 : decode cX3_isSeenThrough 92 = .ok (.i2l, 1) := by decide +kernel
theorem dX3_isSeenThrough_93 : decode cX3_isSeenThrough 93 = .ok (.aload_n 0, 1) := by decide +kernel
theorem dX3_isSeenThrough_94 : decode cX3_isSeenThrough 94 = .ok (.getfield 37, 3) := by decide +kernel
theorem dX3_isSeenThrough_97 : decode cX3_isSeenThrough 97 = .ok (.getfield 237, 3) := by decide +kernel
theorem dX3_isSeenThrough_100 : decode cX3_isSeenThrough 100 = .ok (.i2l, 1) := by decide +kernel
theorem dX3_isSeenThrough_101 : decode cX3_isSeenThrough 101 = .ok (.lmul, 1) := by decide +kernel
theorem dX3_isSeenThrough_102 : decode cX3_isSeenThrough 102 = .ok (.lstore 6, 2) := by decide +kernel
theorem dX3_isSeenThrough_104 : decode cX3_isSeenThrough 104 = .ok (.ldc2_w 255, 3) := by decide +kernel
theorem dX3_isSeenThrough_107 : decode cX3_isSeenThrough 107 = .ok (.aload_n 0, 1) := by decide +kernel
theorem dX3_isSeenThrough_108 : decode cX3_isSeenThrough 108 = .ok (.getfield 37, 3) := by decide +kernel
theorem dX3_isSeenThrough_111 : decode cX3_isSeenThrough 111 = .ok (.iload_n 3, 1) := by decide +kernel
theorem dX3_isSeenThrough_112 : decode cX3_isSeenThrough 112 = .ok (.iload 4, 2) := by decide +kernel
theorem dX3_isSeenThrough_114 : decode cX3_isSeenThrough 114 = .ok (.isub, 1) := by decide +kernel
theorem dX3_isSeenThrough_115 : decode cX3_isSeenThrough 115 = .ok (.invokestatic 163, 3) := by decide +kernel
theorem dX3_isSeenThrough_118 : decode cX3_isSeenThrough 118 = .ok (.invokevirtual 127, 3) := by decide +kernel
theorem dX3_isSeenThrough_121 : decode cX3_isSeenThrough 121 = .ok (.lmul, 1) := by decide +kernel
theorem dX3_isSeenThrough_122 : decode cX3_isSeenThrough 122 = .ok (.lload 6, 2) := by decide +kernel
theorem dX3_isSeenThrough_124 : decode cX3_isSeenThrough 124 = .ok (.lcmp, 1) := by decide +kernel
theorem dX3_isSeenThrough_125 : decode cX3_isSeenThrough 125 = .ok (.ifCond .lt 7, 3) := by decide +kernel
theorem dX3_isSeenThrough_128 : decode cX3_isSeenThrough 128 = .ok (.iconst 1, 1) := by decide +kernel
theorem dX3_isSeenThrough_129 : decode cX3_isSeenThrough 129 = .ok (.goto 4, 3) := by decide +kernel
theorem dX3_isSeenThrough_132 : decode cX3_isSeenThrough 132 = .ok (.iconst 0, 1) := by decide +kernel
theorem dX3_isSeenThrough_133 : decode cX3_isSeenThrough 133 = .ok (.ireturn, 1) := by decide +kernel
theorem dX3_ofClaim_0 : decode cX3_ofClaim 0 = .ok (.aload_n 0, 1) := by decide +kernel
theorem dX3_ofClaim_1 : decode cX3_ofClaim 1 = .ok (.iload_n 1, 1) := by decide +kernel
theorem dX3_ofClaim_2 : decode cX3_ofClaim 2 = .ok (.invokevirtual 139, 3) := by decide +kernel
theorem dX3_ofClaim_5 : decode cX3_ofClaim 5 = .ok (.astore_n 3, 1) := by decide +kernel
theorem dX3_ofClaim_6 : decode cX3_ofClaim 6 = .ok (.iload_n 2, 1) := by decide +kernel
theorem dX3_ofClaim_7 : decode cX3_ofClaim 7 = .ok (.tableswitch 78 0 5 #[37, 42, 47, 52, 57, 70], 37) := by decide +kernel
theorem dX3_ofClaim_44 : decode cX3_ofClaim 44 = .ok (.aload_n 3, 1) := by decide +kernel
theorem dX3_ofClaim_45 : decode cX3_ofClaim 45 = .ok (.getfield 143, 3) := by decide +kernel
theorem dX3_ofClaim_48 : decode cX3_ofClaim 48 = .ok (.ireturn, 1) := by decide +kernel
theorem dX3_ofClaim_49 : decode cX3_ofClaim 49 = .ok (.aload_n 3, 1) := by decide +kernel
theorem dX3_ofClaim_50 : decode cX3_ofClaim 50 = .ok (.getfield 148, 3) := by decide +kernel
theorem dX3_ofClaim_53 : decode cX3_ofClaim 53 = .ok (.ireturn, 1) := by decide +kernel
theorem dX3_ofClaim_54 : decode cX3_ofClaim 54 = .ok (.aload_n 3, 1) := by decide +kernel
theorem dX3_ofClaim_55 : decode cX3_ofClaim 55 = .ok (.getfield 151, 3) := by decide +kernel
theorem dX3_ofClaim_58 : decode cX3_ofClaim 58 = .ok (.ireturn, 1) := by decide +kernel
theorem dX3_ofClaim_59 : decode cX3_ofClaim 59 = .ok (.aload_n 3, 1) := by decide +kernel
theorem dX3_ofClaim_60 : decode cX3_ofClaim 60 = .ok (.getfield 172, 3) := by decide +kernel
theorem dX3_ofClaim_63 : decode cX3_ofClaim 63 = .ok (.ireturn, 1) := by decide +kernel
theorem dX3_ofClaim_64 : decode cX3_ofClaim 64 = .ok (.aload_n 3, 1) := by decide +kernel
theorem dX3_ofClaim_65 : decode cX3_ofClaim 65 = .ok (.getfield 156, 3) := by decide +kernel
theorem dX3_ofClaim_68 : decode cX3_ofClaim 68 = .ok (.ifCond .eq 7, 3) := by decide +kernel
theorem dX3_ofClaim_71 : decode cX3_ofClaim 71 = .ok (.iconst 1, 1) := by decide +kernel
theorem dX3_ofClaim_72 : decode cX3_ofClaim 72 = .ok (.goto 4, 3) := by decide +kernel
theorem dX3_ofClaim_75 : decode cX3_ofClaim 75 = .ok (.iconst 0, 1) := by decide +kernel
theorem dX3_ofClaim_76 : decode cX3_ofClaim 76 = .ok (.ireturn, 1) := by decide +kernel
theorem dX3_ofClaim_77 : decode cX3_ofClaim 77 = .ok (.aload_n 3, 1) := by decide +kernel
theorem dX3_ofClaim_78 : decode cX3_ofClaim 78 = .ok (.getfield 178, 3) := by decide +kernel
theorem dX3_ofClaim_81 : decode cX3_ofClaim 81 = .ok (.invokestatic 189, 3) := by decide +kernel
theorem dX3_ofClaim_84 : decode cX3_ofClaim 84 = .ok (.ireturn, 1) := by decide +kernel
theorem dX3_ofClaim_85 : decode cX3_ofClaim 85 = .ok (.new 45, 3) := by decide +kernel
theorem dX3_ofClaim_88 : decode cX3_ofClaim 88 = .ok (.dup, 1) := by decide +kernel
theorem dX3_ofClaim_89 : decode cX3_ofClaim 89 = .ok (.ldc 221, 2) := by decide +kernel
theorem dX3_ofClaim_91 : decode cX3_ofClaim 91 = .ok (.invokespecial 49, 3) := by decide +kernel
theorem dX3_ofClaim_94 : decode cX3_ofClaim 94 = .ok (.athrow, 1) := by decide +kernel
theorem dX3_isSound_0 : decode cX3_isSound 0 = .ok (.aload_n 0, 1) := by decide +kernel
theorem dX3_isSound_1 : decode cX3_isSound 1 = .ok (.aload_n 0, 1) := by decide +kernel
theorem dX3_isSound_2 : decode cX3_isSound 2 = .ok (.iload_n 1, 1) := by decide +kernel
theorem dX3_isSound_3 : decode cX3_isSound 3 = .ok (.invokevirtual 139, 3) := by decide +kernel
theorem dX3_isSound_6 : decode cX3_isSound 6 = .ok (.invokevirtual 201, 3) := by decide +kernel
theorem dX3_isSound_9 : decode cX3_isSound 9 = .ok (.ireturn, 1) := by decide +kernel
theorem dX3_isOutside_0 : decode cX3_isOutside 0 = .ok (.iload_n 0, 1) := by decide +kernel
theorem dX3_isOutside_1 : decode cX3_isOutside 1 = .ok (.iload_n 1, 1) := by decide +kernel
theorem dX3_isOutside_2 : decode cX3_isOutside 2 = .ok (.if_icmp .lt 8, 3) := by decide +kernel
theorem dX3_isOutside_5 : decode cX3_isOutside 5 = .ok (.iload_n 0, 1) := by decide +kernel
theorem dX3_isOutside_6 : decode cX3_isOutside 6 = .ok (.iload_n 2, 1) := by decide +kernel
theorem dX3_isOutside_7 : decode cX3_isOutside 7 = .ok (.if_icmp .le 7, 3) := by decide +kernel
theorem dX3_isOutside_10 : decode cX3_isOutside 10 = .ok (.iconst 1, 1) := by decide +kernel
theorem dX3_isOutside_11 : decode cX3_isOutside 11 = .ok (.goto 4, 3) := by decide +kernel
theorem dX3_isOutside_14 : decode cX3_isOutside 14 = .ok (.iconst 0, 1) := by decide +kernel
theorem dX3_isOutside_15 : decode cX3_isOutside 15 = .ok (.ireturn, 1) := by decide +kernel
theorem dX3_starAt_0 : decode cX3_starAt 0 = .ok (.iload_n 1, 1) := by decide +kernel
theorem dX3_starAt_1 : decode cX3_starAt 1 = .ok (.ifCond .lt 20, 3) := by decide +kernel
theorem dX3_starAt_4 : decode cX3_starAt 4 = .ok (.iload_n 1, 1) := by decide +kernel
theorem dX3_starAt_5 : decode cX3_starAt 5 = .ok (.aload_n 0, 1) := by decide +kernel
theorem dX3_starAt_6 : decode cX3_starAt 6 = .ok (.getfield 66, 3) := by decide +kernel
theorem dX3_starAt_9 : decode cX3_starAt 9 = .ok (.if_icmp .ge 12, 3) := by decide +kernel
theorem dX3_starAt_12 : decode cX3_starAt 12 = .ok (.aload_n 0, 1) := by decide +kernel
theorem dX3_starAt_13 : decode cX3_starAt 13 = .ok (.getfield 11, 3) := by decide +kernel
theorem dX3_starAt_16 : decode cX3_starAt 16 = .ok (.iload_n 1, 1) := by decide +kernel
theorem dX3_starAt_17 : decode cX3_starAt 17 = .ok (.aaload, 1) := by decide +kernel
theorem dX3_starAt_18 : decode cX3_starAt 18 = .ok (.ifnonnull 14, 3) := by decide +kernel
theorem dX3_starAt_21 : decode cX3_starAt 21 = .ok (.new 257, 3) := by decide +kernel
theorem dX3_starAt_24 : decode cX3_starAt 24 = .ok (.dup, 1) := by decide +kernel
theorem dX3_starAt_25 : decode cX3_starAt 25 = .ok (.ldc_w 259, 3) := by decide +kernel
theorem dX3_starAt_28 : decode cX3_starAt 28 = .ok (.invokespecial 261, 3) := by decide +kernel
theorem dX3_starAt_31 : decode cX3_starAt 31 = .ok (.athrow, 1) := by decide +kernel
theorem dX3_starAt_32 : decode cX3_starAt 32 = .ok (.aload_n 0, 1) := by decide +kernel
theorem dX3_starAt_33 : decode cX3_starAt 33 = .ok (.getfield 11, 3) := by decide +kernel
theorem dX3_starAt_36 : decode cX3_starAt 36 = .ok (.iload_n 1, 1) := by decide +kernel
theorem dX3_starAt_37 : decode cX3_starAt 37 = .ok (.aaload, 1) := by decide +kernel
theorem dX3_starAt_38 : decode cX3_starAt 38 = .ok (.areturn, 1) := by decide +kernel
theorem dX3_claimAt_0 : decode cX3_claimAt 0 = .ok (.iload_n 1, 1) := by decide +kernel
theorem dX3_claimAt_1 : decode cX3_claimAt 1 = .ok (.ifCond .lt 20, 3) := by decide +kernel
theorem dX3_claimAt_4 : decode cX3_claimAt 4 = .ok (.iload_n 1, 1) := by decide +kernel
theorem dX3_claimAt_5 : decode cX3_claimAt 5 = .ok (.aload_n 0, 1) := by decide +kernel
theorem dX3_claimAt_6 : decode cX3_claimAt 6 = .ok (.getfield 198, 3) := by decide +kernel
theorem dX3_claimAt_9 : decode cX3_claimAt 9 = .ok (.if_icmp .ge 12, 3) := by decide +kernel
theorem dX3_claimAt_12 : decode cX3_claimAt 12 = .ok (.aload_n 0, 1) := by decide +kernel
theorem dX3_claimAt_13 : decode cX3_claimAt 13 = .ok (.getfield 30, 3) := by decide +kernel
theorem dX3_claimAt_16 : decode cX3_claimAt 16 = .ok (.iload_n 1, 1) := by decide +kernel
theorem dX3_claimAt_17 : decode cX3_claimAt 17 = .ok (.aaload, 1) := by decide +kernel
theorem dX3_claimAt_18 : decode cX3_claimAt 18 = .ok (.ifnonnull 14, 3) := by decide +kernel
theorem dX3_claimAt_21 : decode cX3_claimAt 21 = .ok (.new 257, 3) := by decide +kernel
theorem dX3_claimAt_24 : decode cX3_claimAt 24 = .ok (.dup, 1) := by decide +kernel
theorem dX3_claimAt_25 : decode cX3_claimAt 25 = .ok (.ldc_w 262, 3) := by decide +kernel
theorem dX3_claimAt_28 : decode cX3_claimAt 28 = .ok (.invokespecial 261, 3) := by decide +kernel
theorem dX3_claimAt_31 : decode cX3_claimAt 31 = .ok (.athrow, 1) := by decide +kernel
theorem dX3_claimAt_32 : decode cX3_claimAt 32 = .ok (.aload_n 0, 1) := by decide +kernel
theorem dX3_claimAt_33 : decode cX3_claimAt 33 = .ok (.getfield 30, 3) := by decide +kernel
theorem dX3_claimAt_36 : decode cX3_claimAt 36 = .ok (.iload_n 1, 1) := by decide +kernel
theorem dX3_claimAt_37 : decode cX3_claimAt 37 = .ok (.aaload, 1) := by decide +kernel
theorem dX3_claimAt_38 : decode cX3_claimAt 38 = .ok (.areturn, 1) := by decide +kernel
theorem dX3_lookForSite_0 : decode cX3_lookForSite 0 = .ok (.iload_n 0, 1) := by decide +kernel
theorem dX3_lookForSite_1 : decode cX3_lookForSite 1 = .ok (.iconst 0, 1) := by decide +kernel
theorem dX3_lookForSite_2 : decode cX3_lookForSite 2 = .ok (.iconst 3, 1) := by decide +kernel
theorem dX3_lookForSite_3 : decode cX3_lookForSite 3 = .ok (.invokestatic 41, 3) := by decide +kernel
theorem dX3_lookForSite_6 : decode cX3_lookForSite 6 = .ok (.ifCond .eq 14, 3) := by decide +kernel
theorem dX3_lookForSite_9 : decode cX3_lookForSite 9 = .ok (.new 257, 3) := by decide +kernel
theorem dX3_lookForSite_12 : decode cX3_lookForSite 12 = .ok (.dup, 1) := by decide +kernel
theorem dX3_lookForSite_13 : decode cX3_lookForSite 13 = .ok (.ldc_w 264, 3) := by decide +kernel
theorem dX3_lookForSite_16 : decode cX3_lookForSite 16 = .ok (.invokespecial 261, 3) := by decide +kernel
theorem dX3_lookForSite_19 : decode cX3_lookForSite 19 = .ok (.athrow, 1) := by decide +kernel
theorem dX3_lookForSite_20 : decode cX3_lookForSite 20 = .ok (.return_, 1) := by decide +kernel
theorem dX3_lookForFilter_0 : decode cX3_lookForFilter 0 = .ok (.iload_n 0, 1) := by decide +kernel
theorem dX3_lookForFilter_1 : decode cX3_lookForFilter 1 = .ok (.iconst 0, 1) := by decide +kernel
theorem dX3_lookForFilter_2 : decode cX3_lookForFilter 2 = .ok (.iconst 2, 1) := by decide +kernel
theorem dX3_lookForFilter_3 : decode cX3_lookForFilter 3 = .ok (.invokestatic 41, 3) := by decide +kernel
theorem dX3_lookForFilter_6 : decode cX3_lookForFilter 6 = .ok (.ifCond .eq 14, 3) := by decide +kernel
theorem dX3_lookForFilter_9 : decode cX3_lookForFilter 9 = .ok (.new 257, 3) := by decide +kernel
theorem dX3_lookForFilter_12 : decode cX3_lookForFilter 12 = .ok (.dup, 1) := by decide +kernel
theorem dX3_lookForFilter_13 : decode cX3_lookForFilter 13 = .ok (.ldc_w 266, 3) := by decide +kernel
theorem dX3_lookForFilter_16 : decode cX3_lookForFilter 16 = .ok (.invokespecial 261, 3) := by decide +kernel
theorem dX3_lookForFilter_19 : decode cX3_lookForFilter 19 = .ok (.athrow, 1) := by decide +kernel
theorem dX3_lookForFilter_20 : decode cX3_lookForFilter 20 = .ok (.return_, 1) := by decide +kernel
theorem dX3_lookAtTime_0 : decode cX3_lookAtTime 0 = .ok (.iload_n 0, 1) := by decide +kernel
theorem dX3_lookAtTime_1 : decode cX3_lookAtTime 1 = .ok (.iconst 0, 1) := by decide +kernel
theorem dX3_lookAtTime_2 : decode cX3_lookAtTime 2 = .ok (.sipush 255, 3) := by decide +kernel
theorem dX3_lookAtTime_5 : decode cX3_lookAtTime 5 = .ok (.invokestatic 41, 3) := by decide +kernel
theorem dX3_lookAtTime_8 : decode cX3_lookAtTime 8 = .ok (.ifCond .eq 14, 3) := by decide +kernel
theorem dX3_lookAtTime_11 : decode cX3_lookAtTime 11 = .ok (.new 45, 3) := by decide +kernel
theorem dX3_lookAtTime_14 : decode cX3_lookAtTime 14 = .ok (.dup, 1) := by decide +kernel
theorem dX3_lookAtTime_15 : decode cX3_lookAtTime 15 = .ok (.ldc_w 268, 3) := by decide +kernel
theorem dX3_lookAtTime_18 : decode cX3_lookAtTime 18 = .ok (.invokespecial 49, 3) := by decide +kernel
theorem dX3_lookAtTime_21 : decode cX3_lookAtTime 21 = .ok (.athrow, 1) := by decide +kernel
theorem dX3_lookAtTime_22 : decode cX3_lookAtTime 22 = .ok (.return_, 1) := by decide +kernel
theorem dX3_lookAtLine_0 : decode cX3_lookAtLine 0 = .ok (.iload_n 0, 1) := by decide +kernel
theorem dX3_lookAtLine_1 : decode cX3_lookAtLine 1 = .ok (.iconst 0, 1) := by decide +kernel
theorem dX3_lookAtLine_2 : decode cX3_lookAtLine 2 = .ok (.bipush 31, 2) := by decide +kernel
theorem dX3_lookAtLine_4 : decode cX3_lookAtLine 4 = .ok (.invokestatic 41, 3) := by decide +kernel
theorem dX3_lookAtLine_7 : decode cX3_lookAtLine 7 = .ok (.ifCond .eq 13, 3) := by decide +kernel
theorem dX3_lookAtLine_10 : decode cX3_lookAtLine 10 = .ok (.new 45, 3) := by decide +kernel
theorem dX3_lookAtLine_13 : decode cX3_lookAtLine 13 = .ok (.dup, 1) := by decide +kernel
theorem dX3_lookAtLine_14 : decode cX3_lookAtLine 14 = .ok (.ldc 99, 2) := by decide +kernel
theorem dX3_lookAtLine_16 : decode cX3_lookAtLine 16 = .ok (.invokespecial 49, 3) := by decide +kernel
theorem dX3_lookAtLine_19 : decode cX3_lookAtLine 19 = .ok (.athrow, 1) := by decide +kernel
theorem dX3_lookAtLine_20 : decode cX3_lookAtLine 20 = .ok (.return_, 1) := by decide +kernel
theorem dX3_lookForRoom_0 : decode cX3_lookForRoom 0 = .ok (.aload_n 0, 1) := by decide +kernel
theorem dX3_lookForRoom_1 : decode cX3_lookForRoom 1 = .ok (.getfield 198, 3) := by decide +kernel
theorem dX3_lookForRoom_4 : decode cX3_lookForRoom 4 = .ok (.bipush 40, 2) := by decide +kernel
theorem dX3_lookForRoom_6 : decode cX3_lookForRoom 6 = .ok (.if_icmp .lt 14, 3) := by decide +kernel
theorem dX3_lookForRoom_9 : decode cX3_lookForRoom 9 = .ok (.new 55, 3) := by decide +kernel
theorem dX3_lookForRoom_12 : decode cX3_lookForRoom 12 = .ok (.dup, 1) := by decide +kernel
theorem dX3_lookForRoom_13 : decode cX3_lookForRoom 13 = .ok (.ldc_w 270, 3) := by decide +kernel
theorem dX3_lookForRoom_16 : decode cX3_lookForRoom 16 = .ok (.invokespecial 59, 3) := by decide +kernel
theorem dX3_lookForRoom_19 : decode cX3_lookForRoom 19 = .ok (.athrow, 1) := by decide +kernel
theorem dX3_lookForRoom_20 : decode cX3_lookForRoom 20 = .ok (.return_, 1) := by decide +kernel
theorem dX3_cosine_0 : decode cX3_cosine 0 = .ok (.getstatic 272, 3) := by decide +kernel
theorem dX3_cosine_3 : decode cX3_cosine 3 = .ok (.iload_n 0, 1) := by decide +kernel
theorem dX3_cosine_4 : decode cX3_cosine 4 = .ok (.bipush 63, 2) := by decide +kernel
theorem dX3_cosine_6 : decode cX3_cosine 6 = .ok (.iand, 1) := by decide +kernel
theorem dX3_cosine_7 : decode cX3_cosine 7 = .ok (.iaload, 1) := by decide +kernel
theorem dX3_cosine_8 : decode cX3_cosine 8 = .ok (.ireturn, 1) := by decide +kernel
theorem dX3_sine_0 : decode cX3_sine 0 = .ok (.iload_n 0, 1) := by decide +kernel
theorem dX3_sine_1 : decode cX3_sine 1 = .ok (.bipush 16, 2) := by decide +kernel
theorem dX3_sine_3 : decode cX3_sine 3 = .ok (.isub, 1) := by decide +kernel
theorem dX3_sine_4 : decode cX3_sine 4 = .ok (.invokestatic 275, 3) := by decide +kernel
theorem dX3_sine_7 : decode cX3_sine 7 = .ok (.ireturn, 1) := by decide +kernel
theorem dX3_bit_0 : decode cX3_bit 0 = .ok (.lconst 1, 1) := by decide +kernel
theorem dX3_bit_1 : decode cX3_bit 1 = .ok (.iload_n 0, 1) := by decide +kernel
theorem dX3_bit_2 : decode cX3_bit 2 = .ok (.lshl, 1) := by decide +kernel
theorem dX3_bit_3 : decode cX3_bit 3 = .ok (.lreturn, 1) := by decide +kernel
theorem dX3_standsOut_0 : decode cX3_standsOut 0 = .ok (.iload_n 3, 1) := by decide +kernel
theorem dX3_standsOut_1 : decode cX3_standsOut 1 = .ok (.iconst 1, 1) := by decide +kernel
theorem dX3_standsOut_2 : decode cX3_standsOut 2 = .ok (.bipush 30, 2) := by decide +kernel
theorem dX3_standsOut_4 : decode cX3_standsOut 4 = .ok (.invokestatic 41, 3) := by decide +kernel
theorem dX3_standsOut_7 : decode cX3_standsOut 7 = .ok (.ifCond .eq 5, 3) := by decide +kernel
theorem dX3_standsOut_10 : decode cX3_standsOut 10 = .ok (.iconst 0, 1) := by decide +kernel
theorem dX3_standsOut_11 : decode cX3_standsOut 11 = .ok (.ireturn, 1) := by decide +kernel
theorem dX3_standsOut_12 : decode cX3_standsOut 12 = .ok (.aload_n 0, 1) := by decide +kernel
theorem dX3_standsOut_13 : decode cX3_standsOut 13 = .ok (.getfield 37, 3) := by decide +kernel
theorem dX3_standsOut_16 : decode cX3_standsOut 16 = .ok (.aload_n 1, 1) := by decide +kernel
theorem dX3_standsOut_17 : decode cX3_standsOut 17 = .ok (.aload_n 0, 1) := by decide +kernel
theorem dX3_standsOut_18 : decode cX3_standsOut 18 = .ok (.getfield 20, 3) := by decide +kernel
theorem dX3_standsOut_21 : decode cX3_standsOut 21 = .ok (.iload_n 2, 1) := by decide +kernel
theorem dX3_standsOut_22 : decode cX3_standsOut 22 = .ok (.aload_n 1, 1) := by decide +kernel
theorem dX3_standsOut_23 : decode cX3_standsOut 23 = .ok (.getfield 101, 3) := by decide +kernel
theorem dX3_standsOut_26 : decode cX3_standsOut 26 = .ok (.invokevirtual 240, 3) := by decide +kernel
theorem dX3_standsOut_29 : decode cX3_standsOut 29 = .ok (.aload_n 0, 1) := by decide +kernel
theorem dX3_standsOut_30 : decode cX3_standsOut 30 = .ok (.getfield 37, 3) := by decide +kernel
theorem dX3_standsOut_33 : decode cX3_standsOut 33 = .ok (.iload_n 3, 1) := by decide +kernel
theorem dX3_standsOut_34 : decode cX3_standsOut 34 = .ok (.invokevirtual 127, 3) := by decide +kernel
theorem dX3_standsOut_37 : decode cX3_standsOut 37 = .ok (.lstore 4, 2) := by decide +kernel
theorem dX3_standsOut_39 : decode cX3_standsOut 39 = .ok (.lload 4, 2) := by decide +kernel
theorem dX3_standsOut_41 : decode cX3_standsOut 41 = .ok (.aload_n 0, 1) := by decide +kernel
theorem dX3_standsOut_42 : decode cX3_standsOut 42 = .ok (.getfield 24, 3) := by decide +kernel
theorem dX3_standsOut_45 : decode cX3_standsOut 45 = .ok (.i2l, 1) := by decide +kernel
theorem dX3_standsOut_46 : decode cX3_standsOut 46 = .ok (.lcmp, 1) := by decide +kernel
theorem dX3_standsOut_47 : decode cX3_standsOut 47 = .ok (.ifCond .lt 39, 3) := by decide +kernel
theorem dX3_standsOut_50 : decode cX3_standsOut 50 = .ok (.lload 4, 2) := by decide +kernel
theorem dX3_standsOut_52 : decode cX3_standsOut 52 = .ok (.aload_n 0, 1) := by decide +kernel
theorem dX3_standsOut_53 : decode cX3_standsOut 53 = .ok (.getfield 37, 3) := by decide +kernel
theorem dX3_standsOut_56 : decode cX3_standsOut 56 = .ok (.iload_n 3, 1) := by decide +kernel
theorem dX3_standsOut_57 : decode cX3_standsOut 57 = .ok (.iconst 1, 1) := by decide +kernel
theorem dX3_standsOut_58 : decode cX3_standsOut 58 = .ok (.isub, 1) := by decide +kernel
theorem dX3_standsOut_59 : decode cX3_standsOut 59 = .ok (.invokevirtual 127, 3) := by decide +kernel
theorem dX3_standsOut_62 : decode cX3_standsOut 62 = .ok (.lcmp, 1) := by decide +kernel
theorem dX3_standsOut_63 : decode cX3_standsOut 63 = .ok (.ifCond .le 23, 3) := by decide +kernel
theorem dX3_standsOut_66 : decode cX3_standsOut 66 = .ok (.lload 4, 2) := by decide +kernel
theorem dX3_standsOut_68 : decode cX3_standsOut 68 = .ok (.aload_n 0, 1) := by decide +kernel
theorem dX3_standsOut_69 : decode cX3_standsOut 69 = .ok (.getfield 37, 3) := by decide +kernel
theorem dX3_standsOut_72 : decode cX3_standsOut 72 = .ok (.iload_n 3, 1) := by decide +kernel
theorem dX3_standsOut_73 : decode cX3_standsOut 73 = .ok (.iconst 1, 1) := by decide +kernel
theorem dX3_standsOut_74 : decode cX3_standsOut 74 = .ok (.iadd, 1) := by decide +kernel
theorem dX3_standsOut_75 : decode cX3_standsOut 75 = .ok (.invokevirtual 127, 3) := by decide +kernel
theorem dX3_standsOut_78 : decode cX3_standsOut 78 = .ok (.lcmp, 1) := by decide +kernel
theorem dX3_standsOut_79 : decode cX3_standsOut 79 = .ok (.ifCond .le 7, 3) := by decide +kernel
theorem dX3_standsOut_82 : decode cX3_standsOut 82 = .ok (.iconst 1, 1) := by decide +kernel
theorem dX3_standsOut_83 : decode cX3_standsOut 83 = .ok (.goto 4, 3) := by decide +kernel
theorem dX3_standsOut_86 : decode cX3_standsOut 86 = .ok (.iconst 0, 1) := by decide +kernel
theorem dX3_standsOut_87 : decode cX3_standsOut 87 = .ok (.ireturn, 1) := by decide +kernel
theorem dX3_enter_0 : decode cX3_enter 0 = .ok (.aload_n 0, 1) := by decide +kernel
theorem dX3_enter_1 : decode cX3_enter 1 = .ok (.getfield 198, 3) := by decide +kernel
theorem dX3_enter_4 : decode cX3_enter 4 = .ok (.bipush 40, 2) := by decide +kernel
theorem dX3_enter_6 : decode cX3_enter 6 = .ok (.if_icmp .ge 23, 3) := by decide +kernel
theorem dX3_enter_9 : decode cX3_enter 9 = .ok (.aload_n 0, 1) := by decide +kernel
theorem dX3_enter_10 : decode cX3_enter 10 = .ok (.getfield 30, 3) := by decide +kernel
theorem dX3_enter_13 : decode cX3_enter 13 = .ok (.aload_n 0, 1) := by decide +kernel
theorem dX3_enter_14 : decode cX3_enter 14 = .ok (.getfield 198, 3) := by decide +kernel
theorem dX3_enter_17 : decode cX3_enter 17 = .ok (.aload_n 1, 1) := by decide +kernel
theorem dX3_enter_18 : decode cX3_enter 18 = .ok (.aastore, 1) := by decide +kernel
theorem dX3_enter_19 : decode cX3_enter 19 = .ok (.aload_n 0, 1) := by decide +kernel
theorem dX3_enter_20 : decode cX3_enter 20 = .ok (.dup, 1) := by decide +kernel
theorem dX3_enter_21 : decode cX3_enter 21 = .ok (.getfield 198, 3) := by decide +kernel
theorem dX3_enter_24 : decode cX3_enter 24 = .ok (.iconst 1, 1) := by decide +kernel
theorem dX3_enter_25 : decode cX3_enter 25 = .ok (.iadd, 1) := by decide +kernel
theorem dX3_enter_26 : decode cX3_enter 26 = .ok (.putfield 198, 3) := by decide +kernel
theorem dX3_enter_29 : decode cX3_enter 29 = .ok (.aload_n 0, 1) := by decide +kernel
theorem dX3_enter_30 : decode cX3_enter 30 = .ok (.getfield 198, 3) := by decide +kernel
theorem dX3_enter_33 : decode cX3_enter 33 = .ok (.iconst 1, 1) := by decide +kernel
theorem dX3_enter_34 : decode cX3_enter 34 = .ok (.isub, 1) := by decide +kernel
theorem dX3_enter_35 : decode cX3_enter 35 = .ok (.ireturn, 1) := by decide +kernel
theorem dX3_ageOfNearest_0 : decode cX3_ageOfNearest 0 = .ok (.aconst_null, 1) := by decide +kernel
theorem dX3_ageOfNearest_1 : decode cX3_ageOfNearest 1 = .ok (.astore_n 2, 1) := by decide +kernel
theorem dX3_ageOfNearest_2 : decode cX3_ageOfNearest 2 = .ok (.iconst 0, 1) := by decide +kernel
theorem dX3_ageOfNearest_3 : decode cX3_ageOfNearest 3 = .ok (.istore_n 3, 1) := by decide +kernel
theorem dX3_ageOfNearest_4 : decode cX3_ageOfNearest 4 = .ok (.iload_n 3, 1) := by decide +kernel
theorem dX3_ageOfNearest_5 : decode cX3_ageOfNearest 5 = .ok (.aload_n 0, 1) := by decide +kernel
theorem dX3_ageOfNearest_6 : decode cX3_ageOfNearest 6 = .ok (.getfield 66, 3) := by decide +kernel
theorem dX3_ageOfNearest_9 : decode cX3_ageOfNearest 9 = .ok (.if_icmp .ge 43, 3) := by decide +kernel
theorem dX3_ageOfNearest_12 : decode cX3_ageOfNearest 12 = .ok (.aload_n 0, 1) := by decide +kernel
theorem dX3_ageOfNearest_13 : decode cX3_ageOfNearest 13 = .ok (.getfield 11, 3) := by decide +kernel
theorem dX3_ageOfNearest_16 : decode cX3_ageOfNearest 16 = .ok (.iload_n 3, 1) := by decide +kernel
theorem dX3_ageOfNearest_17 : decode cX3_ageOfNearest 17 = .ok (.aaload, 1) := by decide +kernel
theorem dX3_ageOfNearest_18 : decode cX3_ageOfNearest 18 = .ok (.astore 4, 2) := by decide +kernel
theorem dX3_ageOfNearest_20 : decode cX3_ageOfNearest 20 = .ok (.aload 4, 2) := by decide +kernel
theorem dX3_ageOfNearest_22 : decode cX3_ageOfNearest 22 = .ok (.ifnull 24, 3) := by decide +kernel
theorem dX3_ageOfNearest_25 : decode cX3_ageOfNearest 25 = .ok (.aload_n 2, 1) := by decide +kernel
theorem dX3_ageOfNearest_26 : decode cX3_ageOfNearest 26 = .ok (.ifnull 17, 3) := by decide +kernel
theorem dX3_ageOfNearest_29 : decode cX3_ageOfNearest 29 = .ok (.aload 4, 2) := by decide +kernel
theorem dX3_ageOfNearest_31 : decode cX3_ageOfNearest 31 = .ok (.iload_n 1, 1) := by decide +kernel
theorem dX3_ageOfNearest_32 : decode cX3_ageOfNearest 32 = .ok (.invokevirtual 278, 3) := by decide +kernel
theorem dX3_ageOfNearest_35 : decode cX3_ageOfNearest 35 = .ok (.aload_n 2, 1) := by decide +kernel
theorem dX3_ageOfNearest_36 : decode cX3_ageOfNearest 36 = .ok (.iload_n 1, 1) := by decide +kernel
theorem dX3_ageOfNearest_37 : decode cX3_ageOfNearest 37 = .ok (.invokevirtual 278, 3) := by decide +kernel
theorem dX3_ageOfNearest_40 : decode cX3_ageOfNearest 40 = .ok (.if_icmp .ge 6, 3) := by decide +kernel
theorem dX3_ageOfNearest_43 : decode cX3_ageOfNearest 43 = .ok (.aload 4, 2) := by decide +kernel
theorem dX3_ageOfNearest_45 : decode cX3_ageOfNearest 45 = .ok (.astore_n 2, 1) := by decide +kernel
theorem dX3_ageOfNearest_46 : decode cX3_ageOfNearest 46 = .ok (.iinc 3 1, 3) := by decide +kernel
theorem dX3_ageOfNearest_49 : decode cX3_ageOfNearest 49 = .ok (.goto (-45), 3) := by decide +kernel
theorem dX3_ageOfNearest_52 : decode cX3_ageOfNearest 52 = .ok (.aload_n 2, 1) := by decide +kernel
theorem dX3_ageOfNearest_53 : decode cX3_ageOfNearest 53 = .ok (.ifnonnull 7, 3) := by decide +kernel
theorem dX3_ageOfNearest_56 : decode cX3_ageOfNearest 56 = .ok (.iconst (-1), 1) := by decide +kernel
theorem dX3_ageOfNearest_57 : decode cX3_ageOfNearest 57 = .ok (.goto 7, 3) := by decide +kernel
theorem dX3_ageOfNearest_60 : decode cX3_ageOfNearest 60 = .ok (.aload_n 2, 1) := by decide +kernel
theorem dX3_ageOfNearest_61 : decode cX3_ageOfNearest 61 = .ok (.getfield 205, 3) := by decide +kernel
theorem dX3_ageOfNearest_64 : decode cX3_ageOfNearest 64 = .ok (.ireturn, 1) := by decide +kernel
theorem dX3_withdrawAll_0 : decode cX3_withdrawAll 0 = .ok (.lconst 0, 1) := by decide +kernel
theorem dX3_withdrawAll_1 : decode cX3_withdrawAll 1 = .ok (.lstore_n 3, 1) := by decide +kernel
theorem dX3_withdrawAll_2 : decode cX3_withdrawAll 2 = .ok (.iconst 0, 1) := by decide +kernel
theorem dX3_withdrawAll_3 : decode cX3_withdrawAll 3 = .ok (.istore 5, 2) := by decide +kernel
theorem dX3_withdrawAll_5 : decode cX3_withdrawAll 5 = .ok (.iload 5, 2) := by decide +kernel
theorem dX3_withdrawAll_7 : decode cX3_withdrawAll 7 = .ok (.aload_n 0, 1) := by decide +kernel
theorem dX3_withdrawAll_8 : decode cX3_withdrawAll 8 = .ok (.getfield 198, 3) := by decide +kernel
theorem dX3_withdrawAll_11 : decode cX3_withdrawAll 11 = .ok (.if_icmp .ge 86, 3) := by decide +kernel
theorem dX3_withdrawAll_14 : decode cX3_withdrawAll 14 = .ok (.aload_n 0, 1) := by decide +kernel
theorem dX3_withdrawAll_15 : decode cX3_withdrawAll 15 = .ok (.getfield 30, 3) := by decide +kernel
theorem dX3_withdrawAll_18 : decode cX3_withdrawAll 18 = .ok (.iload 5, 2) := by decide +kernel
theorem dX3_withdrawAll_20 : decode cX3_withdrawAll 20 = .ok (.aaload, 1) := by decide +kernel
theorem dX3_withdrawAll_21 : decode cX3_withdrawAll 21 = .ok (.astore 6, 2) := by decide +kernel
theorem dX3_withdrawAll_23 : decode cX3_withdrawAll 23 = .ok (.lload_n 1, 1) := by decide +kernel
theorem dX3_withdrawAll_24 : decode cX3_withdrawAll 24 = .ok (.iload 5, 2) := by decide +kernel
theorem dX3_withdrawAll_26 : decode cX3_withdrawAll 26 = .ok (.invokestatic 175, 3) := by decide +kernel
theorem dX3_withdrawAll_29 : decode cX3_withdrawAll 29 = .ok (.land, 1) := by decide +kernel
theorem dX3_withdrawAll_30 : decode cX3_withdrawAll 30 = .ok (.lconst 0, 1) := by decide +kernel
theorem dX3_withdrawAll_31 : decode cX3_withdrawAll 31 = .ok (.lcmp, 1) := by decide +kernel
theorem dX3_withdrawAll_32 : decode cX3_withdrawAll 32 = .ok (.ifCond .ne 20, 3) := by decide +kernel
theorem dX3_withdrawAll_35 : decode cX3_withdrawAll 35 = .ok (.aload 6, 2) := by decide +kernel
theorem dX3_withdrawAll_37 : decode cX3_withdrawAll 37 = .ok (.ifnull 19, 3) := by decide +kernel
theorem dX3_withdrawAll_40 : decode cX3_withdrawAll 40 = .ok (.aload 6, 2) := by decide +kernel
theorem dX3_withdrawAll_42 : decode cX3_withdrawAll 42 = .ok (.getfield 178, 3) := by decide +kernel
theorem dX3_withdrawAll_45 : decode cX3_withdrawAll 45 = .ok (.lload_n 3, 1) := by decide +kernel
theorem dX3_withdrawAll_46 : decode cX3_withdrawAll 46 = .ok (.land, 1) := by decide +kernel
theorem dX3_withdrawAll_47 : decode cX3_withdrawAll 47 = .ok (.lconst 0, 1) := by decide +kernel
theorem dX3_withdrawAll_48 : decode cX3_withdrawAll 48 = .ok (.lcmp, 1) := by decide +kernel
theorem dX3_withdrawAll_49 : decode cX3_withdrawAll 49 = .ok (.ifCond .eq 7, 3) := by decide +kernel
theorem dX3_withdrawAll_52 : decode cX3_withdrawAll 52 = .ok (.iconst 1, 1) := by decide +kernel
theorem dX3_withdrawAll_53 : decode cX3_withdrawAll 53 = .ok (.goto 4, 3) := by decide +kernel
theorem dX3_withdrawAll_56 : decode cX3_withdrawAll 56 = .ok (.iconst 0, 1) := by decide +kernel
theorem dX3_withdrawAll_57 : decode cX3_withdrawAll 57 = .ok (.istore 7, 2) := by decide +kernel
theorem dX3_withdrawAll_59 : decode cX3_withdrawAll 59 = .ok (.aload 6, 2) := by decide +kernel
theorem dX3_withdrawAll_61 : decode cX3_withdrawAll 61 = .ok (.ifnull 30, 3) := by decide +kernel
theorem dX3_withdrawAll_64 : decode cX3_withdrawAll 64 = .ok (.aload 6, 2) := by decide +kernel
theorem dX3_withdrawAll_66 : decode cX3_withdrawAll 66 = .ok (.getfield 156, 3) := by decide +kernel
theorem dX3_withdrawAll_69 : decode cX3_withdrawAll 69 = .ok (.ifCond .eq 22, 3) := by decide +kernel
theorem dX3_withdrawAll_72 : decode cX3_withdrawAll 72 = .ok (.iload 7, 2) := by decide +kernel
theorem dX3_withdrawAll_74 : decode cX3_withdrawAll 74 = .ok (.ifCond .eq 17, 3) := by decide +kernel
theorem dX3_withdrawAll_77 : decode cX3_withdrawAll 77 = .ok (.aload 6, 2) := by decide +kernel
theorem dX3_withdrawAll_79 : decode cX3_withdrawAll 79 = .ok (.iconst 0, 1) := by decide +kernel
theorem dX3_withdrawAll_80 : decode cX3_withdrawAll 80 = .ok (.putfield 156, 3) := by decide +kernel
theorem dX3_withdrawAll_83 : decode cX3_withdrawAll 83 = .ok (.lload_n 3, 1) := by decide +kernel
theorem dX3_withdrawAll_84 : decode cX3_withdrawAll 84 = .ok (.iload 5, 2) := by decide +kernel
theorem dX3_withdrawAll_86 : decode cX3_withdrawAll 86 = .ok (.invokestatic 175, 3) := by decide +kernel
theorem dX3_withdrawAll_89 : decode cX3_withdrawAll 89 = .ok (.lor, 1) := by decide +kernel
theorem dX3_withdrawAll_90 : decode cX3_withdrawAll 90 = .ok (.lstore_n 3, 1) := by decide +kernel
theorem dX3_withdrawAll_91 : decode cX3_withdrawAll 91 = .ok (.iinc 5 1, 3) := by decide +kernel
theorem dX3_withdrawAll_94 : decode cX3_withdrawAll 94 = .ok (.goto (-89), 3) := by decide +kernel
theorem dX3_withdrawAll_97 : decode cX3_withdrawAll 97 = .ok (.lload_n 3, 1) := by decide +kernel
theorem dX3_withdrawAll_98 : decode cX3_withdrawAll 98 = .ok (.invokestatic 189, 3) := by decide +kernel
theorem dX3_withdrawAll_101 : decode cX3_withdrawAll 101 = .ok (.ireturn, 1) := by decide +kernel
theorem dX3_holds_0 : decode cX3_holds 0 = .ok (.aload_n 1, 1) := by decide +kernel
theorem dX3_holds_1 : decode cX3_holds 1 = .ok (.getfield 148, 3) := by decide +kernel
theorem dX3_holds_4 : decode cX3_holds 4 = .ok (.ifCond .lt 26, 3) := by decide +kernel
theorem dX3_holds_7 : decode cX3_holds 7 = .ok (.aload_n 1, 1) := by decide +kernel
theorem dX3_holds_8 : decode cX3_holds 8 = .ok (.getfield 148, 3) := by decide +kernel
theorem dX3_holds_11 : decode cX3_holds 11 = .ok (.aload_n 0, 1) := by decide +kernel
theorem dX3_holds_12 : decode cX3_holds 12 = .ok (.getfield 66, 3) := by decide +kernel
theorem dX3_holds_15 : decode cX3_holds 15 = .ok (.if_icmp .ge 15, 3) := by decide +kernel
theorem dX3_holds_18 : decode cX3_holds 18 = .ok (.aload_n 0, 1) := by decide +kernel
theorem dX3_holds_19 : decode cX3_holds 19 = .ok (.getfield 11, 3) := by decide +kernel
theorem dX3_holds_22 : decode cX3_holds 22 = .ok (.aload_n 1, 1) := by decide +kernel
theorem dX3_holds_23 : decode cX3_holds 23 = .ok (.getfield 148, 3) := by decide +kernel
theorem dX3_holds_26 : decode cX3_holds 26 = .ok (.aaload, 1) := by decide +kernel
theorem dX3_holds_27 : decode cX3_holds 27 = .ok (.ifnonnull 5, 3) := by decide +kernel
theorem dX3_holds_30 : decode cX3_holds 30 = .ok (.iconst 0, 1) := by decide +kernel
theorem dX3_holds_31 : decode cX3_holds 31 = .ok (.ireturn, 1) := by decide +kernel
theorem dX3_holds_32 : decode cX3_holds 32 = .ok (.aload_n 0, 1) := by decide +kernel
theorem dX3_holds_33 : decode cX3_holds 33 = .ok (.getfield 11, 3) := by decide +kernel
theorem dX3_holds_36 : decode cX3_holds 36 = .ok (.aload_n 1, 1) := by decide +kernel
theorem dX3_holds_37 : decode cX3_holds 37 = .ok (.getfield 148, 3) := by decide +kernel
theorem dX3_holds_40 : decode cX3_holds 40 = .ok (.aaload, 1) := by decide +kernel
theorem dX3_holds_41 : decode cX3_holds 41 = .ok (.astore_n 2, 1) := by decide +kernel
theorem dX3_holds_42 : decode cX3_holds 42 = .ok (.aload_n 1, 1) := by decide +kernel
theorem dX3_holds_43 : decode cX3_holds 43 = .ok (.getfield 143, 3) := by decide +kernel
theorem dX3_holds_46 : decode cX3_holds 46 = .ok (.ifCond .ne 55, 3) := by decide +kernel
theorem dX3_holds_49 : decode cX3_holds 49 = .ok (.aload_n 0, 1) := by decide +kernel
theorem dX3_holds_50 : decode cX3_holds 50 = .ok (.getfield 37, 3) := by decide +kernel
theorem dX3_holds_53 : decode cX3_holds 53 = .ok (.aload_n 2, 1) := by decide +kernel
theorem dX3_holds_54 : decode cX3_holds 54 = .ok (.aload_n 0, 1) := by decide +kernel
theorem dX3_holds_55 : decode cX3_holds 55 = .ok (.getfield 20, 3) := by decide +kernel
theorem dX3_holds_58 : decode cX3_holds 58 = .ok (.aload_n 1, 1) := by decide +kernel
theorem dX3_holds_59 : decode cX3_holds 59 = .ok (.getfield 123, 3) := by decide +kernel
theorem dX3_holds_62 : decode cX3_holds 62 = .ok (.aload_n 1, 1) := by decide +kernel
theorem dX3_holds_63 : decode cX3_holds 63 = .ok (.getfield 126, 3) := by decide +kernel
theorem dX3_holds_66 : decode cX3_holds 66 = .ok (.aload_n 2, 1) := by decide +kernel
theorem dX3_holds_67 : decode cX3_holds 67 = .ok (.getfield 101, 3) := by decide +kernel
theorem dX3_holds_70 : decode cX3_holds 70 = .ok (.invokestatic 281, 3) := by decide +kernel
theorem dX3_holds_73 : decode cX3_holds 73 = .ok (.invokevirtual 240, 3) := by decide +kernel
theorem dX3_holds_76 : decode cX3_holds 76 = .ok (.aload_n 0, 1) := by decide +kernel
theorem dX3_holds_77 : decode cX3_holds 77 = .ok (.getfield 37, 3) := by decide +kernel
theorem dX3_holds_80 : decode cX3_holds 80 = .ok (.aload_n 1, 1) := by decide +kernel
theorem dX3_holds_81 : decode cX3_holds 81 = .ok (.getfield 151, 3) := by decide +kernel
theorem dX3_holds_84 : decode cX3_holds 84 = .ok (.invokevirtual 127, 3) := by decide +kernel
theorem dX3_holds_87 : decode cX3_holds 87 = .ok (.aload_n 1, 1) := by decide +kernel
theorem dX3_holds_88 : decode cX3_holds 88 = .ok (.getfield 131, 3) := by decide +kernel
theorem dX3_holds_91 : decode cX3_holds 91 = .ok (.lcmp, 1) := by decide +kernel
theorem dX3_holds_92 : decode cX3_holds 92 = .ok (.ifCond .ne 7, 3) := by decide +kernel
theorem dX3_holds_95 : decode cX3_holds 95 = .ok (.iconst 1, 1) := by decide +kernel
theorem dX3_holds_96 : decode cX3_holds 96 = .ok (.goto 4, 3) := by decide +kernel
theorem dX3_holds_99 : decode cX3_holds 99 = .ok (.iconst 0, 1) := by decide +kernel
theorem dX3_holds_100 : decode cX3_holds 100 = .ok (.ireturn, 1) := by decide +kernel
theorem dX3_holds_101 : decode cX3_holds 101 = .ok (.aload_n 1, 1) := by decide +kernel
theorem dX3_holds_102 : decode cX3_holds 102 = .ok (.getfield 143, 3) := by decide +kernel
theorem dX3_holds_105 : decode cX3_holds 105 = .ok (.iconst 2, 1) := by decide +kernel
theorem dX3_holds_106 : decode cX3_holds 106 = .ok (.if_icmp .ne 17, 3) := by decide +kernel
theorem dX3_holds_109 : decode cX3_holds 109 = .ok (.aload_n 2, 1) := by decide +kernel
theorem dX3_holds_110 : decode cX3_holds 110 = .ok (.ldc 162, 2) := by decide +kernel
theorem dX3_holds_112 : decode cX3_holds 112 = .ok (.aload_n 1, 1) := by decide +kernel
theorem dX3_holds_113 : decode cX3_holds 113 = .ok (.getfield 151, 3) := by decide +kernel
theorem dX3_holds_116 : decode cX3_holds 116 = .ok (.imul, 1) := by decide +kernel
theorem dX3_holds_117 : decode cX3_holds 117 = .ok (.invokevirtual 285, 3) := by decide +kernel
theorem dX3_holds_120 : decode cX3_holds 120 = .ok (.ifCond .ne 7, 3) := by decide +kernel
theorem dX3_holds_123 : decode cX3_holds 123 = .ok (.iconst 1, 1) := by decide +kernel
theorem dX3_holds_124 : decode cX3_holds 124 = .ok (.goto 4, 3) := by decide +kernel
theorem dX3_holds_127 : decode cX3_holds 127 = .ok (.iconst 0, 1) := by decide +kernel
theorem dX3_holds_128 : decode cX3_holds 128 = .ok (.ireturn, 1) := by decide +kernel
theorem dJ13_bitCount_95d88_0 : decode cJ13_bitCount_95d88 0 = .ok (.lload_n 0, 1) := by decide +kernel
theorem dJ13_bitCount_95d88_1 : decode cJ13_bitCount_95d88 1 = .ok (.lload_n 0, 1) := by decide +kernel
theorem dJ13_bitCount_95d88_2 : decode cJ13_bitCount_95d88 2 = .ok (.iconst 1, 1) := by decide +kernel
theorem dJ13_bitCount_95d88_3 : decode cJ13_bitCount_95d88 3 = .ok (.lushr, 1) := by decide +kernel
theorem dJ13_bitCount_95d88_4 : decode cJ13_bitCount_95d88 4 = .ok (.ldc2_w 314, 3) := by decide +kernel
theorem dJ13_bitCount_95d88_7 : decode cJ13_bitCount_95d88 7 = .ok (.land, 1) := by decide +kernel
theorem dJ13_bitCount_95d88_8 : decode cJ13_bitCount_95d88 8 = .ok (.lsub, 1) := by decide +kernel
theorem dJ13_bitCount_95d88_9 : decode cJ13_bitCount_95d88 9 = .ok (.lstore_n 0, 1) := by decide +kernel
theorem dJ13_bitCount_95d88_10 : decode cJ13_bitCount_95d88 10 = .ok (.lload_n 0, 1) := by decide +kernel
theorem dJ13_bitCount_95d88_11 : decode cJ13_bitCount_95d88 11 = .ok (.ldc2_w 316, 3) := by decide +kernel
theorem dJ13_bitCount_95d88_14 : decode cJ13_bitCount_95d88 14 = .ok (.land, 1) := by decide +kernel
theorem dJ13_bitCount_95d88_15 : decode cJ13_bitCount_95d88 15 = .ok (.lload_n 0, 1) := by decide +kernel
theorem dJ13_bitCount_95d88_16 : decode cJ13_bitCount_95d88 16 = .ok (.iconst 2, 1) := by decide +kernel
theorem dJ13_bitCount_95d88_17 : decode cJ13_bitCount_95d88 17 = .ok (.lushr, 1) := by decide +kernel
theorem dJ13_bitCount_95d88_18 : decode cJ13_bitCount_95d88 18 = .ok (.ldc2_w 316, 3) := by decide +kernel
theorem dJ13_bitCount_95d88_21 : decode cJ13_bitCount_95d88 21 = .ok (.land, 1) := by decide +kernel
theorem dJ13_bitCount_95d88_22 : decode cJ13_bitCount_95d88 22 = .ok (.ladd, 1) := by decide +kernel
theorem dJ13_bitCount_95d88_23 : decode cJ13_bitCount_95d88 23 = .ok (.lstore_n 0, 1) := by decide +kernel
theorem dJ13_bitCount_95d88_24 : decode cJ13_bitCount_95d88 24 = .ok (.lload_n 0, 1) := by decide +kernel
theorem dJ13_bitCount_95d88_25 : decode cJ13_bitCount_95d88 25 = .ok (.lload_n 0, 1) := by decide +kernel
theorem dJ13_bitCount_95d88_26 : decode cJ13_bitCount_95d88 26 = .ok (.iconst 4, 1) := by decide +kernel
theorem dJ13_bitCount_95d88_27 : decode cJ13_bitCount_95d88 27 = .ok (.lushr, 1) := by decide +kernel
theorem dJ13_bitCount_95d88_28 : decode cJ13_bitCount_95d88 28 = .ok (.ladd, 1) := by decide +kernel
theorem dJ13_bitCount_95d88_29 : decode cJ13_bitCount_95d88 29 = .ok (.ldc2_w 318, 3) := by decide +kernel
theorem dJ13_bitCount_95d88_32 : decode cJ13_bitCount_95d88 32 = .ok (.land, 1) := by decide +kernel
theorem dJ13_bitCount_95d88_33 : decode cJ13_bitCount_95d88 33 = .ok (.lstore_n 0, 1) := by decide +kernel
theorem dJ13_bitCount_95d88_34 : decode cJ13_bitCount_95d88 34 = .ok (.lload_n 0, 1) := by decide +kernel
theorem dJ13_bitCount_95d88_35 : decode cJ13_bitCount_95d88 35 = .ok (.lload_n 0, 1) := by decide +kernel
theorem dJ13_bitCount_95d88_36 : decode cJ13_bitCount_95d88 36 = .ok (.bipush 8, 2) := by decide +kernel
theorem dJ13_bitCount_95d88_38 : decode cJ13_bitCount_95d88 38 = .ok (.lushr, 1) := by decide +kernel
theorem dJ13_bitCount_95d88_39 : decode cJ13_bitCount_95d88 39 = .ok (.ladd, 1) := by decide +kernel
theorem dJ13_bitCount_95d88_40 : decode cJ13_bitCount_95d88 40 = .ok (.lstore_n 0, 1) := by decide +kernel
theorem dJ13_bitCount_95d88_41 : decode cJ13_bitCount_95d88 41 = .ok (.lload_n 0, 1) := by decide +kernel
theorem dJ13_bitCount_95d88_42 : decode cJ13_bitCount_95d88 42 = .ok (.lload_n 0, 1) := by decide +kernel
theorem dJ13_bitCount_95d88_43 : decode cJ13_bitCount_95d88 43 = .ok (.bipush 16, 2) := by decide +kernel
theorem dJ13_bitCount_95d88_45 : decode cJ13_bitCount_95d88 45 = .ok (.lushr, 1) := by decide +kernel
theorem dJ13_bitCount_95d88_46 : decode cJ13_bitCount_95d88 46 = .ok (.ladd, 1) := by decide +kernel
theorem dJ13_bitCount_95d88_47 : decode cJ13_bitCount_95d88 47 = .ok (.lstore_n 0, 1) := by decide +kernel
theorem dJ13_bitCount_95d88_48 : decode cJ13_bitCount_95d88 48 = .ok (.lload_n 0, 1) := by decide +kernel
theorem dJ13_bitCount_95d88_49 : decode cJ13_bitCount_95d88 49 = .ok (.lload_n 0, 1) := by decide +kernel
theorem dJ13_bitCount_95d88_50 : decode cJ13_bitCount_95d88 50 = .ok (.bipush 32, 2) := by decide +kernel
theorem dJ13_bitCount_95d88_52 : decode cJ13_bitCount_95d88 52 = .ok (.lushr, 1) := by decide +kernel
theorem dJ13_bitCount_95d88_53 : decode cJ13_bitCount_95d88 53 = .ok (.ladd, 1) := by decide +kernel
theorem dJ13_bitCount_95d88_54 : decode cJ13_bitCount_95d88 54 = .ok (.lstore_n 0, 1) := by decide +kernel
theorem dJ13_bitCount_95d88_55 : decode cJ13_bitCount_95d88 55 = .ok (.lload_n 0, 1) := by decide +kernel
theorem dJ13_bitCount_95d88_56 : decode cJ13_bitCount_95d88 56 = .ok (.l2i, 1) := by decide +kernel
theorem dJ13_bitCount_95d88_57 : decode cJ13_bitCount_95d88 57 = .ok (.bipush 127, 2) := by decide +kernel
theorem dJ13_bitCount_95d88_59 : decode cJ13_bitCount_95d88 59 = .ok (.iand, 1) := by decide +kernel
theorem dJ13_bitCount_95d88_60 : decode cJ13_bitCount_95d88 60 = .ok (.ireturn, 1) := by decide +kernel
theorem dJ9_floorDiv_7cf53_0 : decode cJ9_floorDiv_7cf53 0 = .ok (.iload_n 0, 1) := by decide +kernel
theorem dJ9_floorDiv_7cf53_1 : decode cJ9_floorDiv_7cf53 1 = .ok (.iload_n 1, 1) := by decide +kernel
theorem dJ9_floorDiv_7cf53_2 : decode cJ9_floorDiv_7cf53 2 = .ok (.idiv, 1) := by decide +kernel
theorem dJ9_floorDiv_7cf53_3 : decode cJ9_floorDiv_7cf53 3 = .ok (.istore_n 2, 1) := by decide +kernel
theorem dJ9_floorDiv_7cf53_4 : decode cJ9_floorDiv_7cf53 4 = .ok (.iload_n 0, 1) := by decide +kernel
theorem dJ9_floorDiv_7cf53_5 : decode cJ9_floorDiv_7cf53 5 = .ok (.iload_n 1, 1) := by decide +kernel
theorem dJ9_floorDiv_7cf53_6 : decode cJ9_floorDiv_7cf53 6 = .ok (.ixor, 1) := by decide +kernel
theorem dJ9_floorDiv_7cf53_7 : decode cJ9_floorDiv_7cf53 7 = .ok (.ifCond .ge 14, 3) := by decide +kernel
theorem dJ9_floorDiv_7cf53_10 : decode cJ9_floorDiv_7cf53 10 = .ok (.iload_n 2, 1) := by decide +kernel
theorem dJ9_floorDiv_7cf53_11 : decode cJ9_floorDiv_7cf53 11 = .ok (.iload_n 1, 1) := by decide +kernel
theorem dJ9_floorDiv_7cf53_12 : decode cJ9_floorDiv_7cf53 12 = .ok (.imul, 1) := by decide +kernel
theorem dJ9_floorDiv_7cf53_13 : decode cJ9_floorDiv_7cf53 13 = .ok (.iload_n 0, 1) := by decide +kernel
theorem dJ9_floorDiv_7cf53_14 : decode cJ9_floorDiv_7cf53 14 = .ok (.if_icmp .eq 7, 3) := by decide +kernel
theorem dJ9_floorDiv_7cf53_17 : decode cJ9_floorDiv_7cf53 17 = .ok (.iload_n 2, 1) := by decide +kernel
theorem dJ9_floorDiv_7cf53_18 : decode cJ9_floorDiv_7cf53 18 = .ok (.iconst 1, 1) := by decide +kernel
theorem dJ9_floorDiv_7cf53_19 : decode cJ9_floorDiv_7cf53 19 = .ok (.isub, 1) := by decide +kernel
theorem dJ9_floorDiv_7cf53_20 : decode cJ9_floorDiv_7cf53 20 = .ok (.ireturn, 1) := by decide +kernel
theorem dJ9_floorDiv_7cf53_21 : decode cJ9_floorDiv_7cf53 21 = .ok (.iload_n 2, 1) := by decide +kernel
theorem dJ9_floorDiv_7cf53_22 : decode cJ9_floorDiv_7cf53 22 = .ok (.ireturn, 1) := by decide +kernel
theorem dJ9_floorDiv_f86c9_0 : decode cJ9_floorDiv_f86c9 0 = .ok (.lload_n 0, 1) := by decide +kernel
theorem dJ9_floorDiv_f86c9_1 : decode cJ9_floorDiv_f86c9 1 = .ok (.lload_n 2, 1) := by decide +kernel
theorem dJ9_floorDiv_f86c9_2 : decode cJ9_floorDiv_f86c9 2 = .ok (.ldiv, 1) := by decide +kernel
theorem dJ9_floorDiv_f86c9_3 : decode cJ9_floorDiv_f86c9 3 = .ok (.lstore 4, 2) := by decide +kernel
theorem dJ9_floorDiv_f86c9_5 : decode cJ9_floorDiv_f86c9 5 = .ok (.lload_n 0, 1) := by decide +kernel
theorem dJ9_floorDiv_f86c9_6 : decode cJ9_floorDiv_f86c9 6 = .ok (.lload_n 2, 1) := by decide +kernel
theorem dJ9_floorDiv_f86c9_7 : decode cJ9_floorDiv_f86c9 7 = .ok (.lxor, 1) := by decide +kernel
theorem dJ9_floorDiv_f86c9_8 : decode cJ9_floorDiv_f86c9 8 = .ok (.lconst 0, 1) := by decide +kernel
theorem dJ9_floorDiv_f86c9_9 : decode cJ9_floorDiv_f86c9 9 = .ok (.lcmp, 1) := by decide +kernel
theorem dJ9_floorDiv_f86c9_10 : decode cJ9_floorDiv_f86c9 10 = .ok (.ifCond .ge 17, 3) := by decide +kernel
theorem dJ9_floorDiv_f86c9_13 : decode cJ9_floorDiv_f86c9 13 = .ok (.lload 4, 2) := by decide +kernel
theorem dJ9_floorDiv_f86c9_15 : decode cJ9_floorDiv_f86c9 15 = .ok (.lload_n 2, 1) := by decide +kernel
theorem dJ9_floorDiv_f86c9_16 : decode cJ9_floorDiv_f86c9 16 = .ok (.lmul, 1) := by decide +kernel
theorem dJ9_floorDiv_f86c9_17 : decode cJ9_floorDiv_f86c9 17 = .ok (.lload_n 0, 1) := by decide +kernel
theorem dJ9_floorDiv_f86c9_18 : decode cJ9_floorDiv_f86c9 18 = .ok (.lcmp, 1) := by decide +kernel
theorem dJ9_floorDiv_f86c9_19 : decode cJ9_floorDiv_f86c9 19 = .ok (.ifCond .eq 8, 3) := by decide +kernel
theorem dJ9_floorDiv_f86c9_22 : decode cJ9_floorDiv_f86c9 22 = .ok (.lload 4, 2) := by decide +kernel
theorem dJ9_floorDiv_f86c9_24 : decode cJ9_floorDiv_f86c9 24 = .ok (.lconst 1, 1) := by decide +kernel
theorem dJ9_floorDiv_f86c9_25 : decode cJ9_floorDiv_f86c9 25 = .ok (.lsub, 1) := by decide +kernel
theorem dJ9_floorDiv_f86c9_26 : decode cJ9_floorDiv_f86c9 26 = .ok (.lreturn, 1) := by decide +kernel
theorem dJ9_floorDiv_f86c9_27 : decode cJ9_floorDiv_f86c9 27 = .ok (.lload 4, 2) := by decide +kernel
theorem dJ9_floorDiv_f86c9_29 : decode cJ9_floorDiv_f86c9 29 = .ok (.lreturn, 1) := by decide +kernel
theorem dJ9_abs_0f7a4_0 : decode cJ9_abs_0f7a4 0 = .ok (.iload_n 0, 1) := by decide +kernel
theorem dJ9_abs_0f7a4_1 : decode cJ9_abs_0f7a4 1 = .ok (.ifCond .ge 8, 3) := by decide +kernel
theorem dJ9_abs_0f7a4_4 : decode cJ9_abs_0f7a4 4 = .ok (.iload_n 0, 1) := by decide +kernel
theorem dJ9_abs_0f7a4_5 : decode cJ9_abs_0f7a4 5 = .ok (.ineg, 1) := by decide +kernel
theorem dJ9_abs_0f7a4_6 : decode cJ9_abs_0f7a4 6 = .ok (.goto 4, 3) := by decide +kernel
theorem dJ9_abs_0f7a4_9 : decode cJ9_abs_0f7a4 9 = .ok (.iload_n 0, 1) := by decide +kernel
theorem dJ9_abs_0f7a4_10 : decode cJ9_abs_0f7a4 10 = .ok (.ireturn, 1) := by decide +kernel
theorem dJ9_max_7cf53_0 : decode cJ9_max_7cf53 0 = .ok (.iload_n 0, 1) := by decide +kernel
theorem dJ9_max_7cf53_1 : decode cJ9_max_7cf53 1 = .ok (.iload_n 1, 1) := by decide +kernel
theorem dJ9_max_7cf53_2 : decode cJ9_max_7cf53 2 = .ok (.if_icmp .lt 7, 3) := by decide +kernel
theorem dJ9_max_7cf53_5 : decode cJ9_max_7cf53 5 = .ok (.iload_n 0, 1) := by decide +kernel
theorem dJ9_max_7cf53_6 : decode cJ9_max_7cf53 6 = .ok (.goto 4, 3) := by decide +kernel
theorem dJ9_max_7cf53_9 : decode cJ9_max_7cf53 9 = .ok (.iload_n 1, 1) := by decide +kernel
theorem dJ9_max_7cf53_10 : decode cJ9_max_7cf53 10 = .ok (.ireturn, 1) := by decide +kernel
theorem dJ9_min_7cf53_0 : decode cJ9_min_7cf53 0 = .ok (.iload_n 0, 1) := by decide +kernel
theorem dJ9_min_7cf53_1 : decode cJ9_min_7cf53 1 = .ok (.iload_n 1, 1) := by decide +kernel
theorem dJ9_min_7cf53_2 : decode cJ9_min_7cf53 2 = .ok (.if_icmp .gt 7, 3) := by decide +kernel
theorem dJ9_min_7cf53_5 : decode cJ9_min_7cf53 5 = .ok (.iload_n 0, 1) := by decide +kernel
theorem dJ9_min_7cf53_6 : decode cJ9_min_7cf53 6 = .ok (.goto 4, 3) := by decide +kernel
theorem dJ9_min_7cf53_9 : decode cJ9_min_7cf53 9 = .ok (.iload_n 1, 1) := by decide +kernel
theorem dJ9_min_7cf53_10 : decode cJ9_min_7cf53 10 = .ok (.ireturn, 1) := by decide +kernel
theorem dJ7_fill_d0a16_0 : decode cJ7_fill_d0a16 0 = .ok (.iconst 0, 1) := by decide +kernel
theorem dJ7_fill_d0a16_1 : decode cJ7_fill_d0a16 1 = .ok (.istore_n 3, 1) := by decide +kernel
theorem dJ7_fill_d0a16_2 : decode cJ7_fill_d0a16 2 = .ok (.aload_n 0, 1) := by decide +kernel
theorem dJ7_fill_d0a16_3 : decode cJ7_fill_d0a16 3 = .ok (.arraylength, 1) := by decide +kernel
theorem dJ7_fill_d0a16_4 : decode cJ7_fill_d0a16 4 = .ok (.istore 4, 2) := by decide +kernel
theorem dJ7_fill_d0a16_6 : decode cJ7_fill_d0a16 6 = .ok (.iload_n 3, 1) := by decide +kernel
theorem dJ7_fill_d0a16_7 : decode cJ7_fill_d0a16 7 = .ok (.iload 4, 2) := by decide +kernel
theorem dJ7_fill_d0a16_9 : decode cJ7_fill_d0a16 9 = .ok (.if_icmp .ge 13, 3) := by decide +kernel
theorem dJ7_fill_d0a16_12 : decode cJ7_fill_d0a16 12 = .ok (.aload_n 0, 1) := by decide +kernel
theorem dJ7_fill_d0a16_13 : decode cJ7_fill_d0a16 13 = .ok (.iload_n 3, 1) := by decide +kernel
theorem dJ7_fill_d0a16_14 : decode cJ7_fill_d0a16 14 = .ok (.lload_n 1, 1) := by decide +kernel
theorem dJ7_fill_d0a16_15 : decode cJ7_fill_d0a16 15 = .ok (.lastore, 1) := by decide +kernel
theorem dJ7_fill_d0a16_16 : decode cJ7_fill_d0a16 16 = .ok (.iinc 3 1, 3) := by decide +kernel
theorem dJ7_fill_d0a16_19 : decode cJ7_fill_d0a16 19 = .ok (.goto (-13), 3) := by decide +kernel
theorem dJ7_fill_d0a16_22 : decode cJ7_fill_d0a16 22 = .ok (.return_, 1) := by decide +kernel
theorem dJ7_fill_53178_0 : decode cJ7_fill_53178 0 = .ok (.iconst 0, 1) := by decide +kernel
theorem dJ7_fill_53178_1 : decode cJ7_fill_53178 1 = .ok (.istore_n 2, 1) := by decide +kernel
theorem dJ7_fill_53178_2 : decode cJ7_fill_53178 2 = .ok (.aload_n 0, 1) := by decide +kernel
theorem dJ7_fill_53178_3 : decode cJ7_fill_53178 3 = .ok (.arraylength, 1) := by decide +kernel
theorem dJ7_fill_53178_4 : decode cJ7_fill_53178 4 = .ok (.istore_n 3, 1) := by decide +kernel
theorem dJ7_fill_53178_5 : decode cJ7_fill_53178 5 = .ok (.iload_n 2, 1) := by decide +kernel
theorem dJ7_fill_53178_6 : decode cJ7_fill_53178 6 = .ok (.iload_n 3, 1) := by decide +kernel
theorem dJ7_fill_53178_7 : decode cJ7_fill_53178 7 = .ok (.if_icmp .ge 13, 3) := by decide +kernel
theorem dJ7_fill_53178_10 : decode cJ7_fill_53178 10 = .ok (.aload_n 0, 1) := by decide +kernel
theorem dJ7_fill_53178_11 : decode cJ7_fill_53178 11 = .ok (.iload_n 2, 1) := by decide +kernel
theorem dJ7_fill_53178_12 : decode cJ7_fill_53178 12 = .ok (.iload_n 1, 1) := by decide +kernel
theorem dJ7_fill_53178_13 : decode cJ7_fill_53178 13 = .ok (.iastore, 1) := by decide +kernel
theorem dJ7_fill_53178_14 : decode cJ7_fill_53178 14 = .ok (.iinc 2 1, 3) := by decide +kernel
theorem dJ7_fill_53178_17 : decode cJ7_fill_53178 17 = .ok (.goto (-12), 3) := by decide +kernel
theorem dJ7_fill_53178_20 : decode cJ7_fill_53178 20 = .ok (.return_, 1) := by decide +kernel
theorem dL_draw_0 : decode cL_draw 0 = .ok (.iload_n 1, 1) := by decide +kernel
theorem dL_draw_1 : decode cL_draw 1 = .ok (.aload_n 0, 1) := by decide +kernel
theorem dL_draw_2 : decode cL_draw 2 = .ok (.arraylength, 1) := by decide +kernel
theorem dL_draw_3 : decode cL_draw 3 = .ok (.if_icmp .ge 9, 3) := by decide +kernel
theorem dL_draw_6 : decode cL_draw 6 = .ok (.aload_n 0, 1) := by decide +kernel
theorem dL_draw_7 : decode cL_draw 7 = .ok (.iload_n 1, 1) := by decide +kernel
theorem dL_draw_8 : decode cL_draw 8 = .ok (.iaload, 1) := by decide +kernel
theorem dL_draw_9 : decode cL_draw 9 = .ok (.goto 14, 3) := by decide +kernel
theorem dL_draw_12 : decode cL_draw 12 = .ok (.ldc 7, 2) := by decide +kernel
theorem dL_draw_14 : decode cL_draw 14 = .ok (.iload_n 1, 1) := by decide +kernel
theorem dL_draw_15 : decode cL_draw 15 = .ok (.sipush 1091, 3) := by decide +kernel
theorem dL_draw_18 : decode cL_draw 18 = .ok (.iadd, 1) := by decide +kernel
theorem dL_draw_19 : decode cL_draw 19 = .ok (.imul, 1) := by decide +kernel
theorem dL_draw_20 : decode cL_draw 20 = .ok (.ldc 8, 2) := by decide +kernel
theorem dL_draw_22 : decode cL_draw 22 = .ok (.iadd, 1) := by decide +kernel
theorem dL_draw_23 : decode cL_draw 23 = .ok (.istore_n 3, 1) := by decide +kernel
theorem dL_draw_24 : decode cL_draw 24 = .ok (.iload_n 3, 1) := by decide +kernel
theorem dL_draw_25 : decode cL_draw 25 = .ok (.ldc 9, 2) := by decide +kernel
theorem dL_draw_27 : decode cL_draw 27 = .ok (.iand, 1) := by decide +kernel
theorem dL_draw_28 : decode cL_draw 28 = .ok (.iload_n 2, 1) := by decide +kernel
theorem dL_draw_29 : decode cL_draw 29 = .ok (.irem, 1) := by decide +kernel
theorem dL_draw_30 : decode cL_draw 30 = .ok (.ireturn, 1) := by decide +kernel
theorem dL_asks_0 : decode cL_asks 0 = .ok (.iload_n 1, 1) := by decide +kernel
theorem dL_asks_1 : decode cL_asks 1 = .ok (.ifCond .ne 13, 3) := by decide +kernel
theorem dL_asks_4 : decode cL_asks 4 = .ok (.aload_n 0, 1) := by decide +kernel
theorem dL_asks_5 : decode cL_asks 5 = .ok (.iload_n 2, 1) := by decide +kernel
theorem dL_asks_6 : decode cL_asks 6 = .ok (.iload_n 3, 1) := by decide +kernel
theorem dL_asks_7 : decode cL_asks 7 = .ok (.invokevirtual 10, 3) := by decide +kernel
theorem dL_asks_10 : decode cL_asks 10 = .ok (.i2l, 1) := by decide +kernel
theorem dL_asks_11 : decode cL_asks 11 = .ok (.goto 117, 3) := by decide +kernel
theorem dL_asks_14 : decode cL_asks 14 = .ok (.iload_n 1, 1) := by decide +kernel
theorem dL_asks_15 : decode cL_asks 15 = .ok (.iconst 1, 1) := by decide +kernel
theorem dL_asks_16 : decode cL_asks 16 = .ok (.if_icmp .ne 13, 3) := by decide +kernel
theorem dL_asks_19 : decode cL_asks 19 = .ok (.aload_n 0, 1) := by decide +kernel
theorem dL_asks_20 : decode cL_asks 20 = .ok (.iload_n 2, 1) := by decide +kernel
theorem dL_asks_21 : decode cL_asks 21 = .ok (.iload_n 3, 1) := by decide +kernel
theorem dL_asks_22 : decode cL_asks 22 = .ok (.invokevirtual 16, 3) := by decide +kernel
theorem dL_asks_25 : decode cL_asks 25 = .ok (.i2l, 1) := by decide +kernel
theorem dL_asks_26 : decode cL_asks 26 = .ok (.goto 102, 3) := by decide +kernel
theorem dL_asks_29 : decode cL_asks 29 = .ok (.iload_n 1, 1) := by decide +kernel
theorem dL_asks_30 : decode cL_asks 30 = .ok (.iconst 2, 1) := by decide +kernel
theorem dL_asks_31 : decode cL_asks 31 = .ok (.if_icmp .ne 15, 3) := by decide +kernel
theorem dL_asks_34 : decode cL_asks 34 = .ok (.aload_n 0, 1) := by decide +kernel
theorem dL_asks_35 : decode cL_asks 35 = .ok (.iload_n 2, 1) := by decide +kernel
theorem dL_asks_36 : decode cL_asks 36 = .ok (.iload_n 3, 1) := by decide +kernel
theorem dL_asks_37 : decode cL_asks 37 = .ok (.iload 4, 2) := by decide +kernel
theorem dL_asks_39 : decode cL_asks 39 = .ok (.invokevirtual 19, 3) := by decide +kernel
theorem dL_asks_42 : decode cL_asks 42 = .ok (.i2l, 1) := by decide +kernel
theorem dL_asks_43 : decode cL_asks 43 = .ok (.goto 85, 3) := by decide +kernel
theorem dL_asks_46 : decode cL_asks 46 = .ok (.iload_n 1, 1) := by decide +kernel
theorem dL_asks_47 : decode cL_asks 47 = .ok (.iconst 3, 1) := by decide +kernel
theorem dL_asks_48 : decode cL_asks 48 = .ok (.if_icmp .ne 13, 3) := by decide +kernel
theorem dL_asks_51 : decode cL_asks 51 = .ok (.aload_n 0, 1) := by decide +kernel
theorem dL_asks_52 : decode cL_asks 52 = .ok (.iload_n 2, 1) := by decide +kernel
theorem dL_asks_53 : decode cL_asks 53 = .ok (.iload_n 3, 1) := by decide +kernel
theorem dL_asks_54 : decode cL_asks 54 = .ok (.invokevirtual 23, 3) := by decide +kernel
theorem dL_asks_57 : decode cL_asks 57 = .ok (.i2l, 1) := by decide +kernel
theorem dL_asks_58 : decode cL_asks 58 = .ok (.goto 70, 3) := by decide +kernel
theorem dL_asks_61 : decode cL_asks 61 = .ok (.iload_n 1, 1) := by decide +kernel
theorem dL_asks_62 : decode cL_asks 62 = .ok (.iconst 4, 1) := by decide +kernel
theorem dL_asks_63 : decode cL_asks 63 = .ok (.if_icmp .ne 12, 3) := by decide +kernel
theorem dL_asks_66 : decode cL_asks 66 = .ok (.aload_n 0, 1) := by decide +kernel
theorem dL_asks_67 : decode cL_asks 67 = .ok (.iload_n 2, 1) := by decide +kernel
theorem dL_asks_68 : decode cL_asks 68 = .ok (.invokevirtual 26, 3) := by decide +kernel
theorem dL_asks_71 : decode cL_asks 71 = .ok (.i2l, 1) := by decide +kernel
theorem dL_asks_72 : decode cL_asks 72 = .ok (.goto 56, 3) := by decide +kernel
theorem dL_asks_75 : decode cL_asks 75 = .ok (.iload_n 1, 1) := by decide +kernel
theorem dL_asks_76 : decode cL_asks 76 = .ok (.iconst 5, 1) := by decide +kernel
theorem dL_asks_77 : decode cL_asks 77 = .ok (.if_icmp .ne 13, 3) := by decide +kernel
theorem dL_asks_80 : decode cL_asks 80 = .ok (.aload_n 0, 1) := by decide +kernel
theorem dL_asks_81 : decode cL_asks 81 = .ok (.iload_n 2, 1) := by decide +kernel
theorem dL_asks_82 : decode cL_asks 82 = .ok (.iload_n 3, 1) := by decide +kernel
theorem dL_asks_83 : decode cL_asks 83 = .ok (.invokevirtual 30, 3) := by decide +kernel
theorem dL_asks_86 : decode cL_asks 86 = .ok (.i2l, 1) := by decide +kernel
theorem dL_asks_87 : decode cL_asks 87 = .ok (.goto 41, 3) := by decide +kernel
theorem dL_asks_90 : decode cL_asks 90 = .ok (.iload_n 1, 1) := by decide +kernel
theorem dL_asks_91 : decode cL_asks 91 = .ok (.bipush 6, 2) := by decide +kernel
theorem dL_asks_93 : decode cL_asks 93 = .ok (.if_icmp .ne 12, 3) := by decide +kernel
theorem dL_asks_96 : decode cL_asks 96 = .ok (.aload_n 0, 1) := by decide +kernel
theorem dL_asks_97 : decode cL_asks 97 = .ok (.iload_n 2, 1) := by decide +kernel
theorem dL_asks_98 : decode cL_asks 98 = .ok (.invokevirtual 33, 3) := by decide +kernel
theorem dL_asks_101 : decode cL_asks 101 = .ok (.i2l, 1) := by decide +kernel
theorem dL_asks_102 : decode cL_asks 102 = .ok (.goto 26, 3) := by decide +kernel
theorem dL_asks_105 : decode cL_asks 105 = .ok (.iload_n 1, 1) := by decide +kernel
theorem dL_asks_106 : decode cL_asks 106 = .ok (.bipush 7, 2) := by decide +kernel
theorem dL_asks_108 : decode cL_asks 108 = .ok (.if_icmp .ne 13, 3) := by decide +kernel
theorem dL_asks_111 : decode cL_asks 111 = .ok (.aload_n 0, 1) := by decide +kernel
theorem dL_asks_112 : decode cL_asks 112 = .ok (.iload_n 2, 1) := by decide +kernel
theorem dL_asks_113 : decode cL_asks 113 = .ok (.iload_n 3, 1) := by decide +kernel
theorem dL_asks_114 : decode cL_asks 114 = .ok (.invokevirtual 36, 3) := by decide +kernel
theorem dL_asks_117 : decode cL_asks 117 = .ok (.i2l, 1) := by decide +kernel
theorem dL_asks_118 : decode cL_asks 118 = .ok (.goto 10, 3) := by decide +kernel
theorem dL_asks_121 : decode cL_asks 121 = .ok (.aload_n 0, 1) := by decide +kernel
theorem dL_asks_122 : decode cL_asks 122 = .ok (.iload_n 2, 1) := by decide +kernel
theorem dL_asks_123 : decode cL_asks 123 = .ok (.iload_n 3, 1) := by decide +kernel
theorem dL_asks_124 : decode cL_asks 124 = .ok (.invokevirtual 39, 3) := by decide +kernel
theorem dL_asks_127 : decode cL_asks 127 = .ok (.i2l, 1) := by decide +kernel
theorem dL_asks_128 : decode cL_asks 128 = .ok (.lreturn, 1) := by decide +kernel
theorem dL_asks_129 : decode cL_asks 129 = .ok (.astore 5, 2) := by decide +kernel
theorem dL_asks_131 : decode cL_asks 131 = .ok (.ldc2_w 44, 3) := by decide +kernel
theorem dL_asks_134 : decode cL_asks 134 = .ok (.lreturn, 1) := by decide +kernel
theorem dL_asks_135 : decode cL_asks 135 = .ok (.astore 5, 2) := by decide +kernel
theorem dL_asks_137 : decode cL_asks 137 = .ok (.ldc2_w 48, 3) := by decide +kernel
theorem dL_asks_140 : decode cL_asks 140 = .ok (.lreturn, 1) := by decide +kernel
theorem dL_asks_141 : decode cL_asks 141 = .ok (.astore 5, 2) := by decide +kernel
theorem dL_asks_143 : decode cL_asks 143 = .ok (.ldc2_w 52, 3) := by decide +kernel
theorem dL_asks_146 : decode cL_asks 146 = .ok (.lreturn, 1) := by decide +kernel
theorem dL_isStar_0 : decode cL_isStar 0 = .ok (.aload_n 0, 1) := by decide +kernel
theorem dL_isStar_1 : decode cL_isStar 1 = .ok (.iload_n 1, 1) := by decide +kernel
theorem dL_isStar_2 : decode cL_isStar 2 = .ok (.iconst 1, 1) := by decide +kernel
theorem dL_isStar_3 : decode cL_isStar 3 = .ok (.invokevirtual 39, 3) := by decide +kernel
theorem dL_isStar_6 : decode cL_isStar 6 = .ok (.istore_n 3, 1) := by decide +kernel
theorem dL_isStar_7 : decode cL_isStar 7 = .ok (.aload_n 0, 1) := by decide +kernel
theorem dL_isStar_8 : decode cL_isStar 8 = .ok (.iload_n 1, 1) := by decide +kernel
theorem dL_isStar_9 : decode cL_isStar 9 = .ok (.iconst 2, 1) := by decide +kernel
theorem dL_isStar_10 : decode cL_isStar 10 = .ok (.invokevirtual 39, 3) := by decide +kernel
theorem dL_isStar_13 : decode cL_isStar 13 = .ok (.istore 4, 2) := by decide +kernel
theorem dL_isStar_15 : decode cL_isStar 15 = .ok (.iconst 1, 1) := by decide +kernel
theorem dL_isStar_16 : decode cL_isStar 16 = .ok (.iload_n 2, 1) := by decide +kernel
theorem dL_isStar_17 : decode cL_isStar 17 = .ok (.bipush 12, 2) := by decide +kernel
theorem dL_isStar_19 : decode cL_isStar 19 = .ok (.irem, 1) := by decide +kernel
theorem dL_isStar_20 : decode cL_isStar 20 = .ok (.iadd, 1) := by decide +kernel
theorem dL_isStar_21 : decode cL_isStar 21 = .ok (.istore 5, 2) := by decide +kernel
theorem dL_isStar_23 : decode cL_isStar 23 = .ok (.iload_n 2, 1) := by decide +kernel
theorem dL_isStar_24 : decode cL_isStar 24 = .ok (.bipush 12, 2) := by decide +kernel
theorem dL_isStar_26 : decode cL_isStar 26 = .ok (.idiv, 1) := by decide +kernel
theorem dL_isStar_27 : decode cL_isStar 27 = .ok (.iconst 4, 1) := by decide +kernel
theorem dL_isStar_28 : decode cL_isStar 28 = .ok (.irem, 1) := by decide +kernel
theorem dL_isStar_29 : decode cL_isStar 29 = .ok (.istore 6, 2) := by decide +kernel
theorem dL_isStar_31 : decode cL_isStar 31 = .ok (.iload_n 2, 1) := by decide +kernel
theorem dL_isStar_32 : decode cL_isStar 32 = .ok (.bipush 48, 2) := by decide +kernel
theorem dL_isStar_34 : decode cL_isStar 34 = .ok (.idiv, 1) := by decide +kernel
theorem dL_isStar_35 : decode cL_isStar 35 = .ok (.iconst 2, 1) := by decide +kernel
theorem dL_isStar_36 : decode cL_isStar 36 = .ok (.iload 6, 2) := by decide +kernel
theorem dL_isStar_38 : decode cL_isStar 38 = .ok (.imul, 1) := by decide +kernel
theorem dL_isStar_39 : decode cL_isStar 39 = .ok (.iconst 1, 1) := by decide +kernel
theorem dL_isStar_40 : decode cL_isStar 40 = .ok (.iadd, 1) := by decide +kernel
theorem dL_isStar_41 : decode cL_isStar 41 = .ok (.irem, 1) := by decide +kernel
theorem dL_isStar_42 : decode cL_isStar 42 = .ok (.iload 6, 2) := by decide +kernel
theorem dL_isStar_44 : decode cL_isStar 44 = .ok (.isub, 1) := by decide +kernel
theorem dL_isStar_45 : decode cL_isStar 45 = .ok (.istore 7, 2) := by decide +kernel
theorem dL_isStar_47 : decode cL_isStar 47 = .ok (.iload 4, 2) := by decide +kernel
theorem dL_isStar_49 : decode cL_isStar 49 = .ok (.iconst 2, 1) := by decide +kernel
theorem dL_isStar_50 : decode cL_isStar 50 = .ok (.iload 5, 2) := by decide +kernel
theorem dL_isStar_52 : decode cL_isStar 52 = .ok (.imul, 1) := by decide +kernel
theorem dL_isStar_53 : decode cL_isStar 53 = .ok (.iload 6, 2) := by decide +kernel
theorem dL_isStar_55 : decode cL_isStar 55 = .ok (.iadd, 1) := by decide +kernel
theorem dL_isStar_56 : decode cL_isStar 56 = .ok (.iconst 3, 1) := by decide +kernel
theorem dL_isStar_57 : decode cL_isStar 57 = .ok (.iadd, 1) := by decide +kernel
theorem dL_isStar_58 : decode cL_isStar 58 = .ok (.imul, 1) := by decide +kernel
theorem dL_isStar_59 : decode cL_isStar 59 = .ok (.iconst 2, 1) := by decide +kernel
theorem dL_isStar_60 : decode cL_isStar 60 = .ok (.idiv, 1) := by decide +kernel
theorem dL_isStar_61 : decode cL_isStar 61 = .ok (.aload_n 0, 1) := by decide +kernel
theorem dL_isStar_62 : decode cL_isStar 62 = .ok (.iload_n 1, 1) := by decide +kernel
theorem dL_isStar_63 : decode cL_isStar 63 = .ok (.iconst 3, 1) := by decide +kernel
theorem dL_isStar_64 : decode cL_isStar 64 = .ok (.invokevirtual 39, 3) := by decide +kernel
theorem dL_isStar_67 : decode cL_isStar 67 = .ok (.iload 6, 2) := by decide +kernel
theorem dL_isStar_69 : decode cL_isStar 69 = .ok (.imul, 1) := by decide +kernel
theorem dL_isStar_70 : decode cL_isStar 70 = .ok (.iload 6, 2) := by decide +kernel
theorem dL_isStar_72 : decode cL_isStar 72 = .ok (.iconst 1, 1) := by decide +kernel
theorem dL_isStar_73 : decode cL_isStar 73 = .ok (.iadd, 1) := by decide +kernel
theorem dL_isStar_74 : decode cL_isStar 74 = .ok (.imul, 1) := by decide +kernel
theorem dL_isStar_75 : decode cL_isStar 75 = .ok (.isub, 1) := by decide +kernel
theorem dL_isStar_76 : decode cL_isStar 76 = .ok (.istore 8, 2) := by decide +kernel
theorem dL_isStar_78 : decode cL_isStar 78 = .ok (.iload 8, 2) := by decide +kernel
theorem dL_isStar_80 : decode cL_isStar 80 = .ok (.aload_n 0, 1) := by decide +kernel
theorem dL_isStar_81 : decode cL_isStar 81 = .ok (.iload_n 1, 1) := by decide +kernel
theorem dL_isStar_82 : decode cL_isStar 82 = .ok (.iconst 5, 1) := by decide +kernel
theorem dL_isStar_83 : decode cL_isStar 83 = .ok (.invokevirtual 39, 3) := by decide +kernel
theorem dL_isStar_86 : decode cL_isStar 86 = .ok (.isub, 1) := by decide +kernel
theorem dL_isStar_87 : decode cL_isStar 87 = .ok (.istore 9, 2) := by decide +kernel
theorem dL_isStar_89 : decode cL_isStar 89 = .ok (.iload 9, 2) := by decide +kernel
theorem dL_isStar_91 : decode cL_isStar 91 = .ok (.ifCond .ge 9, 3) := by decide +kernel
theorem dL_isStar_94 : decode cL_isStar 94 = .ok (.iload 9, 2) := by decide +kernel
theorem dL_isStar_96 : decode cL_isStar 96 = .ok (.ineg, 1) := by decide +kernel
theorem dL_isStar_97 : decode cL_isStar 97 = .ok (.goto 5, 3) := by decide +kernel
theorem dL_isStar_100 : decode cL_isStar 100 = .ok (.iload 9, 2) := by decide +kernel
theorem dL_isStar_102 : decode cL_isStar 102 = .ok (.istore 10, 2) := by decide +kernel
theorem dL_isStar_104 : decode cL_isStar 104 = .ok (.iload 6, 2) := by decide +kernel
theorem dL_isStar_106 : decode cL_isStar 106 = .ok (.iconst 1, 1) := by decide +kernel
theorem dL_isStar_107 : decode cL_isStar 107 = .ok (.if_icmp .ne 11, 3) := by decide +kernel
theorem dL_isStar_110 : decode cL_isStar 110 = .ok (.iload 10, 2) := by decide +kernel
theorem dL_isStar_112 : decode cL_isStar 112 = .ok (.sipush 500, 3) := by decide +kernel
theorem dL_isStar_115 : decode cL_isStar 115 = .ok (.if_icmp .lt 8, 3) := by decide +kernel
theorem dL_isStar_118 : decode cL_isStar 118 = .ok (.iload 8, 2) := by decide +kernel
theorem dL_isStar_120 : decode cL_isStar 120 = .ok (.goto 33, 3) := by decide +kernel
theorem dL_isStar_123 : decode cL_isStar 123 = .ok (.iload 9, 2) := by decide +kernel
theorem dL_isStar_125 : decode cL_isStar 125 = .ok (.ifCond .ge 17, 3) := by decide +kernel
theorem dL_isStar_128 : decode cL_isStar 128 = .ok (.iload 8, 2) := by decide +kernel
theorem dL_isStar_130 : decode cL_isStar 130 = .ok (.sipush 500, 3) := by decide +kernel
theorem dL_isStar_133 : decode cL_isStar 133 = .ok (.iload 10, 2) := by decide +kernel
theorem dL_isStar_135 : decode cL_isStar 135 = .ok (.isub, 1) := by decide +kernel
theorem dL_isStar_136 : decode cL_isStar 136 = .ok (.iconst 2, 1) := by decide +kernel
theorem dL_isStar_137 : decode cL_isStar 137 = .ok (.idiv, 1) := by decide +kernel
theorem dL_isStar_138 : decode cL_isStar 138 = .ok (.isub, 1) := by decide +kernel
theorem dL_isStar_139 : decode cL_isStar 139 = .ok (.goto 14, 3) := by decide +kernel
theorem dL_isStar_142 : decode cL_isStar 142 = .ok (.iload 8, 2) := by decide +kernel
theorem dL_isStar_144 : decode cL_isStar 144 = .ok (.sipush 500, 3) := by decide +kernel
theorem dL_isStar_147 : decode cL_isStar 147 = .ok (.iload 10, 2) := by decide +kernel
theorem dL_isStar_149 : decode cL_isStar 149 = .ok (.isub, 1) := by decide +kernel
theorem dL_isStar_150 : decode cL_isStar 150 = .ok (.iconst 2, 1) := by decide +kernel
theorem dL_isStar_151 : decode cL_isStar 151 = .ok (.idiv, 1) := by decide +kernel
theorem dL_isStar_152 : decode cL_isStar 152 = .ok (.iadd, 1) := by decide +kernel
theorem dL_isStar_153 : decode cL_isStar 153 = .ok (.istore 11, 2) := by decide +kernel
theorem dL_isStar_155 : decode cL_isStar 155 = .ok (.iload_n 3, 1) := by decide +kernel
theorem dL_isStar_156 : decode cL_isStar 156 = .ok (.ifCond .le 113, 3) := by decide +kernel
theorem dL_isStar_159 : decode cL_isStar 159 = .ok (.iload_n 3, 1) := by decide +kernel
theorem dL_isStar_160 : decode cL_isStar 160 = .ok (.aload_n 0, 1) := by decide +kernel
theorem dL_isStar_161 : decode cL_isStar 161 = .ok (.iload_n 1, 1) := by decide +kernel
theorem dL_isStar_162 : decode cL_isStar 162 = .ok (.invokevirtual 54, 3) := by decide +kernel
theorem dL_isStar_165 : decode cL_isStar 165 = .ok (.if_icmp .ne 104, 3) := by decide +kernel
theorem dL_isStar_168 : decode cL_isStar 168 = .ok (.iload 4, 2) := by decide +kernel
theorem dL_isStar_170 : decode cL_isStar 170 = .ok (.ldc 57, 2) := by decide +kernel
theorem dL_isStar_172 : decode cL_isStar 172 = .ok (.iload_n 3, 1) := by decide +kernel
theorem dL_isStar_173 : decode cL_isStar 173 = .ok (.idiv, 1) := by decide +kernel
theorem dL_isStar_174 : decode cL_isStar 174 = .ok (.if_icmp .ne 95, 3) := by decide +kernel
theorem dL_isStar_177 : decode cL_isStar 177 = .ok (.aload_n 0, 1) := by decide +kernel
theorem dL_isStar_178 : decode cL_isStar 178 = .ok (.iload_n 1, 1) := by decide +kernel
theorem dL_isStar_179 : decode cL_isStar 179 = .ok (.iconst 3, 1) := by decide +kernel
theorem dL_isStar_180 : decode cL_isStar 180 = .ok (.invokevirtual 39, 3) := by decide +kernel
theorem dL_isStar_183 : decode cL_isStar 183 = .ok (.ifCond .lt 86, 3) := by decide +kernel
theorem dL_isStar_186 : decode cL_isStar 186 = .ok (.aload_n 0, 1) := by decide +kernel
theorem dL_isStar_187 : decode cL_isStar 187 = .ok (.iload_n 1, 1) := by decide +kernel
theorem dL_isStar_188 : decode cL_isStar 188 = .ok (.iconst 4, 1) := by decide +kernel
theorem dL_isStar_189 : decode cL_isStar 189 = .ok (.invokevirtual 39, 3) := by decide +kernel
theorem dL_isStar_192 : decode cL_isStar 192 = .ok (.ifCond .lt 77, 3) := by decide +kernel
theorem dL_isStar_195 : decode cL_isStar 195 = .ok (.aload_n 0, 1) := by decide +kernel
theorem dL_isStar_196 : decode cL_isStar 196 = .ok (.iload_n 1, 1) := by decide +kernel
theorem dL_isStar_197 : decode cL_isStar 197 = .ok (.iconst 4, 1) := by decide +kernel
theorem dL_isStar_198 : decode cL_isStar 198 = .ok (.invokevirtual 39, 3) := by decide +kernel
theorem dL_isStar_201 : decode cL_isStar 201 = .ok (.bipush 10, 2) := by decide +kernel
theorem dL_isStar_203 : decode cL_isStar 203 = .ok (.if_icmp .ge 66, 3) := by decide +kernel
theorem dL_isStar_206 : decode cL_isStar 206 = .ok (.aload_n 0, 1) := by decide +kernel
theorem dL_isStar_207 : decode cL_isStar 207 = .ok (.iload_n 1, 1) := by decide +kernel
theorem dL_isStar_208 : decode cL_isStar 208 = .ok (.iconst 5, 1) := by decide +kernel
theorem dL_isStar_209 : decode cL_isStar 209 = .ok (.invokevirtual 39, 3) := by decide +kernel
theorem dL_isStar_212 : decode cL_isStar 212 = .ok (.iconst 3, 1) := by decide +kernel
theorem dL_isStar_213 : decode cL_isStar 213 = .ok (.iload 4, 2) := by decide +kernel
theorem dL_isStar_215 : decode cL_isStar 215 = .ok (.imul, 1) := by decide +kernel
theorem dL_isStar_216 : decode cL_isStar 216 = .ok (.if_icmp .le 53, 3) := by decide +kernel
theorem dL_isStar_219 : decode cL_isStar 219 = .ok (.aload_n 0, 1) := by decide +kernel
theorem dL_isStar_220 : decode cL_isStar 220 = .ok (.iload_n 1, 1) := by decide +kernel
theorem dL_isStar_221 : decode cL_isStar 221 = .ok (.iconst 5, 1) := by decide +kernel
theorem dL_isStar_222 : decode cL_isStar 222 = .ok (.invokevirtual 39, 3) := by decide +kernel
theorem dL_isStar_225 : decode cL_isStar 225 = .ok (.iconst 3, 1) := by decide +kernel
theorem dL_isStar_226 : decode cL_isStar 226 = .ok (.iload 4, 2) := by decide +kernel
theorem dL_isStar_228 : decode cL_isStar 228 = .ok (.imul, 1) := by decide +kernel
theorem dL_isStar_229 : decode cL_isStar 229 = .ok (.sipush 9900, 3) := by decide +kernel
theorem dL_isStar_232 : decode cL_isStar 232 = .ok (.iadd, 1) := by decide +kernel
theorem dL_isStar_233 : decode cL_isStar 233 = .ok (.if_icmp .gt 36, 3) := by decide +kernel
theorem dL_isStar_236 : decode cL_isStar 236 = .ok (.aload_n 0, 1) := by decide +kernel
theorem dL_isStar_237 : decode cL_isStar 237 = .ok (.iload_n 1, 1) := by decide +kernel
theorem dL_isStar_238 : decode cL_isStar 238 = .ok (.iload 5, 2) := by decide +kernel
theorem dL_isStar_240 : decode cL_isStar 240 = .ok (.iload 6, 2) := by decide +kernel
theorem dL_isStar_242 : decode cL_isStar 242 = .ok (.iload 7, 2) := by decide +kernel
theorem dL_isStar_244 : decode cL_isStar 244 = .ok (.invokevirtual 58, 3) := by decide +kernel
theorem dL_isStar_247 : decode cL_isStar 247 = .ok (.iload 11, 2) := by decide +kernel
theorem dL_isStar_249 : decode cL_isStar 249 = .ok (.bipush 10, 2) := by decide +kernel
theorem dL_isStar_251 : decode cL_isStar 251 = .ok (.aload_n 0, 1) := by decide +kernel
theorem dL_isStar_252 : decode cL_isStar 252 = .ok (.iload_n 1, 1) := by decide +kernel
theorem dL_isStar_253 : decode cL_isStar 253 = .ok (.iconst 4, 1) := by decide +kernel
theorem dL_isStar_254 : decode cL_isStar 254 = .ok (.invokevirtual 39, 3) := by decide +kernel
theorem dL_isStar_257 : decode cL_isStar 257 = .ok (.imul, 1) := by decide +kernel
theorem dL_isStar_258 : decode cL_isStar 258 = .ok (.iload 7, 2) := by decide +kernel
theorem dL_isStar_260 : decode cL_isStar 260 = .ok (.imul, 1) := by decide +kernel
theorem dL_isStar_261 : decode cL_isStar 261 = .ok (.iadd, 1) := by decide +kernel
theorem dL_isStar_262 : decode cL_isStar 262 = .ok (.if_icmp .ne 7, 3) := by decide +kernel
theorem dL_isStar_265 : decode cL_isStar 265 = .ok (.iconst 1, 1) := by decide +kernel
theorem dL_isStar_266 : decode cL_isStar 266 = .ok (.goto 4, 3) := by decide +kernel
theorem dL_isStar_269 : decode cL_isStar 269 = .ok (.iconst 0, 1) := by decide +kernel
theorem dL_isStar_270 : decode cL_isStar 270 = .ok (.ireturn, 1) := by decide +kernel
theorem dL_builds_0 : decode cL_builds 0 = .ok (.iconst 1, 1) := by decide +kernel
theorem dL_builds_1 : decode cL_builds 1 = .ok (.iload_n 1, 1) := by decide +kernel
theorem dL_builds_2 : decode cL_builds 2 = .ok (.iconst 3, 1) := by decide +kernel
theorem dL_builds_3 : decode cL_builds 3 = .ok (.irem, 1) := by decide +kernel
theorem dL_builds_4 : decode cL_builds 4 = .ok (.iadd, 1) := by decide +kernel
theorem dL_builds_5 : decode cL_builds 5 = .ok (.istore 4, 2) := by decide +kernel
theorem dL_builds_7 : decode cL_builds 7 = .ok (.iconst 0, 1) := by decide +kernel
theorem dL_builds_8 : decode cL_builds 8 = .ok (.istore 5, 2) := by decide +kernel
theorem dL_builds_10 : decode cL_builds 10 = .ok (.iconst 0, 1) := by decide +kernel
theorem dL_builds_11 : decode cL_builds 11 = .ok (.istore 6, 2) := by decide +kernel
theorem dL_builds_13 : decode cL_builds 13 = .ok (.iconst 0, 1) := by decide +kernel
theorem dL_builds_14 : decode cL_builds 14 = .ok (.istore 7, 2) := by decide +kernel
theorem dL_builds_16 : decode cL_builds 16 = .ok (.iconst 0, 1) := by decide +kernel
theorem dL_builds_17 : decode cL_builds 17 = .ok (.istore 8, 2) := by decide +kernel
theorem dL_builds_19 : decode cL_builds 19 = .ok (.iconst 0, 1) := by decide +kernel
theorem dL_builds_20 : decode cL_builds 20 = .ok (.istore 9, 2) := by decide +kernel
theorem dL_builds_22 : decode cL_builds 22 = .ok (.iconst 0, 1) := by decide +kernel
theorem dL_builds_23 : decode cL_builds 23 = .ok (.istore 10, 2) := by decide +kernel
theorem dL_builds_25 : decode cL_builds 25 = .ok (.iconst 1, 1) := by decide +kernel
theorem dL_builds_26 : decode cL_builds 26 = .ok (.istore 11, 2) := by decide +kernel
theorem dL_builds_28 : decode cL_builds 28 = .ok (.iconst 0, 1) := by decide +kernel
theorem dL_builds_29 : decode cL_builds 29 = .ok (.istore 12, 2) := by decide +kernel
theorem dL_builds_31 : decode cL_builds 31 = .ok (.iload 12, 2) := by decide +kernel
theorem dL_builds_33 : decode cL_builds 33 = .ok (.iload 4, 2) := by decide +kernel
theorem dL_builds_35 : decode cL_builds 35 = .ok (.if_icmp .ge 158, 3) := by decide +kernel
theorem dL_builds_38 : decode cL_builds 38 = .ok (.iconst 1, 1) := by decide +kernel
theorem dL_builds_39 : decode cL_builds 39 = .ok (.iload_n 1, 1) := by decide +kernel
theorem dL_builds_40 : decode cL_builds 40 = .ok (.iconst 3, 1) := by decide +kernel
theorem dL_builds_41 : decode cL_builds 41 = .ok (.idiv, 1) := by decide +kernel
theorem dL_builds_42 : decode cL_builds 42 = .ok (.bipush 31, 2) := by decide +kernel
theorem dL_builds_44 : decode cL_builds 44 = .ok (.iload 12, 2) := by decide +kernel
theorem dL_builds_46 : decode cL_builds 46 = .ok (.imul, 1) := by decide +kernel
theorem dL_builds_47 : decode cL_builds 47 = .ok (.iadd, 1) := by decide +kernel
theorem dL_builds_48 : decode cL_builds 48 = .ok (.bipush 99, 2) := by decide +kernel
theorem dL_builds_50 : decode cL_builds 50 = .ok (.irem, 1) := by decide +kernel
theorem dL_builds_51 : decode cL_builds 51 = .ok (.iadd, 1) := by decide +kernel
theorem dL_builds_52 : decode cL_builds 52 = .ok (.istore 13, 2) := by decide +kernel
theorem dL_builds_54 : decode cL_builds 54 = .ok (.iconst 1, 1) := by decide +kernel
theorem dL_builds_55 : decode cL_builds 55 = .ok (.iload_n 2, 1) := by decide +kernel
theorem dL_builds_56 : decode cL_builds 56 = .ok (.iconst 3, 1) := by decide +kernel
theorem dL_builds_57 : decode cL_builds 57 = .ok (.idiv, 1) := by decide +kernel
theorem dL_builds_58 : decode cL_builds 58 = .ok (.bipush 47, 2) := by decide +kernel
theorem dL_builds_60 : decode cL_builds 60 = .ok (.iload 12, 2) := by decide +kernel
theorem dL_builds_62 : decode cL_builds 62 = .ok (.imul, 1) := by decide +kernel
theorem dL_builds_63 : decode cL_builds 63 = .ok (.iadd, 1) := by decide +kernel
theorem dL_builds_64 : decode cL_builds 64 = .ok (.bipush 99, 2) := by decide +kernel
theorem dL_builds_66 : decode cL_builds 66 = .ok (.irem, 1) := by decide +kernel
theorem dL_builds_67 : decode cL_builds 67 = .ok (.iadd, 1) := by decide +kernel
theorem dL_builds_68 : decode cL_builds 68 = .ok (.istore 14, 2) := by decide +kernel
theorem dL_builds_70 : decode cL_builds 70 = .ok (.iload_n 2, 1) := by decide +kernel
theorem dL_builds_71 : decode cL_builds 71 = .ok (.sipush 300, 3) := by decide +kernel
theorem dL_builds_74 : decode cL_builds 74 = .ok (.idiv, 1) := by decide +kernel
theorem dL_builds_75 : decode cL_builds 75 = .ok (.iload 12, 2) := by decide +kernel
theorem dL_builds_77 : decode cL_builds 77 = .ok (.iadd, 1) := by decide +kernel
theorem dL_builds_78 : decode cL_builds 78 = .ok (.bipush 10, 2) := by decide +kernel
theorem dL_builds_80 : decode cL_builds 80 = .ok (.irem, 1) := by decide +kernel
theorem dL_builds_81 : decode cL_builds 81 = .ok (.istore 15, 2) := by decide +kernel
theorem dL_builds_83 : decode cL_builds 83 = .ok (.iload 11, 2) := by decide +kernel
theorem dL_builds_85 : decode cL_builds 85 = .ok (.ifCond .eq 24, 3) := by decide +kernel
theorem dL_builds_88 : decode cL_builds 88 = .ok (.aload_n 0, 1) := by decide +kernel
theorem dL_builds_89 : decode cL_builds 89 = .ok (.iload 13, 2) := by decide +kernel
theorem dL_builds_91 : decode cL_builds 91 = .ok (.iload 14, 2) := by decide +kernel
theorem dL_builds_93 : decode cL_builds 93 = .ok (.iload 15, 2) := by decide +kernel
theorem dL_builds_95 : decode cL_builds 95 = .ok (.invokevirtual 62, 3) := by decide +kernel
theorem dL_builds_98 : decode cL_builds 98 = .ok (.iload 12, 2) := by decide +kernel
theorem dL_builds_100 : decode cL_builds 100 = .ok (.iconst 1, 1) := by decide +kernel
theorem dL_builds_101 : decode cL_builds 101 = .ok (.iadd, 1) := by decide +kernel
theorem dL_builds_102 : decode cL_builds 102 = .ok (.if_icmp .ne 7, 3) := by decide +kernel
theorem dL_builds_105 : decode cL_builds 105 = .ok (.iconst 1, 1) := by decide +kernel
theorem dL_builds_106 : decode cL_builds 106 = .ok (.goto 4, 3) := by decide +kernel
theorem dL_builds_109 : decode cL_builds 109 = .ok (.iconst 0, 1) := by decide +kernel
theorem dL_builds_110 : decode cL_builds 110 = .ok (.istore 11, 2) := by decide +kernel
theorem dL_builds_112 : decode cL_builds 112 = .ok (.iload 5, 2) := by decide +kernel
theorem dL_builds_114 : decode cL_builds 114 = .ok (.sipush 1000, 3) := by decide +kernel
theorem dL_builds_117 : decode cL_builds 117 = .ok (.iload 13, 2) := by decide +kernel
theorem dL_builds_119 : decode cL_builds 119 = .ok (.imul, 1) := by decide +kernel
theorem dL_builds_120 : decode cL_builds 120 = .ok (.iload 14, 2) := by decide +kernel
theorem dL_builds_122 : decode cL_builds 122 = .ok (.idiv, 1) := by decide +kernel
theorem dL_builds_123 : decode cL_builds 123 = .ok (.iadd, 1) := by decide +kernel
theorem dL_builds_124 : decode cL_builds 124 = .ok (.istore 5, 2) := by decide +kernel
theorem dL_builds_126 : decode cL_builds 126 = .ok (.iload 6, 2) := by decide +kernel
theorem dL_builds_128 : decode cL_builds 128 = .ok (.iload 13, 2) := by decide +kernel
theorem dL_builds_130 : decode cL_builds 130 = .ok (.iadd, 1) := by decide +kernel
theorem dL_builds_131 : decode cL_builds 131 = .ok (.istore 6, 2) := by decide +kernel
theorem dL_builds_133 : decode cL_builds 133 = .ok (.iload 7, 2) := by decide +kernel
theorem dL_builds_135 : decode cL_builds 135 = .ok (.iload 13, 2) := by decide +kernel
theorem dL_builds_137 : decode cL_builds 137 = .ok (.iload 15, 2) := by decide +kernel
theorem dL_builds_139 : decode cL_builds 139 = .ok (.imul, 1) := by decide +kernel
theorem dL_builds_140 : decode cL_builds 140 = .ok (.iadd, 1) := by decide +kernel
theorem dL_builds_141 : decode cL_builds 141 = .ok (.istore 7, 2) := by decide +kernel
theorem dL_builds_143 : decode cL_builds 143 = .ok (.iload 9, 2) := by decide +kernel
theorem dL_builds_145 : decode cL_builds 145 = .ok (.iload 12, 2) := by decide +kernel
theorem dL_builds_147 : decode cL_builds 147 = .ok (.ifCond .le 18, 3) := by decide +kernel
theorem dL_builds_150 : decode cL_builds 150 = .ok (.iload 8, 2) := by decide +kernel
theorem dL_builds_152 : decode cL_builds 152 = .ok (.iload 14, 2) := by decide +kernel
theorem dL_builds_154 : decode cL_builds 154 = .ok (.if_icmp .le 11, 3) := by decide +kernel
theorem dL_builds_157 : decode cL_builds 157 = .ok (.iload 8, 2) := by decide +kernel
theorem dL_builds_159 : decode cL_builds 159 = .ok (.iload 14, 2) := by decide +kernel
theorem dL_builds_161 : decode cL_builds 161 = .ok (.isub, 1) := by decide +kernel
theorem dL_builds_162 : decode cL_builds 162 = .ok (.goto 4, 3) := by decide +kernel
theorem dL_builds_165 : decode cL_builds 165 = .ok (.iconst 0, 1) := by decide +kernel
theorem dL_builds_166 : decode cL_builds 166 = .ok (.iadd, 1) := by decide +kernel
theorem dL_builds_167 : decode cL_builds 167 = .ok (.istore 9, 2) := by decide +kernel
theorem dL_builds_169 : decode cL_builds 169 = .ok (.iload 12, 2) := by decide +kernel
theorem dL_builds_171 : decode cL_builds 171 = .ok (.ifCond .ne 8, 3) := by decide +kernel
theorem dL_builds_174 : decode cL_builds 174 = .ok (.iload 14, 2) := by decide +kernel
theorem dL_builds_176 : decode cL_builds 176 = .ok (.goto 5, 3) := by decide +kernel
theorem dL_builds_179 : decode cL_builds 179 = .ok (.iload 10, 2) := by decide +kernel
theorem dL_builds_181 : decode cL_builds 181 = .ok (.istore 10, 2) := by decide +kernel
theorem dL_builds_183 : decode cL_builds 183 = .ok (.iload 14, 2) := by decide +kernel
theorem dL_builds_185 : decode cL_builds 185 = .ok (.istore 8, 2) := by decide +kernel
theorem dL_builds_187 : decode cL_builds 187 = .ok (.iinc 12 1, 3) := by decide +kernel
theorem dL_builds_190 : decode cL_builds 190 = .ok (.goto (-159), 3) := by decide +kernel
theorem dL_builds_193 : decode cL_builds 193 = .ok (.aload_n 3, 1) := by decide +kernel
theorem dL_builds_194 : decode cL_builds 194 = .ok (.iconst 0, 1) := by decide +kernel
theorem dL_builds_195 : decode cL_builds 195 = .ok (.iaload, 1) := by decide +kernel
theorem dL_builds_196 : decode cL_builds 196 = .ok (.istore 12, 2) := by decide +kernel
theorem dL_builds_198 : decode cL_builds 198 = .ok (.aload_n 3, 1) := by decide +kernel
theorem dL_builds_199 : decode cL_builds 199 = .ok (.iconst 0, 1) := by decide +kernel
theorem dL_builds_200 : decode cL_builds 200 = .ok (.dup2, 1) := by decide +kernel
theorem dL_builds_201 : decode cL_builds 201 = .ok (.iaload, 1) := by decide +kernel
theorem dL_builds_202 : decode cL_builds 202 = .ok (.iconst 1, 1) := by decide +kernel
theorem dL_builds_203 : decode cL_builds 203 = .ok (.iadd, 1) := by decide +kernel
theorem dL_builds_204 : decode cL_builds 204 = .ok (.iastore, 1) := by decide +kernel
theorem dL_builds_205 : decode cL_builds 205 = .ok (.iload 11, 2) := by decide +kernel
theorem dL_builds_207 : decode cL_builds 207 = .ok (.ifCond .eq 107, 3) := by decide +kernel
theorem dL_builds_210 : decode cL_builds 210 = .ok (.aload_n 0, 1) := by decide +kernel
theorem dL_builds_211 : decode cL_builds 211 = .ok (.iload_n 2, 1) := by decide +kernel
theorem dL_builds_212 : decode cL_builds 212 = .ok (.bipush 100, 2) := by decide +kernel
theorem dL_builds_214 : decode cL_builds 214 = .ok (.irem, 1) := by decide +kernel
theorem dL_builds_215 : decode cL_builds 215 = .ok (.invokevirtual 65, 3) := by decide +kernel
theorem dL_builds_218 : decode cL_builds 218 = .ok (.iload 12, 2) := by decide +kernel
theorem dL_builds_220 : decode cL_builds 220 = .ok (.if_icmp .ne 94, 3) := by decide +kernel
theorem dL_builds_223 : decode cL_builds 223 = .ok (.aload_n 0, 1) := by decide +kernel
theorem dL_builds_224 : decode cL_builds 224 = .ok (.iload 12, 2) := by decide +kernel
theorem dL_builds_226 : decode cL_builds 226 = .ok (.iconst 0, 1) := by decide +kernel
theorem dL_builds_227 : decode cL_builds 227 = .ok (.invokevirtual 39, 3) := by decide +kernel
theorem dL_builds_230 : decode cL_builds 230 = .ok (.iload_n 2, 1) := by decide +kernel
theorem dL_builds_231 : decode cL_builds 231 = .ok (.bipush 100, 2) := by decide +kernel
theorem dL_builds_233 : decode cL_builds 233 = .ok (.irem, 1) := by decide +kernel
theorem dL_builds_234 : decode cL_builds 234 = .ok (.if_icmp .ne 80, 3) := by decide +kernel
theorem dL_builds_237 : decode cL_builds 237 = .ok (.aload_n 0, 1) := by decide +kernel
theorem dL_builds_238 : decode cL_builds 238 = .ok (.iload 12, 2) := by decide +kernel
theorem dL_builds_240 : decode cL_builds 240 = .ok (.iconst 1, 1) := by decide +kernel
theorem dL_builds_241 : decode cL_builds 241 = .ok (.invokevirtual 39, 3) := by decide +kernel
theorem dL_builds_244 : decode cL_builds 244 = .ok (.iload 5, 2) := by decide +kernel
theorem dL_builds_246 : decode cL_builds 246 = .ok (.if_icmp .ne 68, 3) := by decide +kernel
theorem dL_builds_249 : decode cL_builds 249 = .ok (.aload_n 0, 1) := by decide +kernel
theorem dL_builds_250 : decode cL_builds 250 = .ok (.iload 12, 2) := by decide +kernel
theorem dL_builds_252 : decode cL_builds 252 = .ok (.iconst 3, 1) := by decide +kernel
theorem dL_builds_253 : decode cL_builds 253 = .ok (.invokevirtual 39, 3) := by decide +kernel
theorem dL_builds_256 : decode cL_builds 256 = .ok (.iload 9, 2) := by decide +kernel
theorem dL_builds_258 : decode cL_builds 258 = .ok (.if_icmp .ne 56, 3) := by decide +kernel
theorem dL_builds_261 : decode cL_builds 261 = .ok (.aload_n 0, 1) := by decide +kernel
theorem dL_builds_262 : decode cL_builds 262 = .ok (.iload 12, 2) := by decide +kernel
theorem dL_builds_264 : decode cL_builds 264 = .ok (.iconst 4, 1) := by decide +kernel
theorem dL_builds_265 : decode cL_builds 265 = .ok (.invokevirtual 39, 3) := by decide +kernel
theorem dL_builds_268 : decode cL_builds 268 = .ok (.iload 7, 2) := by decide +kernel
theorem dL_builds_270 : decode cL_builds 270 = .ok (.iload 6, 2) := by decide +kernel
theorem dL_builds_272 : decode cL_builds 272 = .ok (.idiv, 1) := by decide +kernel
theorem dL_builds_273 : decode cL_builds 273 = .ok (.if_icmp .ne 41, 3) := by decide +kernel
theorem dL_builds_276 : decode cL_builds 276 = .ok (.aload_n 0, 1) := by decide +kernel
theorem dL_builds_277 : decode cL_builds 277 = .ok (.iload 12, 2) := by decide +kernel
theorem dL_builds_279 : decode cL_builds 279 = .ok (.iconst 5, 1) := by decide +kernel
theorem dL_builds_280 : decode cL_builds 280 = .ok (.invokevirtual 39, 3) := by decide +kernel
theorem dL_builds_283 : decode cL_builds 283 = .ok (.iconst 3, 1) := by decide +kernel
theorem dL_builds_284 : decode cL_builds 284 = .ok (.aload_n 0, 1) := by decide +kernel
theorem dL_builds_285 : decode cL_builds 285 = .ok (.iload 12, 2) := by decide +kernel
theorem dL_builds_287 : decode cL_builds 287 = .ok (.iconst 2, 1) := by decide +kernel
theorem dL_builds_288 : decode cL_builds 288 = .ok (.invokevirtual 39, 3) := by decide +kernel
theorem dL_builds_291 : decode cL_builds 291 = .ok (.imul, 1) := by decide +kernel
theorem dL_builds_292 : decode cL_builds 292 = .ok (.bipush 100, 2) := by decide +kernel
theorem dL_builds_294 : decode cL_builds 294 = .ok (.iload 10, 2) := by decide +kernel
theorem dL_builds_296 : decode cL_builds 296 = .ok (.imul, 1) := by decide +kernel
theorem dL_builds_297 : decode cL_builds 297 = .ok (.iadd, 1) := by decide +kernel
theorem dL_builds_298 : decode cL_builds 298 = .ok (.if_icmp .ne 16, 3) := by decide +kernel
theorem dL_builds_301 : decode cL_builds 301 = .ok (.aload_n 0, 1) := by decide +kernel
theorem dL_builds_302 : decode cL_builds 302 = .ok (.iload 12, 2) := by decide +kernel
theorem dL_builds_304 : decode cL_builds 304 = .ok (.invokevirtual 68, 3) := by decide +kernel
theorem dL_builds_307 : decode cL_builds 307 = .ok (.ifCond .ne 7, 3) := by decide +kernel
theorem dL_builds_310 : decode cL_builds 310 = .ok (.iconst 1, 1) := by decide +kernel
theorem dL_builds_311 : decode cL_builds 311 = .ok (.goto 4, 3) := by decide +kernel
theorem dL_builds_314 : decode cL_builds 314 = .ok (.iconst 0, 1) := by decide +kernel
theorem dL_builds_315 : decode cL_builds 315 = .ok (.ireturn, 1) := by decide +kernel
theorem dL_isLight_0 : decode cL_isLight 0 = .ok (.iconst 0, 1) := by decide +kernel
theorem dL_isLight_1 : decode cL_isLight 1 = .ok (.istore 5, 2) := by decide +kernel
theorem dL_isLight_3 : decode cL_isLight 3 = .ok (.aload_n 0, 1) := by decide +kernel
theorem dL_isLight_4 : decode cL_isLight 4 = .ok (.iload_n 1, 1) := by decide +kernel
theorem dL_isLight_5 : decode cL_isLight 5 = .ok (.invokevirtual 71, 3) := by decide +kernel
theorem dL_isLight_8 : decode cL_isLight 8 = .ok (.istore 6, 2) := by decide +kernel
theorem dL_isLight_10 : decode cL_isLight 10 = .ok (.lconst 0, 1) := by decide +kernel
theorem dL_isLight_11 : decode cL_isLight 11 = .ok (.lstore 7, 2) := by decide +kernel
theorem dL_isLight_13 : decode cL_isLight 13 = .ok (.iconst (-1), 1) := by decide +kernel
theorem dL_isLight_14 : decode cL_isLight 14 = .ok (.istore 9, 2) := by decide +kernel
theorem dL_isLight_16 : decode cL_isLight 16 = .ok (.iconst (-1), 1) := by decide +kernel
theorem dL_isLight_17 : decode cL_isLight 17 = .ok (.istore 10, 2) := by decide +kernel
theorem dL_isLight_19 : decode cL_isLight 19 = .ok (.iload 6, 2) := by decide +kernel
theorem dL_isLight_21 : decode cL_isLight 21 = .ok (.ifCond .lt 7, 3) := by decide +kernel
theorem dL_isLight_24 : decode cL_isLight 24 = .ok (.iconst 1, 1) := by decide +kernel
theorem dL_isLight_25 : decode cL_isLight 25 = .ok (.goto 4, 3) := by decide +kernel
theorem dL_isLight_28 : decode cL_isLight 28 = .ok (.iconst 0, 1) := by decide +kernel
theorem dL_isLight_29 : decode cL_isLight 29 = .ok (.istore 11, 2) := by decide +kernel
theorem dL_isLight_31 : decode cL_isLight 31 = .ok (.iconst 0, 1) := by decide +kernel
theorem dL_isLight_32 : decode cL_isLight 32 = .ok (.istore 12, 2) := by decide +kernel
theorem dL_isLight_34 : decode cL_isLight 34 = .ok (.iload 12, 2) := by decide +kernel
theorem dL_isLight_36 : decode cL_isLight 36 = .ok (.bipush 20, 2) := by decide +kernel
theorem dL_isLight_38 : decode cL_isLight 38 = .ok (.if_icmp .ge 213, 3) := by decide +kernel
theorem dL_isLight_41 : decode cL_isLight 41 = .ok (.iload 11, 2) := by decide +kernel
theorem dL_isLight_43 : decode cL_isLight 43 = .ok (.ifCond .eq 208, 3) := by decide +kernel
theorem dL_isLight_46 : decode cL_isLight 46 = .ok (.bipush 60, 2) := by decide +kernel
theorem dL_isLight_48 : decode cL_isLight 48 = .ok (.iload_n 1, 1) := by decide +kernel
theorem dL_isLight_49 : decode cL_isLight 49 = .ok (.imul, 1) := by decide +kernel
theorem dL_isLight_50 : decode cL_isLight 50 = .ok (.iload 12, 2) := by decide +kernel
theorem dL_isLight_52 : decode cL_isLight 52 = .ok (.iadd, 1) := by decide +kernel
theorem dL_isLight_53 : decode cL_isLight 53 = .ok (.istore 13, 2) := by decide +kernel
theorem dL_isLight_55 : decode cL_isLight 55 = .ok (.aload 4, 2) := by decide +kernel
theorem dL_isLight_57 : decode cL_isLight 57 = .ok (.iload 13, 2) := by decide +kernel
theorem dL_isLight_59 : decode cL_isLight 59 = .ok (.bipush 20, 2) := by decide +kernel
theorem dL_isLight_61 : decode cL_isLight 61 = .ok (.iadd, 1) := by decide +kernel
theorem dL_isLight_62 : decode cL_isLight 62 = .ok (.iaload, 1) := by decide +kernel
theorem dL_isLight_63 : decode cL_isLight 63 = .ok (.ifCond .lt 24, 3) := by decide +kernel
theorem dL_isLight_66 : decode cL_isLight 66 = .ok (.aload_n 3, 1) := by decide +kernel
theorem dL_isLight_67 : decode cL_isLight 67 = .ok (.iconst 3, 1) := by decide +kernel
theorem dL_isLight_68 : decode cL_isLight 68 = .ok (.iaload, 1) := by decide +kernel
theorem dL_isLight_69 : decode cL_isLight 69 = .ok (.aload 4, 2) := by decide +kernel
theorem dL_isLight_71 : decode cL_isLight 71 = .ok (.iload 13, 2) := by decide +kernel
theorem dL_isLight_73 : decode cL_isLight 73 = .ok (.bipush 40, 2) := by decide +kernel
theorem dL_isLight_75 : decode cL_isLight 75 = .ok (.iadd, 1) := by decide +kernel
theorem dL_isLight_76 : decode cL_isLight 76 = .ok (.iaload, 1) := by decide +kernel
theorem dL_isLight_77 : decode cL_isLight 77 = .ok (.ishr, 1) := by decide +kernel
theorem dL_isLight_78 : decode cL_isLight 78 = .ok (.iconst 1, 1) := by decide +kernel
theorem dL_isLight_79 : decode cL_isLight 79 = .ok (.iand, 1) := by decide +kernel
theorem dL_isLight_80 : decode cL_isLight 80 = .ok (.ifCond .ne 7, 3) := by decide +kernel
theorem dL_isLight_83 : decode cL_isLight 83 = .ok (.iconst 1, 1) := by decide +kernel
theorem dL_isLight_84 : decode cL_isLight 84 = .ok (.goto 4, 3) := by decide +kernel
theorem dL_isLight_87 : decode cL_isLight 87 = .ok (.iconst 0, 1) := by decide +kernel
theorem dL_isLight_88 : decode cL_isLight 88 = .ok (.istore 14, 2) := by decide +kernel
theorem dL_isLight_90 : decode cL_isLight 90 = .ok (.bipush 12, 2) := by decide +kernel
theorem dL_isLight_92 : decode cL_isLight 92 = .ok (.iload 12, 2) := by decide +kernel
theorem dL_isLight_94 : decode cL_isLight 94 = .ok (.imul, 1) := by decide +kernel
theorem dL_isLight_95 : decode cL_isLight 95 = .ok (.iload_n 1, 1) := by decide +kernel
theorem dL_isLight_96 : decode cL_isLight 96 = .ok (.iadd, 1) := by decide +kernel
theorem dL_isLight_97 : decode cL_isLight 97 = .ok (.istore 15, 2) := by decide +kernel
theorem dL_isLight_99 : decode cL_isLight 99 = .ok (.iload 5, 2) := by decide +kernel
theorem dL_isLight_101 : decode cL_isLight 101 = .ok (.iload 14, 2) := by decide +kernel
theorem dL_isLight_103 : decode cL_isLight 103 = .ok (.ifCond .eq 7, 3) := by decide +kernel
theorem dL_isLight_106 : decode cL_isLight 106 = .ok (.iconst 1, 1) := by decide +kernel
theorem dL_isLight_107 : decode cL_isLight 107 = .ok (.goto 4, 3) := by decide +kernel
theorem dL_isLight_110 : decode cL_isLight 110 = .ok (.iconst 0, 1) := by decide +kernel
theorem dL_isLight_111 : decode cL_isLight 111 = .ok (.iadd, 1) := by decide +kernel
theorem dL_isLight_112 : decode cL_isLight 112 = .ok (.istore 5, 2) := by decide +kernel
theorem dL_isLight_114 : decode cL_isLight 114 = .ok (.lload 7, 2) := by decide +kernel
theorem dL_isLight_116 : decode cL_isLight 116 = .ok (.iload 14, 2) := by decide +kernel
theorem dL_isLight_118 : decode cL_isLight 118 = .ok (.ifCond .eq 15, 3) := by decide +kernel
theorem dL_isLight_121 : decode cL_isLight 121 = .ok (.aload_n 0, 1) := by decide +kernel
theorem dL_isLight_122 : decode cL_isLight 122 = .ok (.iload_n 1, 1) := by decide +kernel
theorem dL_isLight_123 : decode cL_isLight 123 = .ok (.iconst 1, 1) := by decide +kernel
theorem dL_isLight_124 : decode cL_isLight 124 = .ok (.iload 15, 2) := by decide +kernel
theorem dL_isLight_126 : decode cL_isLight 126 = .ok (.invokevirtual 74, 3) := by decide +kernel
theorem dL_isLight_129 : decode cL_isLight 129 = .ok (.i2l, 1) := by decide +kernel
theorem dL_isLight_130 : decode cL_isLight 130 = .ok (.goto 4, 3) := by decide +kernel
theorem dL_isLight_133 : decode cL_isLight 133 = .ok (.lconst 0, 1) := by decide +kernel
theorem dL_isLight_134 : decode cL_isLight 134 = .ok (.ladd, 1) := by decide +kernel
theorem dL_isLight_135 : decode cL_isLight 135 = .ok (.lstore 7, 2) := by decide +kernel
theorem dL_isLight_137 : decode cL_isLight 137 = .ok (.iload 14, 2) := by decide +kernel
theorem dL_isLight_139 : decode cL_isLight 139 = .ok (.ifCond .eq 13, 3) := by decide +kernel
theorem dL_isLight_142 : decode cL_isLight 142 = .ok (.iload 9, 2) := by decide +kernel
theorem dL_isLight_144 : decode cL_isLight 144 = .ok (.ifCond .ge 8, 3) := by decide +kernel
theorem dL_isLight_147 : decode cL_isLight 147 = .ok (.iload 15, 2) := by decide +kernel
theorem dL_isLight_149 : decode cL_isLight 149 = .ok (.goto 5, 3) := by decide +kernel
theorem dL_isLight_152 : decode cL_isLight 152 = .ok (.iload 9, 2) := by decide +kernel
theorem dL_isLight_154 : decode cL_isLight 154 = .ok (.istore 9, 2) := by decide +kernel
theorem dL_isLight_156 : decode cL_isLight 156 = .ok (.iload 14, 2) := by decide +kernel
theorem dL_isLight_158 : decode cL_isLight 158 = .ok (.ifCond .eq 8, 3) := by decide +kernel
theorem dL_isLight_161 : decode cL_isLight 161 = .ok (.iload 15, 2) := by decide +kernel
theorem dL_isLight_163 : decode cL_isLight 163 = .ok (.goto 5, 3) := by decide +kernel
theorem dL_isLight_166 : decode cL_isLight 166 = .ok (.iload 10, 2) := by decide +kernel
theorem dL_isLight_168 : decode cL_isLight 168 = .ok (.istore 10, 2) := by decide +kernel
theorem dL_isLight_170 : decode cL_isLight 170 = .ok (.aload_n 0, 1) := by decide +kernel
theorem dL_isLight_171 : decode cL_isLight 171 = .ok (.iload_n 1, 1) := by decide +kernel
theorem dL_isLight_172 : decode cL_isLight 172 = .ok (.iconst 0, 1) := by decide +kernel
theorem dL_isLight_173 : decode cL_isLight 173 = .ok (.iload 15, 2) := by decide +kernel
theorem dL_isLight_175 : decode cL_isLight 175 = .ok (.invokevirtual 74, 3) := by decide +kernel
theorem dL_isLight_178 : decode cL_isLight 178 = .ok (.iload 14, 2) := by decide +kernel
theorem dL_isLight_180 : decode cL_isLight 180 = .ok (.ifCond .eq 14, 3) := by decide +kernel
theorem dL_isLight_183 : decode cL_isLight 183 = .ok (.aload 4, 2) := by decide +kernel
theorem dL_isLight_185 : decode cL_isLight 185 = .ok (.iload 13, 2) := by decide +kernel
theorem dL_isLight_187 : decode cL_isLight 187 = .ok (.bipush 20, 2) := by decide +kernel
theorem dL_isLight_189 : decode cL_isLight 189 = .ok (.iadd, 1) := by decide +kernel
theorem dL_isLight_190 : decode cL_isLight 190 = .ok (.iaload, 1) := by decide +kernel
theorem dL_isLight_191 : decode cL_isLight 191 = .ok (.goto 4, 3) := by decide +kernel
theorem dL_isLight_194 : decode cL_isLight 194 = .ok (.iconst 0, 1) := by decide +kernel
theorem dL_isLight_195 : decode cL_isLight 195 = .ok (.if_icmp .ne 47, 3) := by decide +kernel
theorem dL_isLight_198 : decode cL_isLight 198 = .ok (.aload_n 0, 1) := by decide +kernel
theorem dL_isLight_199 : decode cL_isLight 199 = .ok (.iload_n 1, 1) := by decide +kernel
theorem dL_isLight_200 : decode cL_isLight 200 = .ok (.iconst 0, 1) := by decide +kernel
theorem dL_isLight_201 : decode cL_isLight 201 = .ok (.iload 15, 2) := by decide +kernel
theorem dL_isLight_203 : decode cL_isLight 203 = .ok (.iconst 5, 1) := by decide +kernel
theorem dL_isLight_204 : decode cL_isLight 204 = .ok (.iadd, 1) := by decide +kernel
theorem dL_isLight_205 : decode cL_isLight 205 = .ok (.invokevirtual 74, 3) := by decide +kernel
theorem dL_isLight_208 : decode cL_isLight 208 = .ok (.ifCond .ne 34, 3) := by decide +kernel
theorem dL_isLight_211 : decode cL_isLight 211 = .ok (.iload 14, 2) := by decide +kernel
theorem dL_isLight_213 : decode cL_isLight 213 = .ok (.ifCond .ne 25, 3) := by decide +kernel
theorem dL_isLight_216 : decode cL_isLight 216 = .ok (.aload_n 0, 1) := by decide +kernel
theorem dL_isLight_217 : decode cL_isLight 217 = .ok (.iload_n 1, 1) := by decide +kernel
theorem dL_isLight_218 : decode cL_isLight 218 = .ok (.iconst 1, 1) := by decide +kernel
theorem dL_isLight_219 : decode cL_isLight 219 = .ok (.iload 15, 2) := by decide +kernel
theorem dL_isLight_221 : decode cL_isLight 221 = .ok (.invokevirtual 74, 3) := by decide +kernel
theorem dL_isLight_224 : decode cL_isLight 224 = .ok (.ifCond .ne 18, 3) := by decide +kernel
theorem dL_isLight_227 : decode cL_isLight 227 = .ok (.aload_n 0, 1) := by decide +kernel
theorem dL_isLight_228 : decode cL_isLight 228 = .ok (.iload_n 1, 1) := by decide +kernel
theorem dL_isLight_229 : decode cL_isLight 229 = .ok (.iconst 2, 1) := by decide +kernel
theorem dL_isLight_230 : decode cL_isLight 230 = .ok (.iload 15, 2) := by decide +kernel
theorem dL_isLight_232 : decode cL_isLight 232 = .ok (.invokevirtual 74, 3) := by decide +kernel
theorem dL_isLight_235 : decode cL_isLight 235 = .ok (.ifCond .ne 7, 3) := by decide +kernel
theorem dL_isLight_238 : decode cL_isLight 238 = .ok (.iconst 1, 1) := by decide +kernel
theorem dL_isLight_239 : decode cL_isLight 239 = .ok (.goto 4, 3) := by decide +kernel
theorem dL_isLight_242 : decode cL_isLight 242 = .ok (.iconst 0, 1) := by decide +kernel
theorem dL_isLight_243 : decode cL_isLight 243 = .ok (.istore 11, 2) := by decide +kernel
theorem dL_isLight_245 : decode cL_isLight 245 = .ok (.iinc 12 1, 3) := by decide +kernel
theorem dL_isLight_248 : decode cL_isLight 248 = .ok (.goto (-214), 3) := by decide +kernel
theorem dL_isLight_251 : decode cL_isLight 251 = .ok (.iload_n 2, 1) := by decide +kernel
theorem dL_isLight_252 : decode cL_isLight 252 = .ok (.bipush 32, 2) := by decide +kernel
theorem dL_isLight_254 : decode cL_isLight 254 = .ok (.irem, 1) := by decide +kernel
theorem dL_isLight_255 : decode cL_isLight 255 = .ok (.istore 12, 2) := by decide +kernel
theorem dL_isLight_257 : decode cL_isLight 257 = .ok (.iload 12, 2) := by decide +kernel
theorem dL_isLight_259 : decode cL_isLight 259 = .ok (.iconst 1, 1) := by decide +kernel
theorem dL_isLight_260 : decode cL_isLight 260 = .ok (.iadd, 1) := by decide +kernel
theorem dL_isLight_261 : decode cL_isLight 261 = .ok (.iload_n 2, 1) := by decide +kernel
theorem dL_isLight_262 : decode cL_isLight 262 = .ok (.bipush 32, 2) := by decide +kernel
theorem dL_isLight_264 : decode cL_isLight 264 = .ok (.idiv, 1) := by decide +kernel
theorem dL_isLight_265 : decode cL_isLight 265 = .ok (.bipush 31, 2) := by decide +kernel
theorem dL_isLight_267 : decode cL_isLight 267 = .ok (.irem, 1) := by decide +kernel
theorem dL_isLight_268 : decode cL_isLight 268 = .ok (.iadd, 1) := by decide +kernel
theorem dL_isLight_269 : decode cL_isLight 269 = .ok (.bipush 32, 2) := by decide +kernel
theorem dL_isLight_271 : decode cL_isLight 271 = .ok (.irem, 1) := by decide +kernel
theorem dL_isLight_272 : decode cL_isLight 272 = .ok (.istore 13, 2) := by decide +kernel
theorem dL_isLight_274 : decode cL_isLight 274 = .ok (.iload_n 2, 1) := by decide +kernel
theorem dL_isLight_275 : decode cL_isLight 275 = .ok (.sipush 1000, 3) := by decide +kernel
theorem dL_isLight_278 : decode cL_isLight 278 = .ok (.idiv, 1) := by decide +kernel
theorem dL_isLight_279 : decode cL_isLight 279 = .ok (.iconst 3, 1) := by decide +kernel
theorem dL_isLight_280 : decode cL_isLight 280 = .ok (.irem, 1) := by decide +kernel
theorem dL_isLight_281 : decode cL_isLight 281 = .ok (.istore 14, 2) := by decide +kernel
theorem dL_isLight_283 : decode cL_isLight 283 = .ok (.aload_n 0, 1) := by decide +kernel
theorem dL_isLight_284 : decode cL_isLight 284 = .ok (.iload_n 1, 1) := by decide +kernel
theorem dL_isLight_285 : decode cL_isLight 285 = .ok (.iload 14, 2) := by decide +kernel
theorem dL_isLight_287 : decode cL_isLight 287 = .ok (.iload 12, 2) := by decide +kernel
theorem dL_isLight_289 : decode cL_isLight 289 = .ok (.invokevirtual 77, 3) := by decide +kernel
theorem dL_isLight_292 : decode cL_isLight 292 = .ok (.lstore 15, 2) := by decide +kernel
theorem dL_isLight_294 : decode cL_isLight 294 = .ok (.aload_n 0, 1) := by decide +kernel
theorem dL_isLight_295 : decode cL_isLight 295 = .ok (.iload_n 1, 1) := by decide +kernel
theorem dL_isLight_296 : decode cL_isLight 296 = .ok (.iload 14, 2) := by decide +kernel
theorem dL_isLight_298 : decode cL_isLight 298 = .ok (.iload 13, 2) := by decide +kernel
theorem dL_isLight_300 : decode cL_isLight 300 = .ok (.invokevirtual 77, 3) := by decide +kernel
theorem dL_isLight_303 : decode cL_isLight 303 = .ok (.lstore 17, 2) := by decide +kernel
theorem dL_isLight_305 : decode cL_isLight 305 = .ok (.iload 12, 2) := by decide +kernel
theorem dL_isLight_307 : decode cL_isLight 307 = .ok (.iload 13, 2) := by decide +kernel
theorem dL_isLight_309 : decode cL_isLight 309 = .ok (.if_icmp .le 11, 3) := by decide +kernel
theorem dL_isLight_312 : decode cL_isLight 312 = .ok (.iload 12, 2) := by decide +kernel
theorem dL_isLight_314 : decode cL_isLight 314 = .ok (.iload 13, 2) := by decide +kernel
theorem dL_isLight_316 : decode cL_isLight 316 = .ok (.isub, 1) := by decide +kernel
theorem dL_isLight_317 : decode cL_isLight 317 = .ok (.goto 8, 3) := by decide +kernel
theorem dL_isLight_320 : decode cL_isLight 320 = .ok (.iload 13, 2) := by decide +kernel
theorem dL_isLight_322 : decode cL_isLight 322 = .ok (.iload 12, 2) := by decide +kernel
theorem dL_isLight_324 : decode cL_isLight 324 = .ok (.isub, 1) := by decide +kernel
theorem dL_isLight_325 : decode cL_isLight 325 = .ok (.istore 19, 2) := by decide +kernel
theorem dL_isLight_327 : decode cL_isLight 327 = .ok (.iload 11, 2) := by decide +kernel
theorem dL_isLight_329 : decode cL_isLight 329 = .ok (.ifCond .eq 96, 3) := by decide +kernel
theorem dL_isLight_332 : decode cL_isLight 332 = .ok (.aload_n 0, 1) := by decide +kernel
theorem dL_isLight_333 : decode cL_isLight 333 = .ok (.iload_n 1, 1) := by decide +kernel
theorem dL_isLight_334 : decode cL_isLight 334 = .ok (.invokevirtual 68, 3) := by decide +kernel
theorem dL_isLight_337 : decode cL_isLight 337 = .ok (.iload 5, 2) := by decide +kernel
theorem dL_isLight_339 : decode cL_isLight 339 = .ok (.if_icmp .ne 86, 3) := by decide +kernel
theorem dL_isLight_342 : decode cL_isLight 342 = .ok (.lload 7, 2) := by decide +kernel
theorem dL_isLight_344 : decode cL_isLight 344 = .ok (.lconst 0, 1) := by decide +kernel
theorem dL_isLight_345 : decode cL_isLight 345 = .ok (.lcmp, 1) := by decide +kernel
theorem dL_isLight_346 : decode cL_isLight 346 = .ok (.ifCond .lt 79, 3) := by decide +kernel
theorem dL_isLight_349 : decode cL_isLight 349 = .ok (.iload 5, 2) := by decide +kernel
theorem dL_isLight_351 : decode cL_isLight 351 = .ok (.ifCond .eq 12, 3) := by decide +kernel
theorem dL_isLight_354 : decode cL_isLight 354 = .ok (.lload 7, 2) := by decide +kernel
theorem dL_isLight_356 : decode cL_isLight 356 = .ok (.iload 5, 2) := by decide +kernel
theorem dL_isLight_358 : decode cL_isLight 358 = .ok (.i2l, 1) := by decide +kernel
theorem dL_isLight_359 : decode cL_isLight 359 = .ok (.lcmp, 1) := by decide +kernel
theorem dL_isLight_360 : decode cL_isLight 360 = .ok (.ifCond .ge 65, 3) := by decide +kernel
theorem dL_isLight_363 : decode cL_isLight 363 = .ok (.iload 5, 2) := by decide +kernel
theorem dL_isLight_365 : decode cL_isLight 365 = .ok (.ifCond .eq 25, 3) := by decide +kernel
theorem dL_isLight_368 : decode cL_isLight 368 = .ok (.aload_n 0, 1) := by decide +kernel
theorem dL_isLight_369 : decode cL_isLight 369 = .ok (.iload_n 1, 1) := by decide +kernel
theorem dL_isLight_370 : decode cL_isLight 370 = .ok (.iconst 2, 1) := by decide +kernel
theorem dL_isLight_371 : decode cL_isLight 371 = .ok (.iload 9, 2) := by decide +kernel
theorem dL_isLight_373 : decode cL_isLight 373 = .ok (.invokevirtual 74, 3) := by decide +kernel
theorem dL_isLight_376 : decode cL_isLight 376 = .ok (.ifCond .ne 49, 3) := by decide +kernel
theorem dL_isLight_379 : decode cL_isLight 379 = .ok (.aload_n 0, 1) := by decide +kernel
theorem dL_isLight_380 : decode cL_isLight 380 = .ok (.iload_n 1, 1) := by decide +kernel
theorem dL_isLight_381 : decode cL_isLight 381 = .ok (.iconst 2, 1) := by decide +kernel
theorem dL_isLight_382 : decode cL_isLight 382 = .ok (.iload 10, 2) := by decide +kernel
theorem dL_isLight_384 : decode cL_isLight 384 = .ok (.invokevirtual 74, 3) := by decide +kernel
theorem dL_isLight_387 : decode cL_isLight 387 = .ok (.ifCond .ne 38, 3) := by decide +kernel
theorem dL_isLight_390 : decode cL_isLight 390 = .ok (.aload_n 0, 1) := by decide +kernel
theorem dL_isLight_391 : decode cL_isLight 391 = .ok (.iload_n 1, 1) := by decide +kernel
theorem dL_isLight_392 : decode cL_isLight 392 = .ok (.iconst 0, 1) := by decide +kernel
theorem dL_isLight_393 : decode cL_isLight 393 = .ok (.invokevirtual 81, 3) := by decide +kernel
theorem dL_isLight_396 : decode cL_isLight 396 = .ok (.iload 5, 2) := by decide +kernel
theorem dL_isLight_398 : decode cL_isLight 398 = .ok (.i2l, 1) := by decide +kernel
theorem dL_isLight_399 : decode cL_isLight 399 = .ok (.iload 5, 2) := by decide +kernel
theorem dL_isLight_401 : decode cL_isLight 401 = .ok (.i2l, 1) := by decide +kernel
theorem dL_isLight_402 : decode cL_isLight 402 = .ok (.lmul, 1) := by decide +kernel
theorem dL_isLight_403 : decode cL_isLight 403 = .ok (.lcmp, 1) := by decide +kernel
theorem dL_isLight_404 : decode cL_isLight 404 = .ok (.ifCond .ne 21, 3) := by decide +kernel
theorem dL_isLight_407 : decode cL_isLight 407 = .ok (.lload 15, 2) := by decide +kernel
theorem dL_isLight_409 : decode cL_isLight 409 = .ok (.lconst 0, 1) := by decide +kernel
theorem dL_isLight_410 : decode cL_isLight 410 = .ok (.lcmp, 1) := by decide +kernel
theorem dL_isLight_411 : decode cL_isLight 411 = .ok (.ifCond .lt 14, 3) := by decide +kernel
theorem dL_isLight_414 : decode cL_isLight 414 = .ok (.lload 17, 2) := by decide +kernel
theorem dL_isLight_416 : decode cL_isLight 416 = .ok (.lconst 0, 1) := by decide +kernel
theorem dL_isLight_417 : decode cL_isLight 417 = .ok (.lcmp, 1) := by decide +kernel
theorem dL_isLight_418 : decode cL_isLight 418 = .ok (.ifCond .lt 7, 3) := by decide +kernel
theorem dL_isLight_421 : decode cL_isLight 421 = .ok (.iconst 1, 1) := by decide +kernel
theorem dL_isLight_422 : decode cL_isLight 422 = .ok (.goto 4, 3) := by decide +kernel
theorem dL_isLight_425 : decode cL_isLight 425 = .ok (.iconst 0, 1) := by decide +kernel
theorem dL_isLight_426 : decode cL_isLight 426 = .ok (.istore 11, 2) := by decide +kernel
theorem dL_isLight_428 : decode cL_isLight 428 = .ok (.iload 11, 2) := by decide +kernel
theorem dL_isLight_430 : decode cL_isLight 430 = .ok (.ifCond .eq 56, 3) := by decide +kernel
theorem dL_isLight_433 : decode cL_isLight 433 = .ok (.aload_n 0, 1) := by decide +kernel
theorem dL_isLight_434 : decode cL_isLight 434 = .ok (.iload_n 1, 1) := by decide +kernel
theorem dL_isLight_435 : decode cL_isLight 435 = .ok (.iload 14, 2) := by decide +kernel
theorem dL_isLight_437 : decode cL_isLight 437 = .ok (.iload 12, 2) := by decide +kernel
theorem dL_isLight_439 : decode cL_isLight 439 = .ok (.iload 13, 2) := by decide +kernel
theorem dL_isLight_441 : decode cL_isLight 441 = .ok (.invokevirtual 85, 3) := by decide +kernel
theorem dL_isLight_444 : decode cL_isLight 444 = .ok (.lload 17, 2) := by decide +kernel
theorem dL_isLight_446 : decode cL_isLight 446 = .ok (.lload 15, 2) := by decide +kernel
theorem dL_isLight_448 : decode cL_isLight 448 = .ok (.lcmp, 1) := by decide +kernel
theorem dL_isLight_449 : decode cL_isLight 449 = .ok (.ifCond .le 29, 3) := by decide +kernel
theorem dL_isLight_452 : decode cL_isLight 452 = .ok (.ldc2_w 89, 3) := by decide +kernel
theorem dL_isLight_455 : decode cL_isLight 455 = .ok (.aload_n 0, 1) := by decide +kernel
theorem dL_isLight_456 : decode cL_isLight 456 = .ok (.iload_n 1, 1) := by decide +kernel
theorem dL_isLight_457 : decode cL_isLight 457 = .ok (.iload 19, 2) := by decide +kernel
theorem dL_isLight_459 : decode cL_isLight 459 = .ok (.invokevirtual 81, 3) := by decide +kernel
theorem dL_isLight_462 : decode cL_isLight 462 = .ok (.lmul, 1) := by decide +kernel
theorem dL_isLight_463 : decode cL_isLight 463 = .ok (.iload 5, 2) := by decide +kernel
theorem dL_isLight_465 : decode cL_isLight 465 = .ok (.i2l, 1) := by decide +kernel
theorem dL_isLight_466 : decode cL_isLight 466 = .ok (.iload 5, 2) := by decide +kernel
theorem dL_isLight_468 : decode cL_isLight 468 = .ok (.i2l, 1) := by decide +kernel
theorem dL_isLight_469 : decode cL_isLight 469 = .ok (.lmul, 1) := by decide +kernel
theorem dL_isLight_470 : decode cL_isLight 470 = .ok (.lcmp, 1) := by decide +kernel
theorem dL_isLight_471 : decode cL_isLight 471 = .ok (.ifCond .lt 7, 3) := by decide +kernel
theorem dL_isLight_474 : decode cL_isLight 474 = .ok (.iconst 1, 1) := by decide +kernel
theorem dL_isLight_475 : decode cL_isLight 475 = .ok (.goto 4, 3) := by decide +kernel
theorem dL_isLight_478 : decode cL_isLight 478 = .ok (.iconst 0, 1) := by decide +kernel
theorem dL_isLight_479 : decode cL_isLight 479 = .ok (.if_icmp .ne 7, 3) := by decide +kernel
theorem dL_isLight_482 : decode cL_isLight 482 = .ok (.iconst 1, 1) := by decide +kernel
theorem dL_isLight_483 : decode cL_isLight 483 = .ok (.goto 4, 3) := by decide +kernel
theorem dL_isLight_486 : decode cL_isLight 486 = .ok (.iconst 0, 1) := by decide +kernel
theorem dL_isLight_487 : decode cL_isLight 487 = .ok (.istore 11, 2) := by decide +kernel
theorem dL_isLight_489 : decode cL_isLight 489 = .ok (.iload 11, 2) := by decide +kernel
theorem dL_isLight_491 : decode cL_isLight 491 = .ok (.ifCond .eq 101, 3) := by decide +kernel
theorem dL_isLight_494 : decode cL_isLight 494 = .ok (.aload_n 0, 1) := by decide +kernel
theorem dL_isLight_495 : decode cL_isLight 495 = .ok (.iload_n 1, 1) := by decide +kernel
theorem dL_isLight_496 : decode cL_isLight 496 = .ok (.iload 14, 2) := by decide +kernel
theorem dL_isLight_498 : decode cL_isLight 498 = .ok (.iload 12, 2) := by decide +kernel
theorem dL_isLight_500 : decode cL_isLight 500 = .ok (.invokevirtual 91, 3) := by decide +kernel
theorem dL_isLight_503 : decode cL_isLight 503 = .ok (.iload 12, 2) := by decide +kernel
theorem dL_isLight_505 : decode cL_isLight 505 = .ok (.ifCond .le 79, 3) := by decide +kernel
theorem dL_isLight_508 : decode cL_isLight 508 = .ok (.iload 12, 2) := by decide +kernel
theorem dL_isLight_510 : decode cL_isLight 510 = .ok (.bipush 31, 2) := by decide +kernel
theorem dL_isLight_512 : decode cL_isLight 512 = .ok (.if_icmp .ge 72, 3) := by decide +kernel
theorem dL_isLight_515 : decode cL_isLight 515 = .ok (.lload 15, 2) := by decide +kernel
theorem dL_isLight_517 : decode cL_isLight 517 = .ok (.aload_n 3, 1) := by decide +kernel
theorem dL_isLight_518 : decode cL_isLight 518 = .ok (.iconst 2, 1) := by decide +kernel
theorem dL_isLight_519 : decode cL_isLight 519 = .ok (.iaload, 1) := by decide +kernel
theorem dL_isLight_520 : decode cL_isLight 520 = .ok (.i2l, 1) := by decide +kernel
theorem dL_isLight_521 : decode cL_isLight 521 = .ok (.lcmp, 1) := by decide +kernel
theorem dL_isLight_522 : decode cL_isLight 522 = .ok (.ifCond .lt 62, 3) := by decide +kernel
theorem dL_isLight_525 : decode cL_isLight 525 = .ok (.lload 15, 2) := by decide +kernel
theorem dL_isLight_527 : decode cL_isLight 527 = .ok (.aload_n 0, 1) := by decide +kernel
theorem dL_isLight_528 : decode cL_isLight 528 = .ok (.iload_n 1, 1) := by decide +kernel
theorem dL_isLight_529 : decode cL_isLight 529 = .ok (.iload 14, 2) := by decide +kernel
theorem dL_isLight_531 : decode cL_isLight 531 = .ok (.iload 12, 2) := by decide +kernel
theorem dL_isLight_533 : decode cL_isLight 533 = .ok (.ifCond .ne 7, 3) := by decide +kernel
theorem dL_isLight_536 : decode cL_isLight 536 = .ok (.iconst 0, 1) := by decide +kernel
theorem dL_isLight_537 : decode cL_isLight 537 = .ok (.goto 7, 3) := by decide +kernel
theorem dL_isLight_540 : decode cL_isLight 540 = .ok (.iload 12, 2) := by decide +kernel
theorem dL_isLight_542 : decode cL_isLight 542 = .ok (.iconst 1, 1) := by decide +kernel
theorem dL_isLight_543 : decode cL_isLight 543 = .ok (.isub, 1) := by decide +kernel
theorem dL_isLight_544 : decode cL_isLight 544 = .ok (.invokevirtual 77, 3) := by decide +kernel
theorem dL_isLight_547 : decode cL_isLight 547 = .ok (.lcmp, 1) := by decide +kernel
theorem dL_isLight_548 : decode cL_isLight 548 = .ok (.ifCond .le 36, 3) := by decide +kernel
theorem dL_isLight_551 : decode cL_isLight 551 = .ok (.lload 15, 2) := by decide +kernel
theorem dL_isLight_553 : decode cL_isLight 553 = .ok (.aload_n 0, 1) := by decide +kernel
theorem dL_isLight_554 : decode cL_isLight 554 = .ok (.iload_n 1, 1) := by decide +kernel
theorem dL_isLight_555 : decode cL_isLight 555 = .ok (.iload 14, 2) := by decide +kernel
theorem dL_isLight_557 : decode cL_isLight 557 = .ok (.iload 12, 2) := by decide +kernel
theorem dL_isLight_559 : decode cL_isLight 559 = .ok (.bipush 31, 2) := by decide +kernel
theorem dL_isLight_561 : decode cL_isLight 561 = .ok (.if_icmp .ne 8, 3) := by decide +kernel
theorem dL_isLight_564 : decode cL_isLight 564 = .ok (.bipush 31, 2) := by decide +kernel
theorem dL_isLight_566 : decode cL_isLight 566 = .ok (.goto 7, 3) := by decide +kernel
theorem dL_isLight_569 : decode cL_isLight 569 = .ok (.iload 12, 2) := by decide +kernel
theorem dL_isLight_571 : decode cL_isLight 571 = .ok (.iconst 1, 1) := by decide +kernel
theorem dL_isLight_572 : decode cL_isLight 572 = .ok (.iadd, 1) := by decide +kernel
theorem dL_isLight_573 : decode cL_isLight 573 = .ok (.invokevirtual 77, 3) := by decide +kernel
theorem dL_isLight_576 : decode cL_isLight 576 = .ok (.lcmp, 1) := by decide +kernel
theorem dL_isLight_577 : decode cL_isLight 577 = .ok (.ifCond .le 7, 3) := by decide +kernel
theorem dL_isLight_580 : decode cL_isLight 580 = .ok (.iconst 1, 1) := by decide +kernel
theorem dL_isLight_581 : decode cL_isLight 581 = .ok (.goto 4, 3) := by decide +kernel
theorem dL_isLight_584 : decode cL_isLight 584 = .ok (.iconst 0, 1) := by decide +kernel
theorem dL_isLight_585 : decode cL_isLight 585 = .ok (.if_icmp .ne 7, 3) := by decide +kernel
theorem dL_isLight_588 : decode cL_isLight 588 = .ok (.iconst 1, 1) := by decide +kernel
theorem dL_isLight_589 : decode cL_isLight 589 = .ok (.goto 4, 3) := by decide +kernel
theorem dL_isLight_592 : decode cL_isLight 592 = .ok (.iconst 0, 1) := by decide +kernel
theorem dL_isLight_593 : decode cL_isLight 593 = .ok (.istore 11, 2) := by decide +kernel
theorem dL_isLight_595 : decode cL_isLight 595 = .ok (.iload 11, 2) := by decide +kernel
theorem dL_isLight_597 : decode cL_isLight 597 = .ok (.ifCond .eq 38, 3) := by decide +kernel
theorem dL_isLight_600 : decode cL_isLight 600 = .ok (.aload_n 0, 1) := by decide +kernel
theorem dL_isLight_601 : decode cL_isLight 601 = .ok (.iload_n 1, 1) := by decide +kernel
theorem dL_isLight_602 : decode cL_isLight 602 = .ok (.iload 14, 2) := by decide +kernel
theorem dL_isLight_604 : decode cL_isLight 604 = .ok (.iconst (-1), 1) := by decide +kernel
theorem dL_isLight_605 : decode cL_isLight 605 = .ok (.invokevirtual 91, 3) := by decide +kernel
theorem dL_isLight_608 : decode cL_isLight 608 = .ok (.ifCond .ne 27, 3) := by decide +kernel
theorem dL_isLight_611 : decode cL_isLight 611 = .ok (.aload_n 0, 1) := by decide +kernel
theorem dL_isLight_612 : decode cL_isLight 612 = .ok (.iload_n 1, 1) := by decide +kernel
theorem dL_isLight_613 : decode cL_isLight 613 = .ok (.iload 14, 2) := by decide +kernel
theorem dL_isLight_615 : decode cL_isLight 615 = .ok (.ldc 9, 2) := by decide +kernel
theorem dL_isLight_617 : decode cL_isLight 617 = .ok (.invokevirtual 91, 3) := by decide +kernel
theorem dL_isLight_620 : decode cL_isLight 620 = .ok (.ifCond .ne 15, 3) := by decide +kernel
theorem dL_isLight_623 : decode cL_isLight 623 = .ok (.aload_n 0, 1) := by decide +kernel
theorem dL_isLight_624 : decode cL_isLight 624 = .ok (.iload_n 1, 1) := by decide +kernel
theorem dL_isLight_625 : decode cL_isLight 625 = .ok (.invokevirtual 71, 3) := by decide +kernel
theorem dL_isLight_628 : decode cL_isLight 628 = .ok (.ifCond .ne 7, 3) := by decide +kernel
theorem dL_isLight_631 : decode cL_isLight 631 = .ok (.iconst 1, 1) := by decide +kernel
theorem dL_isLight_632 : decode cL_isLight 632 = .ok (.goto 4, 3) := by decide +kernel
theorem dL_isLight_635 : decode cL_isLight 635 = .ok (.iconst 0, 1) := by decide +kernel
theorem dL_isLight_636 : decode cL_isLight 636 = .ok (.ireturn, 1) := by decide +kernel
theorem dL_frames_0 : decode cL_frames 0 = .ok (.iload_n 1, 1) := by decide +kernel
theorem dL_frames_1 : decode cL_frames 1 = .ok (.aload_n 3, 1) := by decide +kernel
theorem dL_frames_2 : decode cL_frames 2 = .ok (.iconst 0, 1) := by decide +kernel
theorem dL_frames_3 : decode cL_frames 3 = .ok (.iaload, 1) := by decide +kernel
theorem dL_frames_4 : decode cL_frames 4 = .ok (.irem, 1) := by decide +kernel
theorem dL_frames_5 : decode cL_frames 5 = .ok (.istore 5, 2) := by decide +kernel
theorem dL_frames_7 : decode cL_frames 7 = .ok (.iload_n 1, 1) := by decide +kernel
theorem dL_frames_8 : decode cL_frames 8 = .ok (.bipush 8, 2) := by decide +kernel
theorem dL_frames_10 : decode cL_frames 10 = .ok (.idiv, 1) := by decide +kernel
theorem dL_frames_11 : decode cL_frames 11 = .ok (.bipush 20, 2) := by decide +kernel
theorem dL_frames_13 : decode cL_frames 13 = .ok (.irem, 1) := by decide +kernel
theorem dL_frames_14 : decode cL_frames 14 = .ok (.istore 6, 2) := by decide +kernel
theorem dL_frames_16 : decode cL_frames 16 = .ok (.bipush 60, 2) := by decide +kernel
theorem dL_frames_18 : decode cL_frames 18 = .ok (.iload 5, 2) := by decide +kernel
theorem dL_frames_20 : decode cL_frames 20 = .ok (.imul, 1) := by decide +kernel
theorem dL_frames_21 : decode cL_frames 21 = .ok (.iload 6, 2) := by decide +kernel
theorem dL_frames_23 : decode cL_frames 23 = .ok (.iadd, 1) := by decide +kernel
theorem dL_frames_24 : decode cL_frames 24 = .ok (.istore 7, 2) := by decide +kernel
theorem dL_frames_26 : decode cL_frames 26 = .ok (.aload 4, 2) := by decide +kernel
theorem dL_frames_28 : decode cL_frames 28 = .ok (.iload 7, 2) := by decide +kernel
theorem dL_frames_30 : decode cL_frames 30 = .ok (.bipush 20, 2) := by decide +kernel
theorem dL_frames_32 : decode cL_frames 32 = .ok (.iadd, 1) := by decide +kernel
theorem dL_frames_33 : decode cL_frames 33 = .ok (.iaload, 1) := by decide +kernel
theorem dL_frames_34 : decode cL_frames 34 = .ok (.istore 8, 2) := by decide +kernel
theorem dL_frames_36 : decode cL_frames 36 = .ok (.iload_n 1, 1) := by decide +kernel
theorem dL_frames_37 : decode cL_frames 37 = .ok (.sipush 160, 3) := by decide +kernel
theorem dL_frames_40 : decode cL_frames 40 = .ok (.idiv, 1) := by decide +kernel
theorem dL_frames_41 : decode cL_frames 41 = .ok (.iconst 5, 1) := by decide +kernel
theorem dL_frames_42 : decode cL_frames 42 = .ok (.irem, 1) := by decide +kernel
theorem dL_frames_43 : decode cL_frames 43 = .ok (.ifCond .ne 75, 3) := by decide +kernel
theorem dL_frames_46 : decode cL_frames 46 = .ok (.aload 4, 2) := by decide +kernel
theorem dL_frames_48 : decode cL_frames 48 = .ok (.iload 7, 2) := by decide +kernel
theorem dL_frames_50 : decode cL_frames 50 = .ok (.bipush 20, 2) := by decide +kernel
theorem dL_frames_52 : decode cL_frames 52 = .ok (.iadd, 1) := by decide +kernel
theorem dL_frames_53 : decode cL_frames 53 = .ok (.iconst (-1), 1) := by decide +kernel
theorem dL_frames_54 : decode cL_frames 54 = .ok (.iastore, 1) := by decide +kernel
theorem dL_frames_55 : decode cL_frames 55 = .ok (.aload_n 0, 1) := by decide +kernel
theorem dL_frames_56 : decode cL_frames 56 = .ok (.iconst 0, 1) := by decide +kernel
theorem dL_frames_57 : decode cL_frames 57 = .ok (.iload 5, 2) := by decide +kernel
theorem dL_frames_59 : decode cL_frames 59 = .ok (.bipush 12, 2) := by decide +kernel
theorem dL_frames_61 : decode cL_frames 61 = .ok (.iload 6, 2) := by decide +kernel
theorem dL_frames_63 : decode cL_frames 63 = .ok (.imul, 1) := by decide +kernel
theorem dL_frames_64 : decode cL_frames 64 = .ok (.iload 5, 2) := by decide +kernel
theorem dL_frames_66 : decode cL_frames 66 = .ok (.iadd, 1) := by decide +kernel
theorem dL_frames_67 : decode cL_frames 67 = .ok (.iconst 0, 1) := by decide +kernel
theorem dL_frames_68 : decode cL_frames 68 = .ok (.invokestatic 95, 3) := by decide +kernel
theorem dL_frames_71 : decode cL_frames 71 = .ok (.iload 8, 2) := by decide +kernel
theorem dL_frames_73 : decode cL_frames 73 = .ok (.ifCond .ge 9, 3) := by decide +kernel
theorem dL_frames_76 : decode cL_frames 76 = .ok (.ldc2_w 52, 3) := by decide +kernel
theorem dL_frames_79 : decode cL_frames 79 = .ok (.goto 6, 3) := by decide +kernel
theorem dL_frames_82 : decode cL_frames 82 = .ok (.iload 8, 2) := by decide +kernel
theorem dL_frames_84 : decode cL_frames 84 = .ok (.i2l, 1) := by decide +kernel
theorem dL_frames_85 : decode cL_frames 85 = .ok (.lcmp, 1) := by decide +kernel
theorem dL_frames_86 : decode cL_frames 86 = .ok (.ifCond .ne 30, 3) := by decide +kernel
theorem dL_frames_89 : decode cL_frames 89 = .ok (.aload_n 0, 1) := by decide +kernel
theorem dL_frames_90 : decode cL_frames 90 = .ok (.iconst 0, 1) := by decide +kernel
theorem dL_frames_91 : decode cL_frames 91 = .ok (.iload 5, 2) := by decide +kernel
theorem dL_frames_93 : decode cL_frames 93 = .ok (.bipush 12, 2) := by decide +kernel
theorem dL_frames_95 : decode cL_frames 95 = .ok (.iload 6, 2) := by decide +kernel
theorem dL_frames_97 : decode cL_frames 97 = .ok (.imul, 1) := by decide +kernel
theorem dL_frames_98 : decode cL_frames 98 = .ok (.iload 5, 2) := by decide +kernel
theorem dL_frames_100 : decode cL_frames 100 = .ok (.iadd, 1) := by decide +kernel
theorem dL_frames_101 : decode cL_frames 101 = .ok (.iconst 0, 1) := by decide +kernel
theorem dL_frames_102 : decode cL_frames 102 = .ok (.invokestatic 95, 3) := by decide +kernel
theorem dL_frames_105 : decode cL_frames 105 = .ok (.ldc2_w 52, 3) := by decide +kernel
theorem dL_frames_108 : decode cL_frames 108 = .ok (.lcmp, 1) := by decide +kernel
theorem dL_frames_109 : decode cL_frames 109 = .ok (.ifCond .ne 7, 3) := by decide +kernel
theorem dL_frames_112 : decode cL_frames 112 = .ok (.iconst 1, 1) := by decide +kernel
theorem dL_frames_113 : decode cL_frames 113 = .ok (.goto 4, 3) := by decide +kernel
theorem dL_frames_116 : decode cL_frames 116 = .ok (.iconst 0, 1) := by decide +kernel
theorem dL_frames_117 : decode cL_frames 117 = .ok (.ireturn, 1) := by decide +kernel
theorem dL_frames_118 : decode cL_frames 118 = .ok (.aload 4, 2) := by decide +kernel
theorem dL_frames_120 : decode cL_frames 120 = .ok (.iload 7, 2) := by decide +kernel
theorem dL_frames_122 : decode cL_frames 122 = .ok (.bipush 20, 2) := by decide +kernel
theorem dL_frames_124 : decode cL_frames 124 = .ok (.iadd, 1) := by decide +kernel
theorem dL_frames_125 : decode cL_frames 125 = .ok (.iload_n 2, 1) := by decide +kernel
theorem dL_frames_126 : decode cL_frames 126 = .ok (.sipush 10000, 3) := by decide +kernel
theorem dL_frames_129 : decode cL_frames 129 = .ok (.irem, 1) := by decide +kernel
theorem dL_frames_130 : decode cL_frames 130 = .ok (.iastore, 1) := by decide +kernel
theorem dL_frames_131 : decode cL_frames 131 = .ok (.aload 4, 2) := by decide +kernel
theorem dL_frames_133 : decode cL_frames 133 = .ok (.iload 7, 2) := by decide +kernel
theorem dL_frames_135 : decode cL_frames 135 = .ok (.bipush 40, 2) := by decide +kernel
theorem dL_frames_137 : decode cL_frames 137 = .ok (.iadd, 1) := by decide +kernel
theorem dL_frames_138 : decode cL_frames 138 = .ok (.iload_n 2, 1) := by decide +kernel
theorem dL_frames_139 : decode cL_frames 139 = .ok (.sipush 10000, 3) := by decide +kernel
theorem dL_frames_142 : decode cL_frames 142 = .ok (.idiv, 1) := by decide +kernel
theorem dL_frames_143 : decode cL_frames 143 = .ok (.iconst 4, 1) := by decide +kernel
theorem dL_frames_144 : decode cL_frames 144 = .ok (.irem, 1) := by decide +kernel
theorem dL_frames_145 : decode cL_frames 145 = .ok (.iastore, 1) := by decide +kernel
theorem dL_frames_146 : decode cL_frames 146 = .ok (.aload_n 0, 1) := by decide +kernel
theorem dL_frames_147 : decode cL_frames 147 = .ok (.iload 5, 2) := by decide +kernel
theorem dL_frames_149 : decode cL_frames 149 = .ok (.iload_n 2, 1) := by decide +kernel
theorem dL_frames_150 : decode cL_frames 150 = .ok (.sipush 10000, 3) := by decide +kernel
theorem dL_frames_153 : decode cL_frames 153 = .ok (.idiv, 1) := by decide +kernel
theorem dL_frames_154 : decode cL_frames 154 = .ok (.iconst 4, 1) := by decide +kernel
theorem dL_frames_155 : decode cL_frames 155 = .ok (.irem, 1) := by decide +kernel
theorem dL_frames_156 : decode cL_frames 156 = .ok (.bipush 12, 2) := by decide +kernel
theorem dL_frames_158 : decode cL_frames 158 = .ok (.iload 6, 2) := by decide +kernel
theorem dL_frames_160 : decode cL_frames 160 = .ok (.imul, 1) := by decide +kernel
theorem dL_frames_161 : decode cL_frames 161 = .ok (.iload 5, 2) := by decide +kernel
theorem dL_frames_163 : decode cL_frames 163 = .ok (.iadd, 1) := by decide +kernel
theorem dL_frames_164 : decode cL_frames 164 = .ok (.iload_n 2, 1) := by decide +kernel
theorem dL_frames_165 : decode cL_frames 165 = .ok (.sipush 10000, 3) := by decide +kernel
theorem dL_frames_168 : decode cL_frames 168 = .ok (.irem, 1) := by decide +kernel
theorem dL_frames_169 : decode cL_frames 169 = .ok (.invokevirtual 101, 3) := by decide +kernel
theorem dL_frames_172 : decode cL_frames 172 = .ok (.iload 8, 2) := by decide +kernel
theorem dL_frames_174 : decode cL_frames 174 = .ok (.if_icmp .ne 7, 3) := by decide +kernel
theorem dL_frames_177 : decode cL_frames 177 = .ok (.iconst 1, 1) := by decide +kernel
theorem dL_frames_178 : decode cL_frames 178 = .ok (.goto 4, 3) := by decide +kernel
theorem dL_frames_181 : decode cL_frames 181 = .ok (.iconst 0, 1) := by decide +kernel
theorem dL_frames_182 : decode cL_frames 182 = .ok (.ireturn, 1) := by decide +kernel
theorem dL_areClaims_0 : decode cL_areClaims 0 = .ok (.aload_n 0, 1) := by decide +kernel
theorem dL_areClaims_1 : decode cL_areClaims 1 = .ok (.bipush 7, 2) := by decide +kernel
theorem dL_areClaims_3 : decode cL_areClaims 3 = .ok (.aload_n 1, 1) := by decide +kernel
theorem dL_areClaims_4 : decode cL_areClaims 4 = .ok (.iconst 1, 1) := by decide +kernel
theorem dL_areClaims_5 : decode cL_areClaims 5 = .ok (.iaload, 1) := by decide +kernel
theorem dL_areClaims_6 : decode cL_areClaims 6 = .ok (.iconst 0, 1) := by decide +kernel
theorem dL_areClaims_7 : decode cL_areClaims 7 = .ok (.iconst 0, 1) := by decide +kernel
theorem dL_areClaims_8 : decode cL_areClaims 8 = .ok (.invokestatic 95, 3) := by decide +kernel
theorem dL_areClaims_11 : decode cL_areClaims 11 = .ok (.ldc2_w 44, 3) := by decide +kernel
theorem dL_areClaims_14 : decode cL_areClaims 14 = .ok (.lcmp, 1) := by decide +kernel
theorem dL_areClaims_15 : decode cL_areClaims 15 = .ok (.ifCond .ne 7, 3) := by decide +kernel
theorem dL_areClaims_18 : decode cL_areClaims 18 = .ok (.iconst 1, 1) := by decide +kernel
theorem dL_areClaims_19 : decode cL_areClaims 19 = .ok (.goto 4, 3) := by decide +kernel
theorem dL_areClaims_22 : decode cL_areClaims 22 = .ok (.iconst 0, 1) := by decide +kernel
theorem dL_areClaims_23 : decode cL_areClaims 23 = .ok (.istore 4, 2) := by decide +kernel
theorem dL_areClaims_25 : decode cL_areClaims 25 = .ok (.iconst 0, 1) := by decide +kernel
theorem dL_areClaims_26 : decode cL_areClaims 26 = .ok (.istore 5, 2) := by decide +kernel
theorem dL_areClaims_28 : decode cL_areClaims 28 = .ok (.iload 5, 2) := by decide +kernel
theorem dL_areClaims_30 : decode cL_areClaims 30 = .ok (.aload_n 1, 1) := by decide +kernel
theorem dL_areClaims_31 : decode cL_areClaims 31 = .ok (.iconst 1, 1) := by decide +kernel
theorem dL_areClaims_32 : decode cL_areClaims 32 = .ok (.iaload, 1) := by decide +kernel
theorem dL_areClaims_33 : decode cL_areClaims 33 = .ok (.if_icmp .ge 265, 3) := by decide +kernel
theorem dL_areClaims_36 : decode cL_areClaims 36 = .ok (.iload 4, 2) := by decide +kernel
theorem dL_areClaims_38 : decode cL_areClaims 38 = .ok (.ifCond .eq 260, 3) := by decide +kernel
theorem dL_areClaims_41 : decode cL_areClaims 41 = .ok (.iconst 0, 1) := by decide +kernel
theorem dL_areClaims_42 : decode cL_areClaims 42 = .ok (.istore 6, 2) := by decide +kernel
theorem dL_areClaims_44 : decode cL_areClaims 44 = .ok (.iconst 0, 1) := by decide +kernel
theorem dL_areClaims_45 : decode cL_areClaims 45 = .ok (.istore 7, 2) := by decide +kernel
theorem dL_areClaims_47 : decode cL_areClaims 47 = .ok (.iload 7, 2) := by decide +kernel
theorem dL_areClaims_49 : decode cL_areClaims 49 = .ok (.iload 5, 2) := by decide +kernel
theorem dL_areClaims_51 : decode cL_areClaims 51 = .ok (.if_icmp .ge 83, 3) := by decide +kernel
theorem dL_areClaims_54 : decode cL_areClaims 54 = .ok (.aload_n 3, 1) := by decide +kernel
theorem dL_areClaims_55 : decode cL_areClaims 55 = .ok (.iload 5, 2) := by decide +kernel
theorem dL_areClaims_57 : decode cL_areClaims 57 = .ok (.laload, 1) := by decide +kernel
theorem dL_areClaims_58 : decode cL_areClaims 58 = .ok (.iload 7, 2) := by decide +kernel
theorem dL_areClaims_60 : decode cL_areClaims 60 = .ok (.lshr, 1) := by decide +kernel
theorem dL_areClaims_61 : decode cL_areClaims 61 = .ok (.lconst 1, 1) := by decide +kernel
theorem dL_areClaims_62 : decode cL_areClaims 62 = .ok (.land, 1) := by decide +kernel
theorem dL_areClaims_63 : decode cL_areClaims 63 = .ok (.lconst 1, 1) := by decide +kernel
theorem dL_areClaims_64 : decode cL_areClaims 64 = .ok (.lcmp, 1) := by decide +kernel
theorem dL_areClaims_65 : decode cL_areClaims 65 = .ok (.ifCond .ne 7, 3) := by decide +kernel
theorem dL_areClaims_68 : decode cL_areClaims 68 = .ok (.iconst 1, 1) := by decide +kernel
theorem dL_areClaims_69 : decode cL_areClaims 69 = .ok (.goto 4, 3) := by decide +kernel
theorem dL_areClaims_72 : decode cL_areClaims 72 = .ok (.iconst 0, 1) := by decide +kernel
theorem dL_areClaims_73 : decode cL_areClaims 73 = .ok (.istore 8, 2) := by decide +kernel
theorem dL_areClaims_75 : decode cL_areClaims 75 = .ok (.iload 6, 2) := by decide +kernel
theorem dL_areClaims_77 : decode cL_areClaims 77 = .ok (.iload 8, 2) := by decide +kernel
theorem dL_areClaims_79 : decode cL_areClaims 79 = .ok (.ifCond .eq 7, 3) := by decide +kernel
theorem dL_areClaims_82 : decode cL_areClaims 82 = .ok (.iconst 1, 1) := by decide +kernel
theorem dL_areClaims_83 : decode cL_areClaims 83 = .ok (.goto 4, 3) := by decide +kernel
theorem dL_areClaims_86 : decode cL_areClaims 86 = .ok (.iconst 0, 1) := by decide +kernel
theorem dL_areClaims_87 : decode cL_areClaims 87 = .ok (.iadd, 1) := by decide +kernel
theorem dL_areClaims_88 : decode cL_areClaims 88 = .ok (.istore 6, 2) := by decide +kernel
theorem dL_areClaims_90 : decode cL_areClaims 90 = .ok (.iload 4, 2) := by decide +kernel
theorem dL_areClaims_92 : decode cL_areClaims 92 = .ok (.ifCond .eq 33, 3) := by decide +kernel
theorem dL_areClaims_95 : decode cL_areClaims 95 = .ok (.iload 8, 2) := by decide +kernel
theorem dL_areClaims_97 : decode cL_areClaims 97 = .ok (.ifCond .eq 24, 3) := by decide +kernel
theorem dL_areClaims_100 : decode cL_areClaims 100 = .ok (.aload_n 0, 1) := by decide +kernel
theorem dL_areClaims_101 : decode cL_areClaims 101 = .ok (.iload 5, 2) := by decide +kernel
theorem dL_areClaims_103 : decode cL_areClaims 103 = .ok (.iconst 4, 1) := by decide +kernel
theorem dL_areClaims_104 : decode cL_areClaims 104 = .ok (.invokevirtual 36, 3) := by decide +kernel
theorem dL_areClaims_107 : decode cL_areClaims 107 = .ok (.ifCond .eq 14, 3) := by decide +kernel
theorem dL_areClaims_110 : decode cL_areClaims 110 = .ok (.aload_n 0, 1) := by decide +kernel
theorem dL_areClaims_111 : decode cL_areClaims 111 = .ok (.iload 7, 2) := by decide +kernel
theorem dL_areClaims_113 : decode cL_areClaims 113 = .ok (.iconst 4, 1) := by decide +kernel
theorem dL_areClaims_114 : decode cL_areClaims 114 = .ok (.invokevirtual 36, 3) := by decide +kernel
theorem dL_areClaims_117 : decode cL_areClaims 117 = .ok (.iconst 1, 1) := by decide +kernel
theorem dL_areClaims_118 : decode cL_areClaims 118 = .ok (.if_icmp .ne 7, 3) := by decide +kernel
theorem dL_areClaims_121 : decode cL_areClaims 121 = .ok (.iconst 1, 1) := by decide +kernel
theorem dL_areClaims_122 : decode cL_areClaims 122 = .ok (.goto 4, 3) := by decide +kernel
theorem dL_areClaims_125 : decode cL_areClaims 125 = .ok (.iconst 0, 1) := by decide +kernel
theorem dL_areClaims_126 : decode cL_areClaims 126 = .ok (.istore 4, 2) := by decide +kernel
theorem dL_areClaims_128 : decode cL_areClaims 128 = .ok (.iinc 7 1, 3) := by decide +kernel
theorem dL_areClaims_131 : decode cL_areClaims 131 = .ok (.goto (-84), 3) := by decide +kernel
theorem dL_areClaims_134 : decode cL_areClaims 134 = .ok (.iload 4, 2) := by decide +kernel
theorem dL_areClaims_136 : decode cL_areClaims 136 = .ok (.ifCond .eq 153, 3) := by decide +kernel
theorem dL_areClaims_139 : decode cL_areClaims 139 = .ok (.aload_n 0, 1) := by decide +kernel
theorem dL_areClaims_140 : decode cL_areClaims 140 = .ok (.iload 5, 2) := by decide +kernel
theorem dL_areClaims_142 : decode cL_areClaims 142 = .ok (.iconst 0, 1) := by decide +kernel
theorem dL_areClaims_143 : decode cL_areClaims 143 = .ok (.invokevirtual 36, 3) := by decide +kernel
theorem dL_areClaims_146 : decode cL_areClaims 146 = .ok (.aload_n 2, 1) := by decide +kernel
theorem dL_areClaims_147 : decode cL_areClaims 147 = .ok (.iload 5, 2) := by decide +kernel
theorem dL_areClaims_149 : decode cL_areClaims 149 = .ok (.iaload, 1) := by decide +kernel
theorem dL_areClaims_150 : decode cL_areClaims 150 = .ok (.ldc 104, 2) := by decide +kernel
theorem dL_areClaims_152 : decode cL_areClaims 152 = .ok (.idiv, 1) := by decide +kernel
theorem dL_areClaims_153 : decode cL_areClaims 153 = .ok (.bipush 10, 2) := by decide +kernel
theorem dL_areClaims_155 : decode cL_areClaims 155 = .ok (.irem, 1) := by decide +kernel
theorem dL_areClaims_156 : decode cL_areClaims 156 = .ok (.if_icmp .ne 133, 3) := by decide +kernel
theorem dL_areClaims_159 : decode cL_areClaims 159 = .ok (.aload_n 0, 1) := by decide +kernel
theorem dL_areClaims_160 : decode cL_areClaims 160 = .ok (.iload 5, 2) := by decide +kernel
theorem dL_areClaims_162 : decode cL_areClaims 162 = .ok (.iconst 1, 1) := by decide +kernel
theorem dL_areClaims_163 : decode cL_areClaims 163 = .ok (.invokevirtual 36, 3) := by decide +kernel
theorem dL_areClaims_166 : decode cL_areClaims 166 = .ok (.aload_n 2, 1) := by decide +kernel
theorem dL_areClaims_167 : decode cL_areClaims 167 = .ok (.iload 5, 2) := by decide +kernel
theorem dL_areClaims_169 : decode cL_areClaims 169 = .ok (.iaload, 1) := by decide +kernel
theorem dL_areClaims_170 : decode cL_areClaims 170 = .ok (.sipush 1000, 3) := by decide +kernel
theorem dL_areClaims_173 : decode cL_areClaims 173 = .ok (.idiv, 1) := by decide +kernel
theorem dL_areClaims_174 : decode cL_areClaims 174 = .ok (.bipush 10, 2) := by decide +kernel
theorem dL_areClaims_176 : decode cL_areClaims 176 = .ok (.irem, 1) := by decide +kernel
theorem dL_areClaims_177 : decode cL_areClaims 177 = .ok (.if_icmp .ne 112, 3) := by decide +kernel
theorem dL_areClaims_180 : decode cL_areClaims 180 = .ok (.aload_n 0, 1) := by decide +kernel
theorem dL_areClaims_181 : decode cL_areClaims 181 = .ok (.iload 5, 2) := by decide +kernel
theorem dL_areClaims_183 : decode cL_areClaims 183 = .ok (.iconst 2, 1) := by decide +kernel
theorem dL_areClaims_184 : decode cL_areClaims 184 = .ok (.invokevirtual 36, 3) := by decide +kernel
theorem dL_areClaims_187 : decode cL_areClaims 187 = .ok (.aload_n 2, 1) := by decide +kernel
theorem dL_areClaims_188 : decode cL_areClaims 188 = .ok (.iload 5, 2) := by decide +kernel
theorem dL_areClaims_190 : decode cL_areClaims 190 = .ok (.iaload, 1) := by decide +kernel
theorem dL_areClaims_191 : decode cL_areClaims 191 = .ok (.bipush 100, 2) := by decide +kernel
theorem dL_areClaims_193 : decode cL_areClaims 193 = .ok (.irem, 1) := by decide +kernel
theorem dL_areClaims_194 : decode cL_areClaims 194 = .ok (.if_icmp .ne 95, 3) := by decide +kernel
theorem dL_areClaims_197 : decode cL_areClaims 197 = .ok (.aload_n 0, 1) := by decide +kernel
theorem dL_areClaims_198 : decode cL_areClaims 198 = .ok (.iload 5, 2) := by decide +kernel
theorem dL_areClaims_200 : decode cL_areClaims 200 = .ok (.iconst 4, 1) := by decide +kernel
theorem dL_areClaims_201 : decode cL_areClaims 201 = .ok (.invokevirtual 36, 3) := by decide +kernel
theorem dL_areClaims_204 : decode cL_areClaims 204 = .ok (.aload_n 2, 1) := by decide +kernel
theorem dL_areClaims_205 : decode cL_areClaims 205 = .ok (.iload 5, 2) := by decide +kernel
theorem dL_areClaims_207 : decode cL_areClaims 207 = .ok (.iaload, 1) := by decide +kernel
theorem dL_areClaims_208 : decode cL_areClaims 208 = .ok (.sipush 10000, 3) := by decide +kernel
theorem dL_areClaims_211 : decode cL_areClaims 211 = .ok (.idiv, 1) := by decide +kernel
theorem dL_areClaims_212 : decode cL_areClaims 212 = .ok (.bipush 10, 2) := by decide +kernel
theorem dL_areClaims_214 : decode cL_areClaims 214 = .ok (.irem, 1) := by decide +kernel
theorem dL_areClaims_215 : decode cL_areClaims 215 = .ok (.if_icmp .ne 74, 3) := by decide +kernel
theorem dL_areClaims_218 : decode cL_areClaims 218 = .ok (.aload_n 0, 1) := by decide +kernel
theorem dL_areClaims_219 : decode cL_areClaims 219 = .ok (.iload 5, 2) := by decide +kernel
theorem dL_areClaims_221 : decode cL_areClaims 221 = .ok (.iconst 5, 1) := by decide +kernel
theorem dL_areClaims_222 : decode cL_areClaims 222 = .ok (.invokevirtual 36, 3) := by decide +kernel
theorem dL_areClaims_225 : decode cL_areClaims 225 = .ok (.iload 6, 2) := by decide +kernel
theorem dL_areClaims_227 : decode cL_areClaims 227 = .ok (.if_icmp .ne 62, 3) := by decide +kernel
theorem dL_areClaims_230 : decode cL_areClaims 230 = .ok (.aload_n 0, 1) := by decide +kernel
theorem dL_areClaims_231 : decode cL_areClaims 231 = .ok (.iload 5, 2) := by decide +kernel
theorem dL_areClaims_233 : decode cL_areClaims 233 = .ok (.iconst 3, 1) := by decide +kernel
theorem dL_areClaims_234 : decode cL_areClaims 234 = .ok (.invokevirtual 36, 3) := by decide +kernel
theorem dL_areClaims_237 : decode cL_areClaims 237 = .ok (.iconst (-1), 1) := by decide +kernel
theorem dL_areClaims_238 : decode cL_areClaims 238 = .ok (.if_icmp .ne 7, 3) := by decide +kernel
theorem dL_areClaims_241 : decode cL_areClaims 241 = .ok (.iconst 1, 1) := by decide +kernel
theorem dL_areClaims_242 : decode cL_areClaims 242 = .ok (.goto 4, 3) := by decide +kernel
theorem dL_areClaims_245 : decode cL_areClaims 245 = .ok (.iconst 0, 1) := by decide +kernel
theorem dL_areClaims_246 : decode cL_areClaims 246 = .ok (.aload_n 0, 1) := by decide +kernel
theorem dL_areClaims_247 : decode cL_areClaims 247 = .ok (.iload 5, 2) := by decide +kernel
theorem dL_areClaims_249 : decode cL_areClaims 249 = .ok (.iconst 0, 1) := by decide +kernel
theorem dL_areClaims_250 : decode cL_areClaims 250 = .ok (.invokevirtual 36, 3) := by decide +kernel
theorem dL_areClaims_253 : decode cL_areClaims 253 = .ok (.iconst 1, 1) := by decide +kernel
theorem dL_areClaims_254 : decode cL_areClaims 254 = .ok (.if_icmp .eq 7, 3) := by decide +kernel
theorem dL_areClaims_257 : decode cL_areClaims 257 = .ok (.iconst 1, 1) := by decide +kernel
theorem dL_areClaims_258 : decode cL_areClaims 258 = .ok (.goto 4, 3) := by decide +kernel
theorem dL_areClaims_261 : decode cL_areClaims 261 = .ok (.iconst 0, 1) := by decide +kernel
theorem dL_areClaims_262 : decode cL_areClaims 262 = .ok (.if_icmp .ne 27, 3) := by decide +kernel
theorem dL_areClaims_265 : decode cL_areClaims 265 = .ok (.aload_n 0, 1) := by decide +kernel
theorem dL_areClaims_266 : decode cL_areClaims 266 = .ok (.iload 5, 2) := by decide +kernel
theorem dL_areClaims_268 : decode cL_areClaims 268 = .ok (.iconst 0, 1) := by decide +kernel
theorem dL_areClaims_269 : decode cL_areClaims 269 = .ok (.invokevirtual 36, 3) := by decide +kernel
theorem dL_areClaims_272 : decode cL_areClaims 272 = .ok (.iconst 1, 1) := by decide +kernel
theorem dL_areClaims_273 : decode cL_areClaims 273 = .ok (.if_icmp .ne 12, 3) := by decide +kernel
theorem dL_areClaims_276 : decode cL_areClaims 276 = .ok (.aload_n 0, 1) := by decide +kernel
theorem dL_areClaims_277 : decode cL_areClaims 277 = .ok (.iload 5, 2) := by decide +kernel
theorem dL_areClaims_279 : decode cL_areClaims 279 = .ok (.invokevirtual 105, 3) := by decide +kernel
theorem dL_areClaims_282 : decode cL_areClaims 282 = .ok (.ifCond .eq 7, 3) := by decide +kernel
theorem dL_areClaims_285 : decode cL_areClaims 285 = .ok (.iconst 1, 1) := by decide +kernel
theorem dL_areClaims_286 : decode cL_areClaims 286 = .ok (.goto 4, 3) := by decide +kernel
theorem dL_areClaims_289 : decode cL_areClaims 289 = .ok (.iconst 0, 1) := by decide +kernel
theorem dL_areClaims_290 : decode cL_areClaims 290 = .ok (.istore 4, 2) := by decide +kernel
theorem dL_areClaims_292 : decode cL_areClaims 292 = .ok (.iinc 5 1, 3) := by decide +kernel
theorem dL_areClaims_295 : decode cL_areClaims 295 = .ok (.goto (-267), 3) := by decide +kernel
theorem dL_areClaims_298 : decode cL_areClaims 298 = .ok (.iload 4, 2) := by decide +kernel
theorem dL_areClaims_300 : decode cL_areClaims 300 = .ok (.ireturn, 1) := by decide +kernel
theorem dL_falls_0 : decode cL_falls 0 = .ok (.iconst 0, 1) := by decide +kernel
theorem dL_falls_1 : decode cL_falls 1 = .ok (.istore_n 3, 1) := by decide +kernel
theorem dL_falls_2 : decode cL_falls 2 = .ok (.iconst 0, 1) := by decide +kernel
theorem dL_falls_3 : decode cL_falls 3 = .ok (.istore 4, 2) := by decide +kernel
theorem dL_falls_5 : decode cL_falls 5 = .ok (.iload 4, 2) := by decide +kernel
theorem dL_falls_7 : decode cL_falls 7 = .ok (.aload_n 1, 1) := by decide +kernel
theorem dL_falls_8 : decode cL_falls 8 = .ok (.iconst 1, 1) := by decide +kernel
theorem dL_falls_9 : decode cL_falls 9 = .ok (.iaload, 1) := by decide +kernel
theorem dL_falls_10 : decode cL_falls 10 = .ok (.if_icmp .ge 47, 3) := by decide +kernel
theorem dL_falls_13 : decode cL_falls 13 = .ok (.aload_n 2, 1) := by decide +kernel
theorem dL_falls_14 : decode cL_falls 14 = .ok (.iload 4, 2) := by decide +kernel
theorem dL_falls_16 : decode cL_falls 16 = .ok (.iaload, 1) := by decide +kernel
theorem dL_falls_17 : decode cL_falls 17 = .ok (.sipush 10000, 3) := by decide +kernel
theorem dL_falls_20 : decode cL_falls 20 = .ok (.idiv, 1) := by decide +kernel
theorem dL_falls_21 : decode cL_falls 21 = .ok (.bipush 10, 2) := by decide +kernel
theorem dL_falls_23 : decode cL_falls 23 = .ok (.irem, 1) := by decide +kernel
theorem dL_falls_24 : decode cL_falls 24 = .ok (.iconst 1, 1) := by decide +kernel
theorem dL_falls_25 : decode cL_falls 25 = .ok (.if_icmp .ne 26, 3) := by decide +kernel
theorem dL_falls_28 : decode cL_falls 28 = .ok (.aload_n 0, 1) := by decide +kernel
theorem dL_falls_29 : decode cL_falls 29 = .ok (.iload 4, 2) := by decide +kernel
theorem dL_falls_31 : decode cL_falls 31 = .ok (.iconst 4, 1) := by decide +kernel
theorem dL_falls_32 : decode cL_falls 32 = .ok (.invokevirtual 36, 3) := by decide +kernel
theorem dL_falls_35 : decode cL_falls 35 = .ok (.ifCond .ne 16, 3) := by decide +kernel
theorem dL_falls_38 : decode cL_falls 38 = .ok (.aload_n 2, 1) := by decide +kernel
theorem dL_falls_39 : decode cL_falls 39 = .ok (.iload 4, 2) := by decide +kernel
theorem dL_falls_41 : decode cL_falls 41 = .ok (.dup2, 1) := by decide +kernel
theorem dL_falls_42 : decode cL_falls 42 = .ok (.iaload, 1) := by decide +kernel
theorem dL_falls_43 : decode cL_falls 43 = .ok (.sipush 10000, 3) := by decide +kernel
theorem dL_falls_46 : decode cL_falls 46 = .ok (.isub, 1) := by decide +kernel
theorem dL_falls_47 : decode cL_falls 47 = .ok (.iastore, 1) := by decide +kernel
theorem dL_falls_48 : decode cL_falls 48 = .ok (.iinc 3 1, 3) := by decide +kernel
theorem dL_falls_51 : decode cL_falls 51 = .ok (.iinc 4 1, 3) := by decide +kernel
theorem dL_falls_54 : decode cL_falls 54 = .ok (.goto (-49), 3) := by decide +kernel
theorem dL_falls_57 : decode cL_falls 57 = .ok (.iload_n 3, 1) := by decide +kernel
theorem dL_falls_58 : decode cL_falls 58 = .ok (.ireturn, 1) := by decide +kernel
theorem dL_makes_0 : decode cL_makes 0 = .ok (.lload_n 1, 1) := by decide +kernel
theorem dL_makes_1 : decode cL_makes 1 = .ok (.aload 8, 2) := by decide +kernel
theorem dL_makes_3 : decode cL_makes 3 = .ok (.iconst 1, 1) := by decide +kernel
theorem dL_makes_4 : decode cL_makes 4 = .ok (.iaload, 1) := by decide +kernel
theorem dL_makes_5 : decode cL_makes 5 = .ok (.i2l, 1) := by decide +kernel
theorem dL_makes_6 : decode cL_makes 6 = .ok (.lcmp, 1) := by decide +kernel
theorem dL_makes_7 : decode cL_makes 7 = .ok (.ifCond .eq 5, 3) := by decide +kernel
theorem dL_makes_10 : decode cL_makes 10 = .ok (.iconst 0, 1) := by decide +kernel
theorem dL_makes_11 : decode cL_makes 11 = .ok (.ireturn, 1) := by decide +kernel
theorem dL_makes_12 : decode cL_makes 12 = .ok (.aload 9, 2) := by decide +kernel
theorem dL_makes_14 : decode cL_makes 14 = .ok (.aload 8, 2) := by decide +kernel
theorem dL_makes_16 : decode cL_makes 16 = .ok (.iconst 1, 1) := by decide +kernel
theorem dL_makes_17 : decode cL_makes 17 = .ok (.iaload, 1) := by decide +kernel
theorem dL_makes_18 : decode cL_makes 18 = .ok (.ldc 104, 2) := by decide +kernel
theorem dL_makes_20 : decode cL_makes 20 = .ok (.iload_n 3, 1) := by decide +kernel
theorem dL_makes_21 : decode cL_makes 21 = .ok (.imul, 1) := by decide +kernel
theorem dL_makes_22 : decode cL_makes 22 = .ok (.sipush 10000, 3) := by decide +kernel
theorem dL_makes_25 : decode cL_makes 25 = .ok (.iadd, 1) := by decide +kernel
theorem dL_makes_26 : decode cL_makes 26 = .ok (.sipush 1000, 3) := by decide +kernel
theorem dL_makes_29 : decode cL_makes 29 = .ok (.iload 4, 2) := by decide +kernel
theorem dL_makes_31 : decode cL_makes 31 = .ok (.imul, 1) := by decide +kernel
theorem dL_makes_32 : decode cL_makes 32 = .ok (.iadd, 1) := by decide +kernel
theorem dL_makes_33 : decode cL_makes 33 = .ok (.iload 5, 2) := by decide +kernel
theorem dL_makes_35 : decode cL_makes 35 = .ok (.iadd, 1) := by decide +kernel
theorem dL_makes_36 : decode cL_makes 36 = .ok (.iastore, 1) := by decide +kernel
theorem dL_makes_37 : decode cL_makes 37 = .ok (.aload 10, 2) := by decide +kernel
theorem dL_makes_39 : decode cL_makes 39 = .ok (.aload 8, 2) := by decide +kernel
theorem dL_makes_41 : decode cL_makes 41 = .ok (.iconst 1, 1) := by decide +kernel
theorem dL_makes_42 : decode cL_makes 42 = .ok (.iaload, 1) := by decide +kernel
theorem dL_makes_43 : decode cL_makes 43 = .ok (.lload 6, 2) := by decide +kernel
theorem dL_makes_45 : decode cL_makes 45 = .ok (.lastore, 1) := by decide +kernel
theorem dL_makes_46 : decode cL_makes 46 = .ok (.aload 8, 2) := by decide +kernel
theorem dL_makes_48 : decode cL_makes 48 = .ok (.iconst 1, 1) := by decide +kernel
theorem dL_makes_49 : decode cL_makes 49 = .ok (.dup2, 1) := by decide +kernel
theorem dL_makes_50 : decode cL_makes 50 = .ok (.iaload, 1) := by decide +kernel
theorem dL_makes_51 : decode cL_makes 51 = .ok (.iconst 1, 1) := by decide +kernel
theorem dL_makes_52 : decode cL_makes 52 = .ok (.iadd, 1) := by decide +kernel
theorem dL_makes_53 : decode cL_makes 53 = .ok (.iastore, 1) := by decide +kernel
theorem dL_makes_54 : decode cL_makes 54 = .ok (.aload_n 0, 1) := by decide +kernel
theorem dL_makes_55 : decode cL_makes 55 = .ok (.aload 8, 2) := by decide +kernel
theorem dL_makes_57 : decode cL_makes 57 = .ok (.iconst 1, 1) := by decide +kernel
theorem dL_makes_58 : decode cL_makes 58 = .ok (.iaload, 1) := by decide +kernel
theorem dL_makes_59 : decode cL_makes 59 = .ok (.iconst 1, 1) := by decide +kernel
theorem dL_makes_60 : decode cL_makes 60 = .ok (.isub, 1) := by decide +kernel
theorem dL_makes_61 : decode cL_makes 61 = .ok (.iconst 4, 1) := by decide +kernel
theorem dL_makes_62 : decode cL_makes 62 = .ok (.invokevirtual 36, 3) := by decide +kernel
theorem dL_makes_65 : decode cL_makes 65 = .ok (.iconst 1, 1) := by decide +kernel
theorem dL_makes_66 : decode cL_makes 66 = .ok (.if_icmp .ne 7, 3) := by decide +kernel
theorem dL_makes_69 : decode cL_makes 69 = .ok (.iconst 1, 1) := by decide +kernel
theorem dL_makes_70 : decode cL_makes 70 = .ok (.goto 4, 3) := by decide +kernel
theorem dL_makes_73 : decode cL_makes 73 = .ok (.iconst 0, 1) := by decide +kernel
theorem dL_makes_74 : decode cL_makes 74 = .ok (.ireturn, 1) := by decide +kernel
theorem dL_tones_0 : decode cL_tones 0 = .ok (.iload_n 1, 1) := by decide +kernel
theorem dL_tones_1 : decode cL_tones 1 = .ok (.aload_n 2, 1) := by decide +kernel
theorem dL_tones_2 : decode cL_tones 2 = .ok (.iconst 0, 1) := by decide +kernel
theorem dL_tones_3 : decode cL_tones 3 = .ok (.iaload, 1) := by decide +kernel
theorem dL_tones_4 : decode cL_tones 4 = .ok (.irem, 1) := by decide +kernel
theorem dL_tones_5 : decode cL_tones 5 = .ok (.istore 5, 2) := by decide +kernel
theorem dL_tones_7 : decode cL_tones 7 = .ok (.iload_n 1, 1) := by decide +kernel
theorem dL_tones_8 : decode cL_tones 8 = .ok (.bipush 8, 2) := by decide +kernel
theorem dL_tones_10 : decode cL_tones 10 = .ok (.idiv, 1) := by decide +kernel
theorem dL_tones_11 : decode cL_tones 11 = .ok (.iconst 3, 1) := by decide +kernel
theorem dL_tones_12 : decode cL_tones 12 = .ok (.irem, 1) := by decide +kernel
theorem dL_tones_13 : decode cL_tones 13 = .ok (.istore 6, 2) := by decide +kernel
theorem dL_tones_15 : decode cL_tones 15 = .ok (.iconst (-1), 1) := by decide +kernel
theorem dL_tones_16 : decode cL_tones 16 = .ok (.istore 7, 2) := by decide +kernel
theorem dL_tones_18 : decode cL_tones 18 = .ok (.iconst 1, 1) := by decide +kernel
theorem dL_tones_19 : decode cL_tones 19 = .ok (.iload_n 1, 1) := by decide +kernel
theorem dL_tones_20 : decode cL_tones 20 = .ok (.bipush 24, 2) := by decide +kernel
theorem dL_tones_22 : decode cL_tones 22 = .ok (.idiv, 1) := by decide +kernel
theorem dL_tones_23 : decode cL_tones 23 = .ok (.bipush 6, 2) := by decide +kernel
theorem dL_tones_25 : decode cL_tones 25 = .ok (.irem, 1) := by decide +kernel
theorem dL_tones_26 : decode cL_tones 26 = .ok (.iadd, 1) := by decide +kernel
theorem dL_tones_27 : decode cL_tones 27 = .ok (.istore 8, 2) := by decide +kernel
theorem dL_tones_29 : decode cL_tones 29 = .ok (.iload 8, 2) := by decide +kernel
theorem dL_tones_31 : decode cL_tones 31 = .ok (.bipush 31, 2) := by decide +kernel
theorem dL_tones_33 : decode cL_tones 33 = .ok (.if_icmp .ge 47, 3) := by decide +kernel
theorem dL_tones_36 : decode cL_tones 36 = .ok (.iload 7, 2) := by decide +kernel
theorem dL_tones_38 : decode cL_tones 38 = .ok (.ifCond .ge 42, 3) := by decide +kernel
theorem dL_tones_41 : decode cL_tones 41 = .ok (.aload_n 0, 1) := by decide +kernel
theorem dL_tones_42 : decode cL_tones 42 = .ok (.iload 5, 2) := by decide +kernel
theorem dL_tones_44 : decode cL_tones 44 = .ok (.iload 6, 2) := by decide +kernel
theorem dL_tones_46 : decode cL_tones 46 = .ok (.iload 8, 2) := by decide +kernel
theorem dL_tones_48 : decode cL_tones 48 = .ok (.invokevirtual 91, 3) := by decide +kernel
theorem dL_tones_51 : decode cL_tones 51 = .ok (.ifCond .eq 8, 3) := by decide +kernel
theorem dL_tones_54 : decode cL_tones 54 = .ok (.iload 8, 2) := by decide +kernel
theorem dL_tones_56 : decode cL_tones 56 = .ok (.goto 5, 3) := by decide +kernel
theorem dL_tones_59 : decode cL_tones 59 = .ok (.iload 7, 2) := by decide +kernel
theorem dL_tones_61 : decode cL_tones 61 = .ok (.istore 7, 2) := by decide +kernel
theorem dL_tones_63 : decode cL_tones 63 = .ok (.iload 8, 2) := by decide +kernel
theorem dL_tones_65 : decode cL_tones 65 = .ok (.iconst 1, 1) := by decide +kernel
theorem dL_tones_66 : decode cL_tones 66 = .ok (.iload_n 1, 1) := by decide +kernel
theorem dL_tones_67 : decode cL_tones 67 = .ok (.sipush 144, 3) := by decide +kernel
theorem dL_tones_70 : decode cL_tones 70 = .ok (.idiv, 1) := by decide +kernel
theorem dL_tones_71 : decode cL_tones 71 = .ok (.iconst 3, 1) := by decide +kernel
theorem dL_tones_72 : decode cL_tones 72 = .ok (.irem, 1) := by decide +kernel
theorem dL_tones_73 : decode cL_tones 73 = .ok (.iadd, 1) := by decide +kernel
theorem dL_tones_74 : decode cL_tones 74 = .ok (.iadd, 1) := by decide +kernel
theorem dL_tones_75 : decode cL_tones 75 = .ok (.istore 8, 2) := by decide +kernel
theorem dL_tones_77 : decode cL_tones 77 = .ok (.goto (-48), 3) := by decide +kernel
theorem dL_tones_80 : decode cL_tones 80 = .ok (.iload 7, 2) := by decide +kernel
theorem dL_tones_82 : decode cL_tones 82 = .ok (.ifCond .lt 11, 3) := by decide +kernel
theorem dL_tones_85 : decode cL_tones 85 = .ok (.aload_n 2, 1) := by decide +kernel
theorem dL_tones_86 : decode cL_tones 86 = .ok (.iconst 1, 1) := by decide +kernel
theorem dL_tones_87 : decode cL_tones 87 = .ok (.iaload, 1) := by decide +kernel
theorem dL_tones_88 : decode cL_tones 88 = .ok (.bipush 40, 2) := by decide +kernel
theorem dL_tones_90 : decode cL_tones 90 = .ok (.if_icmp .ne 27, 3) := by decide +kernel
theorem dL_tones_93 : decode cL_tones 93 = .ok (.aload_n 0, 1) := by decide +kernel
theorem dL_tones_94 : decode cL_tones 94 = .ok (.iconst 2, 1) := by decide +kernel
theorem dL_tones_95 : decode cL_tones 95 = .ok (.iload 5, 2) := by decide +kernel
theorem dL_tones_97 : decode cL_tones 97 = .ok (.iload 6, 2) := by decide +kernel
theorem dL_tones_99 : decode cL_tones 99 = .ok (.bipush 31, 2) := by decide +kernel
theorem dL_tones_101 : decode cL_tones 101 = .ok (.invokestatic 95, 3) := by decide +kernel
theorem dL_tones_104 : decode cL_tones 104 = .ok (.ldc2_w 52, 3) := by decide +kernel
theorem dL_tones_107 : decode cL_tones 107 = .ok (.lcmp, 1) := by decide +kernel
theorem dL_tones_108 : decode cL_tones 108 = .ok (.ifCond .ne 7, 3) := by decide +kernel
theorem dL_tones_111 : decode cL_tones 111 = .ok (.iconst 1, 1) := by decide +kernel
theorem dL_tones_112 : decode cL_tones 112 = .ok (.goto 4, 3) := by decide +kernel
theorem dL_tones_115 : decode cL_tones 115 = .ok (.iconst 0, 1) := by decide +kernel
theorem dL_tones_116 : decode cL_tones 116 = .ok (.ireturn, 1) := by decide +kernel
theorem dL_tones_117 : decode cL_tones 117 = .ok (.aload_n 0, 1) := by decide +kernel
theorem dL_tones_118 : decode cL_tones 118 = .ok (.aload_n 0, 1) := by decide +kernel
theorem dL_tones_119 : decode cL_tones 119 = .ok (.iconst 2, 1) := by decide +kernel
theorem dL_tones_120 : decode cL_tones 120 = .ok (.iload 5, 2) := by decide +kernel
theorem dL_tones_122 : decode cL_tones 122 = .ok (.iload 6, 2) := by decide +kernel
theorem dL_tones_124 : decode cL_tones 124 = .ok (.iload 7, 2) := by decide +kernel
theorem dL_tones_126 : decode cL_tones 126 = .ok (.invokestatic 95, 3) := by decide +kernel
theorem dL_tones_129 : decode cL_tones 129 = .ok (.iconst 0, 1) := by decide +kernel
theorem dL_tones_130 : decode cL_tones 130 = .ok (.iload 5, 2) := by decide +kernel
theorem dL_tones_132 : decode cL_tones 132 = .ok (.iload 7, 2) := by decide +kernel
theorem dL_tones_134 : decode cL_tones 134 = .ok (.lconst 0, 1) := by decide +kernel
theorem dL_tones_135 : decode cL_tones 135 = .ok (.aload_n 2, 1) := by decide +kernel
theorem dL_tones_136 : decode cL_tones 136 = .ok (.aload_n 3, 1) := by decide +kernel
theorem dL_tones_137 : decode cL_tones 137 = .ok (.aload 4, 2) := by decide +kernel
theorem dL_tones_139 : decode cL_tones 139 = .ok (.invokestatic 109, 3) := by decide +kernel
theorem dL_tones_142 : decode cL_tones 142 = .ok (.ifCond .eq 19, 3) := by decide +kernel
theorem dL_tones_145 : decode cL_tones 145 = .ok (.aload_n 0, 1) := by decide +kernel
theorem dL_tones_146 : decode cL_tones 146 = .ok (.aload_n 2, 1) := by decide +kernel
theorem dL_tones_147 : decode cL_tones 147 = .ok (.iconst 1, 1) := by decide +kernel
theorem dL_tones_148 : decode cL_tones 148 = .ok (.iaload, 1) := by decide +kernel
theorem dL_tones_149 : decode cL_tones 149 = .ok (.iconst 1, 1) := by decide +kernel
theorem dL_tones_150 : decode cL_tones 150 = .ok (.isub, 1) := by decide +kernel
theorem dL_tones_151 : decode cL_tones 151 = .ok (.invokevirtual 105, 3) := by decide +kernel
theorem dL_tones_154 : decode cL_tones 154 = .ok (.ifCond .eq 7, 3) := by decide +kernel
theorem dL_tones_157 : decode cL_tones 157 = .ok (.iconst 1, 1) := by decide +kernel
theorem dL_tones_158 : decode cL_tones 158 = .ok (.goto 4, 3) := by decide +kernel
theorem dL_tones_161 : decode cL_tones 161 = .ok (.iconst 0, 1) := by decide +kernel
theorem dL_tones_162 : decode cL_tones 162 = .ok (.ireturn, 1) := by decide +kernel
theorem dL_others_0 : decode cL_others 0 = .ok (.iload_n 1, 1) := by decide +kernel
theorem dL_others_1 : decode cL_others 1 = .ok (.aload_n 3, 1) := by decide +kernel
theorem dL_others_2 : decode cL_others 2 = .ok (.iconst 1, 1) := by decide +kernel
theorem dL_others_3 : decode cL_others 3 = .ok (.iaload, 1) := by decide +kernel
theorem dL_others_4 : decode cL_others 4 = .ok (.irem, 1) := by decide +kernel
theorem dL_others_5 : decode cL_others 5 = .ok (.istore 6, 2) := by decide +kernel
theorem dL_others_7 : decode cL_others 7 = .ok (.iload_n 2, 1) := by decide +kernel
theorem dL_others_8 : decode cL_others 8 = .ok (.aload_n 3, 1) := by decide +kernel
theorem dL_others_9 : decode cL_others 9 = .ok (.iconst 1, 1) := by decide +kernel
theorem dL_others_10 : decode cL_others 10 = .ok (.iaload, 1) := by decide +kernel
theorem dL_others_11 : decode cL_others 11 = .ok (.irem, 1) := by decide +kernel
theorem dL_others_12 : decode cL_others 12 = .ok (.istore 7, 2) := by decide +kernel
theorem dL_others_14 : decode cL_others 14 = .ok (.iload_n 1, 1) := by decide +kernel
theorem dL_others_15 : decode cL_others 15 = .ok (.bipush 64, 2) := by decide +kernel
theorem dL_others_17 : decode cL_others 17 = .ok (.idiv, 1) := by decide +kernel
theorem dL_others_18 : decode cL_others 18 = .ok (.iconst 3, 1) := by decide +kernel
theorem dL_others_19 : decode cL_others 19 = .ok (.irem, 1) := by decide +kernel
theorem dL_others_20 : decode cL_others 20 = .ok (.istore 8, 2) := by decide +kernel
theorem dL_others_22 : decode cL_others 22 = .ok (.aload 4, 2) := by decide +kernel
theorem dL_others_24 : decode cL_others 24 = .ok (.iload 6, 2) := by decide +kernel
theorem dL_others_26 : decode cL_others 26 = .ok (.iaload, 1) := by decide +kernel
theorem dL_others_27 : decode cL_others 27 = .ok (.sipush 10000, 3) := by decide +kernel
theorem dL_others_30 : decode cL_others 30 = .ok (.idiv, 1) := by decide +kernel
theorem dL_others_31 : decode cL_others 31 = .ok (.bipush 10, 2) := by decide +kernel
theorem dL_others_33 : decode cL_others 33 = .ok (.irem, 1) := by decide +kernel
theorem dL_others_34 : decode cL_others 34 = .ok (.iconst 1, 1) := by decide +kernel
theorem dL_others_35 : decode cL_others 35 = .ok (.if_icmp .ne 7, 3) := by decide +kernel
theorem dL_others_38 : decode cL_others 38 = .ok (.iconst 1, 1) := by decide +kernel
theorem dL_others_39 : decode cL_others 39 = .ok (.goto 4, 3) := by decide +kernel
theorem dL_others_42 : decode cL_others 42 = .ok (.iconst 0, 1) := by decide +kernel
theorem dL_others_43 : decode cL_others 43 = .ok (.istore 9, 2) := by decide +kernel
theorem dL_others_45 : decode cL_others 45 = .ok (.iload 9, 2) := by decide +kernel
theorem dL_others_47 : decode cL_others 47 = .ok (.ifCond .eq 23, 3) := by decide +kernel
theorem dL_others_50 : decode cL_others 50 = .ok (.aload 4, 2) := by decide +kernel
theorem dL_others_52 : decode cL_others 52 = .ok (.iload 7, 2) := by decide +kernel
theorem dL_others_54 : decode cL_others 54 = .ok (.iaload, 1) := by decide +kernel
theorem dL_others_55 : decode cL_others 55 = .ok (.sipush 10000, 3) := by decide +kernel
theorem dL_others_58 : decode cL_others 58 = .ok (.idiv, 1) := by decide +kernel
theorem dL_others_59 : decode cL_others 59 = .ok (.bipush 10, 2) := by decide +kernel
theorem dL_others_61 : decode cL_others 61 = .ok (.irem, 1) := by decide +kernel
theorem dL_others_62 : decode cL_others 62 = .ok (.iconst 1, 1) := by decide +kernel
theorem dL_others_63 : decode cL_others 63 = .ok (.if_icmp .ne 7, 3) := by decide +kernel
theorem dL_others_66 : decode cL_others 66 = .ok (.iconst 1, 1) := by decide +kernel
theorem dL_others_67 : decode cL_others 67 = .ok (.goto 4, 3) := by decide +kernel
theorem dL_others_70 : decode cL_others 70 = .ok (.iconst 0, 1) := by decide +kernel
theorem dL_others_71 : decode cL_others 71 = .ok (.istore 10, 2) := by decide +kernel
theorem dL_others_73 : decode cL_others 73 = .ok (.iload 8, 2) := by decide +kernel
theorem dL_others_75 : decode cL_others 75 = .ok (.ifCond .ne 350, 3) := by decide +kernel
theorem dL_others_78 : decode cL_others 78 = .ok (.aload 4, 2) := by decide +kernel
theorem dL_others_80 : decode cL_others 80 = .ok (.iload 6, 2) := by decide +kernel
theorem dL_others_82 : decode cL_others 82 = .ok (.iaload, 1) := by decide +kernel
theorem dL_others_83 : decode cL_others 83 = .ok (.ldc 104, 2) := by decide +kernel
theorem dL_others_85 : decode cL_others 85 = .ok (.idiv, 1) := by decide +kernel
theorem dL_others_86 : decode cL_others 86 = .ok (.ifCond .ne 64, 3) := by decide +kernel
theorem dL_others_89 : decode cL_others 89 = .ok (.aload 4, 2) := by decide +kernel
theorem dL_others_91 : decode cL_others 91 = .ok (.iload 7, 2) := by decide +kernel
theorem dL_others_93 : decode cL_others 93 = .ok (.iaload, 1) := by decide +kernel
theorem dL_others_94 : decode cL_others 94 = .ok (.ldc 104, 2) := by decide +kernel
theorem dL_others_96 : decode cL_others 96 = .ok (.idiv, 1) := by decide +kernel
theorem dL_others_97 : decode cL_others 97 = .ok (.ifCond .ne 53, 3) := by decide +kernel
theorem dL_others_100 : decode cL_others 100 = .ok (.aload 4, 2) := by decide +kernel
theorem dL_others_102 : decode cL_others 102 = .ok (.iload 6, 2) := by decide +kernel
theorem dL_others_104 : decode cL_others 104 = .ok (.iaload, 1) := by decide +kernel
theorem dL_others_105 : decode cL_others 105 = .ok (.sipush 1000, 3) := by decide +kernel
theorem dL_others_108 : decode cL_others 108 = .ok (.idiv, 1) := by decide +kernel
theorem dL_others_109 : decode cL_others 109 = .ok (.bipush 10, 2) := by decide +kernel
theorem dL_others_111 : decode cL_others 111 = .ok (.irem, 1) := by decide +kernel
theorem dL_others_112 : decode cL_others 112 = .ok (.aload 4, 2) := by decide +kernel
theorem dL_others_114 : decode cL_others 114 = .ok (.iload 7, 2) := by decide +kernel
theorem dL_others_116 : decode cL_others 116 = .ok (.iaload, 1) := by decide +kernel
theorem dL_others_117 : decode cL_others 117 = .ok (.sipush 1000, 3) := by decide +kernel
theorem dL_others_120 : decode cL_others 120 = .ok (.idiv, 1) := by decide +kernel
theorem dL_others_121 : decode cL_others 121 = .ok (.bipush 10, 2) := by decide +kernel
theorem dL_others_123 : decode cL_others 123 = .ok (.irem, 1) := by decide +kernel
theorem dL_others_124 : decode cL_others 124 = .ok (.if_icmp .ne 26, 3) := by decide +kernel
theorem dL_others_127 : decode cL_others 127 = .ok (.aload 4, 2) := by decide +kernel
theorem dL_others_129 : decode cL_others 129 = .ok (.iload 6, 2) := by decide +kernel
theorem dL_others_131 : decode cL_others 131 = .ok (.iaload, 1) := by decide +kernel
theorem dL_others_132 : decode cL_others 132 = .ok (.bipush 100, 2) := by decide +kernel
theorem dL_others_134 : decode cL_others 134 = .ok (.irem, 1) := by decide +kernel
theorem dL_others_135 : decode cL_others 135 = .ok (.aload 4, 2) := by decide +kernel
theorem dL_others_137 : decode cL_others 137 = .ok (.iload 7, 2) := by decide +kernel
theorem dL_others_139 : decode cL_others 139 = .ok (.iaload, 1) := by decide +kernel
theorem dL_others_140 : decode cL_others 140 = .ok (.bipush 100, 2) := by decide +kernel
theorem dL_others_142 : decode cL_others 142 = .ok (.irem, 1) := by decide +kernel
theorem dL_others_143 : decode cL_others 143 = .ok (.if_icmp .eq 7, 3) := by decide +kernel
theorem dL_others_146 : decode cL_others 146 = .ok (.iconst 1, 1) := by decide +kernel
theorem dL_others_147 : decode cL_others 147 = .ok (.goto 4, 3) := by decide +kernel
theorem dL_others_150 : decode cL_others 150 = .ok (.iconst 0, 1) := by decide +kernel
theorem dL_others_151 : decode cL_others 151 = .ok (.istore 11, 2) := by decide +kernel
theorem dL_others_153 : decode cL_others 153 = .ok (.aload_n 0, 1) := by decide +kernel
theorem dL_others_154 : decode cL_others 154 = .ok (.iconst 3, 1) := by decide +kernel
theorem dL_others_155 : decode cL_others 155 = .ok (.iload 6, 2) := by decide +kernel
theorem dL_others_157 : decode cL_others 157 = .ok (.iload 7, 2) := by decide +kernel
theorem dL_others_159 : decode cL_others 159 = .ok (.iconst 0, 1) := by decide +kernel
theorem dL_others_160 : decode cL_others 160 = .ok (.invokestatic 95, 3) := by decide +kernel
theorem dL_others_163 : decode cL_others 163 = .ok (.lstore 12, 2) := by decide +kernel
theorem dL_others_165 : decode cL_others 165 = .ok (.iload 11, 2) := by decide +kernel
theorem dL_others_167 : decode cL_others 167 = .ok (.ifCond .eq 16, 3) := by decide +kernel
theorem dL_others_170 : decode cL_others 170 = .ok (.iload 10, 2) := by decide +kernel
theorem dL_others_172 : decode cL_others 172 = .ok (.ifCond .eq 11, 3) := by decide +kernel
theorem dL_others_175 : decode cL_others 175 = .ok (.aload_n 3, 1) := by decide +kernel
theorem dL_others_176 : decode cL_others 176 = .ok (.iconst 1, 1) := by decide +kernel
theorem dL_others_177 : decode cL_others 177 = .ok (.iaload, 1) := by decide +kernel
theorem dL_others_178 : decode cL_others 178 = .ok (.bipush 40, 2) := by decide +kernel
theorem dL_others_180 : decode cL_others 180 = .ok (.if_icmp .ne 29, 3) := by decide +kernel
theorem dL_others_183 : decode cL_others 183 = .ok (.lload 12, 2) := by decide +kernel
theorem dL_others_185 : decode cL_others 185 = .ok (.iload 11, 2) := by decide +kernel
theorem dL_others_187 : decode cL_others 187 = .ok (.ifCond .eq 9, 3) := by decide +kernel
theorem dL_others_190 : decode cL_others 190 = .ok (.ldc2_w 52, 3) := by decide +kernel
theorem dL_others_193 : decode cL_others 193 = .ok (.goto 6, 3) := by decide +kernel
theorem dL_others_196 : decode cL_others 196 = .ok (.ldc2_w 48, 3) := by decide +kernel
theorem dL_others_199 : decode cL_others 199 = .ok (.lcmp, 1) := by decide +kernel
theorem dL_others_200 : decode cL_others 200 = .ok (.ifCond .ne 7, 3) := by decide +kernel
theorem dL_others_203 : decode cL_others 203 = .ok (.iconst 1, 1) := by decide +kernel
theorem dL_others_204 : decode cL_others 204 = .ok (.goto 4, 3) := by decide +kernel
theorem dL_others_207 : decode cL_others 207 = .ok (.iconst 0, 1) := by decide +kernel
theorem dL_others_208 : decode cL_others 208 = .ok (.ireturn, 1) := by decide +kernel
theorem dL_others_209 : decode cL_others 209 = .ok (.aload 4, 2) := by decide +kernel
theorem dL_others_211 : decode cL_others 211 = .ok (.iload 6, 2) := by decide +kernel
theorem dL_others_213 : decode cL_others 213 = .ok (.iaload, 1) := by decide +kernel
theorem dL_others_214 : decode cL_others 214 = .ok (.bipush 100, 2) := by decide +kernel
theorem dL_others_216 : decode cL_others 216 = .ok (.irem, 1) := by decide +kernel
theorem dL_others_217 : decode cL_others 217 = .ok (.aload 4, 2) := by decide +kernel
theorem dL_others_219 : decode cL_others 219 = .ok (.iload 7, 2) := by decide +kernel
theorem dL_others_221 : decode cL_others 221 = .ok (.iaload, 1) := by decide +kernel
theorem dL_others_222 : decode cL_others 222 = .ok (.bipush 100, 2) := by decide +kernel
theorem dL_others_224 : decode cL_others 224 = .ok (.irem, 1) := by decide +kernel
theorem dL_others_225 : decode cL_others 225 = .ok (.if_icmp .le 23, 3) := by decide +kernel
theorem dL_others_228 : decode cL_others 228 = .ok (.aload 4, 2) := by decide +kernel
theorem dL_others_230 : decode cL_others 230 = .ok (.iload 6, 2) := by decide +kernel
theorem dL_others_232 : decode cL_others 232 = .ok (.iaload, 1) := by decide +kernel
theorem dL_others_233 : decode cL_others 233 = .ok (.bipush 100, 2) := by decide +kernel
theorem dL_others_235 : decode cL_others 235 = .ok (.irem, 1) := by decide +kernel
theorem dL_others_236 : decode cL_others 236 = .ok (.aload 4, 2) := by decide +kernel
theorem dL_others_238 : decode cL_others 238 = .ok (.iload 7, 2) := by decide +kernel
theorem dL_others_240 : decode cL_others 240 = .ok (.iaload, 1) := by decide +kernel
theorem dL_others_241 : decode cL_others 241 = .ok (.bipush 100, 2) := by decide +kernel
theorem dL_others_243 : decode cL_others 243 = .ok (.irem, 1) := by decide +kernel
theorem dL_others_244 : decode cL_others 244 = .ok (.isub, 1) := by decide +kernel
theorem dL_others_245 : decode cL_others 245 = .ok (.goto 20, 3) := by decide +kernel
theorem dL_others_248 : decode cL_others 248 = .ok (.aload 4, 2) := by decide +kernel
theorem dL_others_250 : decode cL_others 250 = .ok (.iload 7, 2) := by decide +kernel
theorem dL_others_252 : decode cL_others 252 = .ok (.iaload, 1) := by decide +kernel
theorem dL_others_253 : decode cL_others 253 = .ok (.bipush 100, 2) := by decide +kernel
theorem dL_others_255 : decode cL_others 255 = .ok (.irem, 1) := by decide +kernel
theorem dL_others_256 : decode cL_others 256 = .ok (.aload 4, 2) := by decide +kernel
theorem dL_others_258 : decode cL_others 258 = .ok (.iload 6, 2) := by decide +kernel
theorem dL_others_260 : decode cL_others 260 = .ok (.iaload, 1) := by decide +kernel
theorem dL_others_261 : decode cL_others 261 = .ok (.bipush 100, 2) := by decide +kernel
theorem dL_others_263 : decode cL_others 263 = .ok (.irem, 1) := by decide +kernel
theorem dL_others_264 : decode cL_others 264 = .ok (.isub, 1) := by decide +kernel
theorem dL_others_265 : decode cL_others 265 = .ok (.istore 14, 2) := by decide +kernel
theorem dL_others_267 : decode cL_others 267 = .ok (.iconst 0, 1) := by decide +kernel
theorem dL_others_268 : decode cL_others 268 = .ok (.istore 15, 2) := by decide +kernel
theorem dL_others_270 : decode cL_others 270 = .ok (.iconst 1, 1) := by decide +kernel
theorem dL_others_271 : decode cL_others 271 = .ok (.istore 16, 2) := by decide +kernel
theorem dL_others_273 : decode cL_others 273 = .ok (.iload 16, 2) := by decide +kernel
theorem dL_others_275 : decode cL_others 275 = .ok (.aload_n 3, 1) := by decide +kernel
theorem dL_others_276 : decode cL_others 276 = .ok (.iconst 0, 1) := by decide +kernel
theorem dL_others_277 : decode cL_others 277 = .ok (.iaload, 1) := by decide +kernel
theorem dL_others_278 : decode cL_others 278 = .ok (.if_icmp .ge 77, 3) := by decide +kernel
theorem dL_others_281 : decode cL_others 281 = .ok (.ldc 113, 2) := by decide +kernel
theorem dL_others_283 : decode cL_others 283 = .ok (.iload 14, 2) := by decide +kernel
theorem dL_others_285 : decode cL_others 285 = .ok (.imul, 1) := by decide +kernel
theorem dL_others_286 : decode cL_others 286 = .ok (.aload_n 0, 1) := by decide +kernel
theorem dL_others_287 : decode cL_others 287 = .ok (.iload 16, 2) := by decide +kernel
theorem dL_others_289 : decode cL_others 289 = .ok (.iconst 2, 1) := by decide +kernel
theorem dL_others_290 : decode cL_others 290 = .ok (.invokevirtual 39, 3) := by decide +kernel
theorem dL_others_293 : decode cL_others 293 = .ok (.isub, 1) := by decide +kernel
theorem dL_others_294 : decode cL_others 294 = .ok (.istore 17, 2) := by decide +kernel
theorem dL_others_296 : decode cL_others 296 = .ok (.ldc 113, 2) := by decide +kernel
theorem dL_others_298 : decode cL_others 298 = .ok (.iload 14, 2) := by decide +kernel
theorem dL_others_300 : decode cL_others 300 = .ok (.imul, 1) := by decide +kernel
theorem dL_others_301 : decode cL_others 301 = .ok (.aload_n 0, 1) := by decide +kernel
theorem dL_others_302 : decode cL_others 302 = .ok (.iload 15, 2) := by decide +kernel
theorem dL_others_304 : decode cL_others 304 = .ok (.iconst 2, 1) := by decide +kernel
theorem dL_others_305 : decode cL_others 305 = .ok (.invokevirtual 39, 3) := by decide +kernel
theorem dL_others_308 : decode cL_others 308 = .ok (.isub, 1) := by decide +kernel
theorem dL_others_309 : decode cL_others 309 = .ok (.istore 18, 2) := by decide +kernel
theorem dL_others_311 : decode cL_others 311 = .ok (.iload 17, 2) := by decide +kernel
theorem dL_others_313 : decode cL_others 313 = .ok (.ifCond .ge 9, 3) := by decide +kernel
theorem dL_others_316 : decode cL_others 316 = .ok (.iload 17, 2) := by decide +kernel
theorem dL_others_318 : decode cL_others 318 = .ok (.ineg, 1) := by decide +kernel
theorem dL_others_319 : decode cL_others 319 = .ok (.goto 5, 3) := by decide +kernel
theorem dL_others_322 : decode cL_others 322 = .ok (.iload 17, 2) := by decide +kernel
theorem dL_others_324 : decode cL_others 324 = .ok (.iload 18, 2) := by decide +kernel
theorem dL_others_326 : decode cL_others 326 = .ok (.ifCond .ge 9, 3) := by decide +kernel
theorem dL_others_329 : decode cL_others 329 = .ok (.iload 18, 2) := by decide +kernel
theorem dL_others_331 : decode cL_others 331 = .ok (.ineg, 1) := by decide +kernel
theorem dL_others_332 : decode cL_others 332 = .ok (.goto 5, 3) := by decide +kernel
theorem dL_others_335 : decode cL_others 335 = .ok (.iload 18, 2) := by decide +kernel
theorem dL_others_337 : decode cL_others 337 = .ok (.if_icmp .ge 8, 3) := by decide +kernel
theorem dL_others_340 : decode cL_others 340 = .ok (.iload 16, 2) := by decide +kernel
theorem dL_others_342 : decode cL_others 342 = .ok (.goto 5, 3) := by decide +kernel
theorem dL_others_345 : decode cL_others 345 = .ok (.iload 15, 2) := by decide +kernel
theorem dL_others_347 : decode cL_others 347 = .ok (.istore 15, 2) := by decide +kernel
theorem dL_others_349 : decode cL_others 349 = .ok (.iinc 16 1, 3) := by decide +kernel
theorem dL_others_352 : decode cL_others 352 = .ok (.goto (-79), 3) := by decide +kernel
theorem dL_others_355 : decode cL_others 355 = .ok (.aload_n 0, 1) := by decide +kernel
theorem dL_others_356 : decode cL_others 356 = .ok (.lload 12, 2) := by decide +kernel
theorem dL_others_358 : decode cL_others 358 = .ok (.iconst 1, 1) := by decide +kernel
theorem dL_others_359 : decode cL_others 359 = .ok (.aload 4, 2) := by decide +kernel
theorem dL_others_361 : decode cL_others 361 = .ok (.iload 6, 2) := by decide +kernel
theorem dL_others_363 : decode cL_others 363 = .ok (.iaload, 1) := by decide +kernel
theorem dL_others_364 : decode cL_others 364 = .ok (.sipush 1000, 3) := by decide +kernel
theorem dL_others_367 : decode cL_others 367 = .ok (.idiv, 1) := by decide +kernel
theorem dL_others_368 : decode cL_others 368 = .ok (.bipush 10, 2) := by decide +kernel
theorem dL_others_370 : decode cL_others 370 = .ok (.irem, 1) := by decide +kernel
theorem dL_others_371 : decode cL_others 371 = .ok (.aload 4, 2) := by decide +kernel
theorem dL_others_373 : decode cL_others 373 = .ok (.iload 6, 2) := by decide +kernel
theorem dL_others_375 : decode cL_others 375 = .ok (.iaload, 1) := by decide +kernel
theorem dL_others_376 : decode cL_others 376 = .ok (.bipush 100, 2) := by decide +kernel
theorem dL_others_378 : decode cL_others 378 = .ok (.irem, 1) := by decide +kernel
theorem dL_others_379 : decode cL_others 379 = .ok (.lconst 1, 1) := by decide +kernel
theorem dL_others_380 : decode cL_others 380 = .ok (.iload 6, 2) := by decide +kernel
theorem dL_others_382 : decode cL_others 382 = .ok (.lshl, 1) := by decide +kernel
theorem dL_others_383 : decode cL_others 383 = .ok (.lconst 1, 1) := by decide +kernel
theorem dL_others_384 : decode cL_others 384 = .ok (.iload 7, 2) := by decide +kernel
theorem dL_others_386 : decode cL_others 386 = .ok (.lshl, 1) := by decide +kernel
theorem dL_others_387 : decode cL_others 387 = .ok (.lor, 1) := by decide +kernel
theorem dL_others_388 : decode cL_others 388 = .ok (.aload_n 3, 1) := by decide +kernel
theorem dL_others_389 : decode cL_others 389 = .ok (.aload 4, 2) := by decide +kernel
theorem dL_others_391 : decode cL_others 391 = .ok (.aload 5, 2) := by decide +kernel
theorem dL_others_393 : decode cL_others 393 = .ok (.invokestatic 109, 3) := by decide +kernel
theorem dL_others_396 : decode cL_others 396 = .ok (.ifCond .eq 27, 3) := by decide +kernel
theorem dL_others_399 : decode cL_others 399 = .ok (.aload_n 0, 1) := by decide +kernel
theorem dL_others_400 : decode cL_others 400 = .ok (.aload_n 3, 1) := by decide +kernel
theorem dL_others_401 : decode cL_others 401 = .ok (.iconst 1, 1) := by decide +kernel
theorem dL_others_402 : decode cL_others 402 = .ok (.iaload, 1) := by decide +kernel
theorem dL_others_403 : decode cL_others 403 = .ok (.iconst 1, 1) := by decide +kernel
theorem dL_others_404 : decode cL_others 404 = .ok (.isub, 1) := by decide +kernel
theorem dL_others_405 : decode cL_others 405 = .ok (.iconst 3, 1) := by decide +kernel
theorem dL_others_406 : decode cL_others 406 = .ok (.invokevirtual 36, 3) := by decide +kernel
theorem dL_others_409 : decode cL_others 409 = .ok (.aload_n 0, 1) := by decide +kernel
theorem dL_others_410 : decode cL_others 410 = .ok (.iload 15, 2) := by decide +kernel
theorem dL_others_412 : decode cL_others 412 = .ok (.iconst 0, 1) := by decide +kernel
theorem dL_others_413 : decode cL_others 413 = .ok (.invokevirtual 39, 3) := by decide +kernel
theorem dL_others_416 : decode cL_others 416 = .ok (.if_icmp .ne 7, 3) := by decide +kernel
theorem dL_others_419 : decode cL_others 419 = .ok (.iconst 1, 1) := by decide +kernel
theorem dL_others_420 : decode cL_others 420 = .ok (.goto 4, 3) := by decide +kernel
theorem dL_others_423 : decode cL_others 423 = .ok (.iconst 0, 1) := by decide +kernel
theorem dL_others_424 : decode cL_others 424 = .ok (.ireturn, 1) := by decide +kernel
theorem dL_others_425 : decode cL_others 425 = .ok (.iload 8, 2) := by decide +kernel
theorem dL_others_427 : decode cL_others 427 = .ok (.iconst 1, 1) := by decide +kernel
theorem dL_others_428 : decode cL_others 428 = .ok (.if_icmp .ne 107, 3) := by decide +kernel
theorem dL_others_431 : decode cL_others 431 = .ok (.aload_n 0, 1) := by decide +kernel
theorem dL_others_432 : decode cL_others 432 = .ok (.iconst 4, 1) := by decide +kernel
theorem dL_others_433 : decode cL_others 433 = .ok (.iload 6, 2) := by decide +kernel
theorem dL_others_435 : decode cL_others 435 = .ok (.iconst 0, 1) := by decide +kernel
theorem dL_others_436 : decode cL_others 436 = .ok (.iconst 0, 1) := by decide +kernel
theorem dL_others_437 : decode cL_others 437 = .ok (.invokestatic 95, 3) := by decide +kernel
theorem dL_others_440 : decode cL_others 440 = .ok (.lstore 11, 2) := by decide +kernel
theorem dL_others_442 : decode cL_others 442 = .ok (.aload 4, 2) := by decide +kernel
theorem dL_others_444 : decode cL_others 444 = .ok (.iload 6, 2) := by decide +kernel
theorem dL_others_446 : decode cL_others 446 = .ok (.iaload, 1) := by decide +kernel
theorem dL_others_447 : decode cL_others 447 = .ok (.ldc 104, 2) := by decide +kernel
theorem dL_others_449 : decode cL_others 449 = .ok (.idiv, 1) := by decide +kernel
theorem dL_others_450 : decode cL_others 450 = .ok (.ifCond .ne 16, 3) := by decide +kernel
theorem dL_others_453 : decode cL_others 453 = .ok (.iload 9, 2) := by decide +kernel
theorem dL_others_455 : decode cL_others 455 = .ok (.ifCond .eq 11, 3) := by decide +kernel
theorem dL_others_458 : decode cL_others 458 = .ok (.aload_n 3, 1) := by decide +kernel
theorem dL_others_459 : decode cL_others 459 = .ok (.iconst 1, 1) := by decide +kernel
theorem dL_others_460 : decode cL_others 460 = .ok (.iaload, 1) := by decide +kernel
theorem dL_others_461 : decode cL_others 461 = .ok (.bipush 40, 2) := by decide +kernel
theorem dL_others_463 : decode cL_others 463 = .ok (.if_icmp .ne 35, 3) := by decide +kernel
theorem dL_others_466 : decode cL_others 466 = .ok (.lload 11, 2) := by decide +kernel
theorem dL_others_468 : decode cL_others 468 = .ok (.aload 4, 2) := by decide +kernel
theorem dL_others_470 : decode cL_others 470 = .ok (.iload 6, 2) := by decide +kernel
theorem dL_others_472 : decode cL_others 472 = .ok (.iaload, 1) := by decide +kernel
theorem dL_others_473 : decode cL_others 473 = .ok (.ldc 104, 2) := by decide +kernel
theorem dL_others_475 : decode cL_others 475 = .ok (.idiv, 1) := by decide +kernel
theorem dL_others_476 : decode cL_others 476 = .ok (.ifCond .eq 9, 3) := by decide +kernel
theorem dL_others_479 : decode cL_others 479 = .ok (.ldc2_w 48, 3) := by decide +kernel
theorem dL_others_482 : decode cL_others 482 = .ok (.goto 6, 3) := by decide +kernel
theorem dL_others_485 : decode cL_others 485 = .ok (.ldc2_w 52, 3) := by decide +kernel
theorem dL_others_488 : decode cL_others 488 = .ok (.lcmp, 1) := by decide +kernel
theorem dL_others_489 : decode cL_others 489 = .ok (.ifCond .ne 7, 3) := by decide +kernel
theorem dL_others_492 : decode cL_others 492 = .ok (.iconst 1, 1) := by decide +kernel
theorem dL_others_493 : decode cL_others 493 = .ok (.goto 4, 3) := by decide +kernel
theorem dL_others_496 : decode cL_others 496 = .ok (.iconst 0, 1) := by decide +kernel
theorem dL_others_497 : decode cL_others 497 = .ok (.ireturn, 1) := by decide +kernel
theorem dL_others_498 : decode cL_others 498 = .ok (.aload_n 0, 1) := by decide +kernel
theorem dL_others_499 : decode cL_others 499 = .ok (.lload 11, 2) := by decide +kernel
theorem dL_others_501 : decode cL_others 501 = .ok (.iconst 2, 1) := by decide +kernel
theorem dL_others_502 : decode cL_others 502 = .ok (.aload 4, 2) := by decide +kernel
theorem dL_others_504 : decode cL_others 504 = .ok (.iload 6, 2) := by decide +kernel
theorem dL_others_506 : decode cL_others 506 = .ok (.iaload, 1) := by decide +kernel
theorem dL_others_507 : decode cL_others 507 = .ok (.sipush 1000, 3) := by decide +kernel
theorem dL_others_510 : decode cL_others 510 = .ok (.idiv, 1) := by decide +kernel
theorem dL_others_511 : decode cL_others 511 = .ok (.bipush 10, 2) := by decide +kernel
theorem dL_others_513 : decode cL_others 513 = .ok (.irem, 1) := by decide +kernel
theorem dL_others_514 : decode cL_others 514 = .ok (.aload 4, 2) := by decide +kernel
theorem dL_others_516 : decode cL_others 516 = .ok (.iload 6, 2) := by decide +kernel
theorem dL_others_518 : decode cL_others 518 = .ok (.iaload, 1) := by decide +kernel
theorem dL_others_519 : decode cL_others 519 = .ok (.bipush 100, 2) := by decide +kernel
theorem dL_others_521 : decode cL_others 521 = .ok (.irem, 1) := by decide +kernel
theorem dL_others_522 : decode cL_others 522 = .ok (.lconst 1, 1) := by decide +kernel
theorem dL_others_523 : decode cL_others 523 = .ok (.iload 6, 2) := by decide +kernel
theorem dL_others_525 : decode cL_others 525 = .ok (.lshl, 1) := by decide +kernel
theorem dL_others_526 : decode cL_others 526 = .ok (.aload_n 3, 1) := by decide +kernel
theorem dL_others_527 : decode cL_others 527 = .ok (.aload 4, 2) := by decide +kernel
theorem dL_others_529 : decode cL_others 529 = .ok (.aload 5, 2) := by decide +kernel
theorem dL_others_531 : decode cL_others 531 = .ok (.invokestatic 109, 3) := by decide +kernel
theorem dL_others_534 : decode cL_others 534 = .ok (.ireturn, 1) := by decide +kernel
theorem dL_others_535 : decode cL_others 535 = .ok (.aload_n 0, 1) := by decide +kernel
theorem dL_others_536 : decode cL_others 536 = .ok (.iconst 5, 1) := by decide +kernel
theorem dL_others_537 : decode cL_others 537 = .ok (.iload 6, 2) := by decide +kernel
theorem dL_others_539 : decode cL_others 539 = .ok (.iload 7, 2) := by decide +kernel
theorem dL_others_541 : decode cL_others 541 = .ok (.iconst 0, 1) := by decide +kernel
theorem dL_others_542 : decode cL_others 542 = .ok (.invokestatic 95, 3) := by decide +kernel
theorem dL_others_545 : decode cL_others 545 = .ok (.lstore 11, 2) := by decide +kernel
theorem dL_others_547 : decode cL_others 547 = .ok (.iload 7, 2) := by decide +kernel
theorem dL_others_549 : decode cL_others 549 = .ok (.iload 6, 2) := by decide +kernel
theorem dL_others_551 : decode cL_others 551 = .ok (.if_icmp .ge 27, 3) := by decide +kernel
theorem dL_others_554 : decode cL_others 554 = .ok (.iload 10, 2) := by decide +kernel
theorem dL_others_556 : decode cL_others 556 = .ok (.ifCond .eq 22, 3) := by decide +kernel
theorem dL_others_559 : decode cL_others 559 = .ok (.aload 5, 2) := by decide +kernel
theorem dL_others_561 : decode cL_others 561 = .ok (.iload 6, 2) := by decide +kernel
theorem dL_others_563 : decode cL_others 563 = .ok (.laload, 1) := by decide +kernel
theorem dL_others_564 : decode cL_others 564 = .ok (.iload 7, 2) := by decide +kernel
theorem dL_others_566 : decode cL_others 566 = .ok (.lshr, 1) := by decide +kernel
theorem dL_others_567 : decode cL_others 567 = .ok (.lconst 1, 1) := by decide +kernel
theorem dL_others_568 : decode cL_others 568 = .ok (.land, 1) := by decide +kernel
theorem dL_others_569 : decode cL_others 569 = .ok (.lconst 0, 1) := by decide +kernel
theorem dL_others_570 : decode cL_others 570 = .ok (.lcmp, 1) := by decide +kernel
theorem dL_others_571 : decode cL_others 571 = .ok (.ifCond .ne 7, 3) := by decide +kernel
theorem dL_others_574 : decode cL_others 574 = .ok (.iconst 1, 1) := by decide +kernel
theorem dL_others_575 : decode cL_others 575 = .ok (.goto 4, 3) := by decide +kernel
theorem dL_others_578 : decode cL_others 578 = .ok (.iconst 0, 1) := by decide +kernel
theorem dL_others_579 : decode cL_others 579 = .ok (.istore 13, 2) := by decide +kernel
theorem dL_others_581 : decode cL_others 581 = .ok (.aload 5, 2) := by decide +kernel
theorem dL_others_583 : decode cL_others 583 = .ok (.iload 6, 2) := by decide +kernel
theorem dL_others_585 : decode cL_others 585 = .ok (.dup2, 1) := by decide +kernel
theorem dL_others_586 : decode cL_others 586 = .ok (.laload, 1) := by decide +kernel
theorem dL_others_587 : decode cL_others 587 = .ok (.iload 13, 2) := by decide +kernel
theorem dL_others_589 : decode cL_others 589 = .ok (.ifCond .eq 10, 3) := by decide +kernel
theorem dL_others_592 : decode cL_others 592 = .ok (.lconst 1, 1) := by decide +kernel
theorem dL_others_593 : decode cL_others 593 = .ok (.iload 7, 2) := by decide +kernel
theorem dL_others_595 : decode cL_others 595 = .ok (.lshl, 1) := by decide +kernel
theorem dL_others_596 : decode cL_others 596 = .ok (.goto 4, 3) := by decide +kernel
theorem dL_others_599 : decode cL_others 599 = .ok (.lconst 0, 1) := by decide +kernel
theorem dL_others_600 : decode cL_others 600 = .ok (.lor, 1) := by decide +kernel
theorem dL_others_601 : decode cL_others 601 = .ok (.lastore, 1) := by decide +kernel
theorem dL_others_602 : decode cL_others 602 = .ok (.iload 13, 2) := by decide +kernel
theorem dL_others_604 : decode cL_others 604 = .ok (.ifCond .eq 25, 3) := by decide +kernel
theorem dL_others_607 : decode cL_others 607 = .ok (.lload 11, 2) := by decide +kernel
theorem dL_others_609 : decode cL_others 609 = .ok (.aload_n 0, 1) := by decide +kernel
theorem dL_others_610 : decode cL_others 610 = .ok (.iload 6, 2) := by decide +kernel
theorem dL_others_612 : decode cL_others 612 = .ok (.iconst 5, 1) := by decide +kernel
theorem dL_others_613 : decode cL_others 613 = .ok (.invokevirtual 36, 3) := by decide +kernel
theorem dL_others_616 : decode cL_others 616 = .ok (.i2l, 1) := by decide +kernel
theorem dL_others_617 : decode cL_others 617 = .ok (.lcmp, 1) := by decide +kernel
theorem dL_others_618 : decode cL_others 618 = .ok (.ifCond .ne 7, 3) := by decide +kernel
theorem dL_others_621 : decode cL_others 621 = .ok (.iconst 1, 1) := by decide +kernel
theorem dL_others_622 : decode cL_others 622 = .ok (.goto 34, 3) := by decide +kernel
theorem dL_others_625 : decode cL_others 625 = .ok (.iconst 0, 1) := by decide +kernel
theorem dL_others_626 : decode cL_others 626 = .ok (.goto 30, 3) := by decide +kernel
theorem dL_others_629 : decode cL_others 629 = .ok (.lload 11, 2) := by decide +kernel
theorem dL_others_631 : decode cL_others 631 = .ok (.iload 7, 2) := by decide +kernel
theorem dL_others_633 : decode cL_others 633 = .ok (.iload 6, 2) := by decide +kernel
theorem dL_others_635 : decode cL_others 635 = .ok (.if_icmp .ge 9, 3) := by decide +kernel
theorem dL_others_638 : decode cL_others 638 = .ok (.ldc2_w 52, 3) := by decide +kernel
theorem dL_others_641 : decode cL_others 641 = .ok (.goto 6, 3) := by decide +kernel
theorem dL_others_644 : decode cL_others 644 = .ok (.ldc2_w 48, 3) := by decide +kernel
theorem dL_others_647 : decode cL_others 647 = .ok (.lcmp, 1) := by decide +kernel
theorem dL_others_648 : decode cL_others 648 = .ok (.ifCond .ne 7, 3) := by decide +kernel
theorem dL_others_651 : decode cL_others 651 = .ok (.iconst 1, 1) := by decide +kernel
theorem dL_others_652 : decode cL_others 652 = .ok (.goto 4, 3) := by decide +kernel
theorem dL_others_655 : decode cL_others 655 = .ok (.iconst 0, 1) := by decide +kernel
theorem dL_others_656 : decode cL_others 656 = .ok (.ireturn, 1) := by decide +kernel
theorem dL_audits_0 : decode cL_audits 0 = .ok (.iload_n 1, 1) := by decide +kernel
theorem dL_audits_1 : decode cL_audits 1 = .ok (.iconst 2, 1) := by decide +kernel
theorem dL_audits_2 : decode cL_audits 2 = .ok (.irem, 1) := by decide +kernel
theorem dL_audits_3 : decode cL_audits 3 = .ok (.ifCond .ne 113, 3) := by decide +kernel
theorem dL_audits_6 : decode cL_audits 6 = .ok (.iload_n 1, 1) := by decide +kernel
theorem dL_audits_7 : decode cL_audits 7 = .ok (.iconst 2, 1) := by decide +kernel
theorem dL_audits_8 : decode cL_audits 8 = .ok (.idiv, 1) := by decide +kernel
theorem dL_audits_9 : decode cL_audits 9 = .ok (.aload_n 2, 1) := by decide +kernel
theorem dL_audits_10 : decode cL_audits 10 = .ok (.iconst 1, 1) := by decide +kernel
theorem dL_audits_11 : decode cL_audits 11 = .ok (.iaload, 1) := by decide +kernel
theorem dL_audits_12 : decode cL_audits 12 = .ok (.irem, 1) := by decide +kernel
theorem dL_audits_13 : decode cL_audits 13 = .ok (.istore 4, 2) := by decide +kernel
theorem dL_audits_15 : decode cL_audits 15 = .ok (.aload_n 3, 1) := by decide +kernel
theorem dL_audits_16 : decode cL_audits 16 = .ok (.iload 4, 2) := by decide +kernel
theorem dL_audits_18 : decode cL_audits 18 = .ok (.iaload, 1) := by decide +kernel
theorem dL_audits_19 : decode cL_audits 19 = .ok (.sipush 10000, 3) := by decide +kernel
theorem dL_audits_22 : decode cL_audits 22 = .ok (.idiv, 1) := by decide +kernel
theorem dL_audits_23 : decode cL_audits 23 = .ok (.bipush 10, 2) := by decide +kernel
theorem dL_audits_25 : decode cL_audits 25 = .ok (.irem, 1) := by decide +kernel
theorem dL_audits_26 : decode cL_audits 26 = .ok (.iconst 1, 1) := by decide +kernel
theorem dL_audits_27 : decode cL_audits 27 = .ok (.if_icmp .ne 7, 3) := by decide +kernel
theorem dL_audits_30 : decode cL_audits 30 = .ok (.iconst 1, 1) := by decide +kernel
theorem dL_audits_31 : decode cL_audits 31 = .ok (.goto 4, 3) := by decide +kernel
theorem dL_audits_34 : decode cL_audits 34 = .ok (.iconst 0, 1) := by decide +kernel
theorem dL_audits_35 : decode cL_audits 35 = .ok (.istore 5, 2) := by decide +kernel
theorem dL_audits_37 : decode cL_audits 37 = .ok (.aload_n 0, 1) := by decide +kernel
theorem dL_audits_38 : decode cL_audits 38 = .ok (.bipush 6, 2) := by decide +kernel
theorem dL_audits_40 : decode cL_audits 40 = .ok (.iload 4, 2) := by decide +kernel
theorem dL_audits_42 : decode cL_audits 42 = .ok (.iconst 0, 1) := by decide +kernel
theorem dL_audits_43 : decode cL_audits 43 = .ok (.iconst 0, 1) := by decide +kernel
theorem dL_audits_44 : decode cL_audits 44 = .ok (.invokestatic 95, 3) := by decide +kernel
theorem dL_audits_47 : decode cL_audits 47 = .ok (.lstore 6, 2) := by decide +kernel
theorem dL_audits_49 : decode cL_audits 49 = .ok (.iload 5, 2) := by decide +kernel
theorem dL_audits_51 : decode cL_audits 51 = .ok (.ifCond .eq 41, 3) := by decide +kernel
theorem dL_audits_54 : decode cL_audits 54 = .ok (.lload 6, 2) := by decide +kernel
theorem dL_audits_56 : decode cL_audits 56 = .ok (.aload_n 0, 1) := by decide +kernel
theorem dL_audits_57 : decode cL_audits 57 = .ok (.aload_n 2, 1) := by decide +kernel
theorem dL_audits_58 : decode cL_audits 58 = .ok (.aload_n 3, 1) := by decide +kernel
theorem dL_audits_59 : decode cL_audits 59 = .ok (.invokestatic 114, 3) := by decide +kernel
theorem dL_audits_62 : decode cL_audits 62 = .ok (.i2l, 1) := by decide +kernel
theorem dL_audits_63 : decode cL_audits 63 = .ok (.lcmp, 1) := by decide +kernel
theorem dL_audits_64 : decode cL_audits 64 = .ok (.ifCond .ne 24, 3) := by decide +kernel
theorem dL_audits_67 : decode cL_audits 67 = .ok (.lload 6, 2) := by decide +kernel
theorem dL_audits_69 : decode cL_audits 69 = .ok (.lconst 0, 1) := by decide +kernel
theorem dL_audits_70 : decode cL_audits 70 = .ok (.lcmp, 1) := by decide +kernel
theorem dL_audits_71 : decode cL_audits 71 = .ok (.ifCond .le 17, 3) := by decide +kernel
theorem dL_audits_74 : decode cL_audits 74 = .ok (.aload_n 0, 1) := by decide +kernel
theorem dL_audits_75 : decode cL_audits 75 = .ok (.iload 4, 2) := by decide +kernel
theorem dL_audits_77 : decode cL_audits 77 = .ok (.iconst 4, 1) := by decide +kernel
theorem dL_audits_78 : decode cL_audits 78 = .ok (.invokevirtual 36, 3) := by decide +kernel
theorem dL_audits_81 : decode cL_audits 81 = .ok (.ifCond .ne 7, 3) := by decide +kernel
theorem dL_audits_84 : decode cL_audits 84 = .ok (.iconst 1, 1) := by decide +kernel
theorem dL_audits_85 : decode cL_audits 85 = .ok (.goto 30, 3) := by decide +kernel
theorem dL_audits_88 : decode cL_audits 88 = .ok (.iconst 0, 1) := by decide +kernel
theorem dL_audits_89 : decode cL_audits 89 = .ok (.goto 26, 3) := by decide +kernel
theorem dL_audits_92 : decode cL_audits 92 = .ok (.lload 6, 2) := by decide +kernel
theorem dL_audits_94 : decode cL_audits 94 = .ok (.ldc2_w 52, 3) := by decide +kernel
theorem dL_audits_97 : decode cL_audits 97 = .ok (.lcmp, 1) := by decide +kernel
theorem dL_audits_98 : decode cL_audits 98 = .ok (.ifCond .ne 16, 3) := by decide +kernel
theorem dL_audits_101 : decode cL_audits 101 = .ok (.aload_n 0, 1) := by decide +kernel
theorem dL_audits_102 : decode cL_audits 102 = .ok (.aload_n 2, 1) := by decide +kernel
theorem dL_audits_103 : decode cL_audits 103 = .ok (.aload_n 3, 1) := by decide +kernel
theorem dL_audits_104 : decode cL_audits 104 = .ok (.invokestatic 114, 3) := by decide +kernel
theorem dL_audits_107 : decode cL_audits 107 = .ok (.ifCond .ne 7, 3) := by decide +kernel
theorem dL_audits_110 : decode cL_audits 110 = .ok (.iconst 1, 1) := by decide +kernel
theorem dL_audits_111 : decode cL_audits 111 = .ok (.goto 4, 3) := by decide +kernel
theorem dL_audits_114 : decode cL_audits 114 = .ok (.iconst 0, 1) := by decide +kernel
theorem dL_audits_115 : decode cL_audits 115 = .ok (.ireturn, 1) := by decide +kernel
theorem dL_audits_116 : decode cL_audits 116 = .ok (.aload_n 0, 1) := by decide +kernel
theorem dL_audits_117 : decode cL_audits 117 = .ok (.invokevirtual 118, 3) := by decide +kernel
theorem dL_audits_120 : decode cL_audits 120 = .ok (.istore 4, 2) := by decide +kernel
theorem dL_audits_122 : decode cL_audits 122 = .ok (.iload 4, 2) := by decide +kernel
theorem dL_audits_124 : decode cL_audits 124 = .ok (.aload_n 0, 1) := by decide +kernel
theorem dL_audits_125 : decode cL_audits 125 = .ok (.aload_n 2, 1) := by decide +kernel
theorem dL_audits_126 : decode cL_audits 126 = .ok (.aload_n 3, 1) := by decide +kernel
theorem dL_audits_127 : decode cL_audits 127 = .ok (.invokestatic 114, 3) := by decide +kernel
theorem dL_audits_130 : decode cL_audits 130 = .ok (.if_icmp .ne 14, 3) := by decide +kernel
theorem dL_audits_133 : decode cL_audits 133 = .ok (.aload_n 0, 1) := by decide +kernel
theorem dL_audits_134 : decode cL_audits 134 = .ok (.invokevirtual 118, 3) := by decide +kernel
theorem dL_audits_137 : decode cL_audits 137 = .ok (.ifCond .ne 7, 3) := by decide +kernel
theorem dL_audits_140 : decode cL_audits 140 = .ok (.iconst 1, 1) := by decide +kernel
theorem dL_audits_141 : decode cL_audits 141 = .ok (.goto 4, 3) := by decide +kernel
theorem dL_audits_144 : decode cL_audits 144 = .ok (.iconst 0, 1) := by decide +kernel
theorem dL_audits_145 : decode cL_audits 145 = .ok (.istore 5, 2) := by decide +kernel
theorem dL_audits_147 : decode cL_audits 147 = .ok (.iconst 0, 1) := by decide +kernel
theorem dL_audits_148 : decode cL_audits 148 = .ok (.istore 6, 2) := by decide +kernel
theorem dL_audits_150 : decode cL_audits 150 = .ok (.iload 6, 2) := by decide +kernel
theorem dL_audits_152 : decode cL_audits 152 = .ok (.aload_n 2, 1) := by decide +kernel
theorem dL_audits_153 : decode cL_audits 153 = .ok (.iconst 1, 1) := by decide +kernel
theorem dL_audits_154 : decode cL_audits 154 = .ok (.iaload, 1) := by decide +kernel
theorem dL_audits_155 : decode cL_audits 155 = .ok (.if_icmp .ge 40, 3) := by decide +kernel
theorem dL_audits_158 : decode cL_audits 158 = .ok (.iload 5, 2) := by decide +kernel
theorem dL_audits_160 : decode cL_audits 160 = .ok (.ifCond .eq 35, 3) := by decide +kernel
theorem dL_audits_163 : decode cL_audits 163 = .ok (.aload_n 0, 1) := by decide +kernel
theorem dL_audits_164 : decode cL_audits 164 = .ok (.iload 6, 2) := by decide +kernel
theorem dL_audits_166 : decode cL_audits 166 = .ok (.iconst 4, 1) := by decide +kernel
theorem dL_audits_167 : decode cL_audits 167 = .ok (.invokevirtual 36, 3) := by decide +kernel
theorem dL_audits_170 : decode cL_audits 170 = .ok (.ifCond .eq 12, 3) := by decide +kernel
theorem dL_audits_173 : decode cL_audits 173 = .ok (.aload_n 0, 1) := by decide +kernel
theorem dL_audits_174 : decode cL_audits 174 = .ok (.iload 6, 2) := by decide +kernel
theorem dL_audits_176 : decode cL_audits 176 = .ok (.invokevirtual 105, 3) := by decide +kernel
theorem dL_audits_179 : decode cL_audits 179 = .ok (.ifCond .eq 7, 3) := by decide +kernel
theorem dL_audits_182 : decode cL_audits 182 = .ok (.iconst 1, 1) := by decide +kernel
theorem dL_audits_183 : decode cL_audits 183 = .ok (.goto 4, 3) := by decide +kernel
theorem dL_audits_186 : decode cL_audits 186 = .ok (.iconst 0, 1) := by decide +kernel
theorem dL_audits_187 : decode cL_audits 187 = .ok (.istore 5, 2) := by decide +kernel
theorem dL_audits_189 : decode cL_audits 189 = .ok (.iinc 6 1, 3) := by decide +kernel
theorem dL_audits_192 : decode cL_audits 192 = .ok (.goto (-42), 3) := by decide +kernel
theorem dL_audits_195 : decode cL_audits 195 = .ok (.iload 5, 2) := by decide +kernel
theorem dL_audits_197 : decode cL_audits 197 = .ok (.ireturn, 1) := by decide +kernel
theorem dL_sky_0 : decode cL_sky 0 = .ok (.new 11, 3) := by decide +kernel
theorem dL_sky_3 : decode cL_sky 3 = .ok (.dup, 1) := by decide +kernel
theorem dL_sky_4 : decode cL_sky 4 = .ok (.invokespecial 122, 3) := by decide +kernel
theorem dL_sky_7 : decode cL_sky 7 = .ok (.astore_n 2, 1) := by decide +kernel
theorem dL_sky_8 : decode cL_sky 8 = .ok (.bipush 6, 2) := by decide +kernel
theorem dL_sky_10 : decode cL_sky 10 = .ok (.newarray .int, 2) := by decide +kernel
theorem dL_sky_12 : decode cL_sky 12 = .ok (.astore_n 3, 1) := by decide +kernel
theorem dL_sky_13 : decode cL_sky 13 = .ok (.bipush 64, 2) := by decide +kernel
theorem dL_sky_15 : decode cL_sky 15 = .ok (.newarray .int, 2) := by decide +kernel
theorem dL_sky_17 : decode cL_sky 17 = .ok (.astore 4, 2) := by decide +kernel
theorem dL_sky_19 : decode cL_sky 19 = .ok (.bipush 40, 2) := by decide +kernel
theorem dL_sky_21 : decode cL_sky 21 = .ok (.newarray .int, 2) := by decide +kernel
theorem dL_sky_23 : decode cL_sky 23 = .ok (.astore 5, 2) := by decide +kernel
theorem dL_sky_25 : decode cL_sky 25 = .ok (.bipush 40, 2) := by decide +kernel
theorem dL_sky_27 : decode cL_sky 27 = .ok (.newarray .long, 2) := by decide +kernel
theorem dL_sky_29 : decode cL_sky 29 = .ok (.astore 6, 2) := by decide +kernel
theorem dL_sky_31 : decode cL_sky 31 = .ok (.iconst 1, 1) := by decide +kernel
theorem dL_sky_32 : decode cL_sky 32 = .ok (.istore 7, 2) := by decide +kernel
theorem dL_sky_34 : decode cL_sky 34 = .ok (.aload_n 3, 1) := by decide +kernel
theorem dL_sky_35 : decode cL_sky 35 = .ok (.iconst 2, 1) := by decide +kernel
theorem dL_sky_36 : decode cL_sky 36 = .ok (.sipush 1000, 3) := by decide +kernel
theorem dL_sky_39 : decode cL_sky 39 = .ok (.iastore, 1) := by decide +kernel
theorem dL_sky_40 : decode cL_sky 40 = .ok (.bipush 20, 2) := by decide +kernel
theorem dL_sky_42 : decode cL_sky 42 = .ok (.istore 8, 2) := by decide +kernel
theorem dL_sky_44 : decode cL_sky 44 = .ok (.iload 8, 2) := by decide +kernel
theorem dL_sky_46 : decode cL_sky 46 = .ok (.bipush 40, 2) := by decide +kernel
theorem dL_sky_48 : decode cL_sky 48 = .ok (.if_icmp .ge 15, 3) := by decide +kernel
theorem dL_sky_51 : decode cL_sky 51 = .ok (.aload 4, 2) := by decide +kernel
theorem dL_sky_53 : decode cL_sky 53 = .ok (.iload 8, 2) := by decide +kernel
theorem dL_sky_55 : decode cL_sky 55 = .ok (.iconst (-1), 1) := by decide +kernel
theorem dL_sky_56 : decode cL_sky 56 = .ok (.iastore, 1) := by decide +kernel
theorem dL_sky_57 : decode cL_sky 57 = .ok (.iinc 8 1, 3) := by decide +kernel
theorem dL_sky_60 : decode cL_sky 60 = .ok (.goto (-16), 3) := by decide +kernel
theorem dL_sky_63 : decode cL_sky 63 = .ok (.iconst 0, 1) := by decide +kernel
theorem dL_sky_64 : decode cL_sky 64 = .ok (.istore 8, 2) := by decide +kernel
theorem dL_sky_66 : decode cL_sky 66 = .ok (.iload 8, 2) := by decide +kernel
theorem dL_sky_68 : decode cL_sky 68 = .ok (.bipush 80, 2) := by decide +kernel
theorem dL_sky_70 : decode cL_sky 70 = .ok (.if_icmp .ge 570, 3) := by decide +kernel
theorem dL_sky_73 : decode cL_sky 73 = .ok (.iload 7, 2) := by decide +kernel
theorem dL_sky_75 : decode cL_sky 75 = .ok (.ifCond .eq 565, 3) := by decide +kernel
theorem dL_sky_78 : decode cL_sky 78 = .ok (.aload_n 0, 1) := by decide +kernel
theorem dL_sky_79 : decode cL_sky 79 = .ok (.iload_n 1, 1) := by decide +kernel
theorem dL_sky_80 : decode cL_sky 80 = .ok (.iconst 2, 1) := by decide +kernel
theorem dL_sky_81 : decode cL_sky 81 = .ok (.iload 8, 2) := by decide +kernel
theorem dL_sky_83 : decode cL_sky 83 = .ok (.imul, 1) := by decide +kernel
theorem dL_sky_84 : decode cL_sky 84 = .ok (.iadd, 1) := by decide +kernel
theorem dL_sky_85 : decode cL_sky 85 = .ok (.ldc 123, 2) := by decide +kernel
theorem dL_sky_87 : decode cL_sky 87 = .ok (.invokestatic 124, 3) := by decide +kernel
theorem dL_sky_90 : decode cL_sky 90 = .ok (.istore 9, 2) := by decide +kernel
theorem dL_sky_92 : decode cL_sky 92 = .ok (.aload_n 0, 1) := by decide +kernel
theorem dL_sky_93 : decode cL_sky 93 = .ok (.iload_n 1, 1) := by decide +kernel
theorem dL_sky_94 : decode cL_sky 94 = .ok (.iconst 2, 1) := by decide +kernel
theorem dL_sky_95 : decode cL_sky 95 = .ok (.iload 8, 2) := by decide +kernel
theorem dL_sky_97 : decode cL_sky 97 = .ok (.imul, 1) := by decide +kernel
theorem dL_sky_98 : decode cL_sky 98 = .ok (.iadd, 1) := by decide +kernel
theorem dL_sky_99 : decode cL_sky 99 = .ok (.iconst 1, 1) := by decide +kernel
theorem dL_sky_100 : decode cL_sky 100 = .ok (.iadd, 1) := by decide +kernel
theorem dL_sky_101 : decode cL_sky 101 = .ok (.ldc 123, 2) := by decide +kernel
theorem dL_sky_103 : decode cL_sky 103 = .ok (.invokestatic 124, 3) := by decide +kernel
theorem dL_sky_106 : decode cL_sky 106 = .ok (.istore 10, 2) := by decide +kernel
theorem dL_sky_108 : decode cL_sky 108 = .ok (.aload_n 3, 1) := by decide +kernel
theorem dL_sky_109 : decode cL_sky 109 = .ok (.iconst 0, 1) := by decide +kernel
theorem dL_sky_110 : decode cL_sky 110 = .ok (.iaload, 1) := by decide +kernel
theorem dL_sky_111 : decode cL_sky 111 = .ok (.ifCond .ne 7, 3) := by decide +kernel
theorem dL_sky_114 : decode cL_sky 114 = .ok (.iconst 0, 1) := by decide +kernel
theorem dL_sky_115 : decode cL_sky 115 = .ok (.goto 8, 3) := by decide +kernel
theorem dL_sky_118 : decode cL_sky 118 = .ok (.iload 9, 2) := by decide +kernel
theorem dL_sky_120 : decode cL_sky 120 = .ok (.bipush 20, 2) := by decide +kernel
theorem dL_sky_122 : decode cL_sky 122 = .ok (.irem, 1) := by decide +kernel
theorem dL_sky_123 : decode cL_sky 123 = .ok (.istore 11, 2) := by decide +kernel
theorem dL_sky_125 : decode cL_sky 125 = .ok (.iload 9, 2) := by decide +kernel
theorem dL_sky_127 : decode cL_sky 127 = .ok (.bipush 20, 2) := by decide +kernel
theorem dL_sky_129 : decode cL_sky 129 = .ok (.idiv, 1) := by decide +kernel
theorem dL_sky_130 : decode cL_sky 130 = .ok (.istore 12, 2) := by decide +kernel
theorem dL_sky_132 : decode cL_sky 132 = .ok (.iload 11, 2) := by decide +kernel
theorem dL_sky_134 : decode cL_sky 134 = .ok (.ifCond .ne 24, 3) := by decide +kernel
theorem dL_sky_137 : decode cL_sky 137 = .ok (.aload_n 3, 1) := by decide +kernel
theorem dL_sky_138 : decode cL_sky 138 = .ok (.iconst 0, 1) := by decide +kernel
theorem dL_sky_139 : decode cL_sky 139 = .ok (.iaload, 1) := by decide +kernel
theorem dL_sky_140 : decode cL_sky 140 = .ok (.iconst 4, 1) := by decide +kernel
theorem dL_sky_141 : decode cL_sky 141 = .ok (.if_icmp .ge 17, 3) := by decide +kernel
theorem dL_sky_144 : decode cL_sky 144 = .ok (.aload_n 2, 1) := by decide +kernel
theorem dL_sky_145 : decode cL_sky 145 = .ok (.iload 12, 2) := by decide +kernel
theorem dL_sky_147 : decode cL_sky 147 = .ok (.iload 10, 2) := by decide +kernel
theorem dL_sky_149 : decode cL_sky 149 = .ok (.aload_n 3, 1) := by decide +kernel
theorem dL_sky_150 : decode cL_sky 150 = .ok (.invokestatic 128, 3) := by decide +kernel
theorem dL_sky_153 : decode cL_sky 153 = .ok (.istore 7, 2) := by decide +kernel
theorem dL_sky_155 : decode cL_sky 155 = .ok (.goto 389, 3) := by decide +kernel
theorem dL_sky_158 : decode cL_sky 158 = .ok (.iload 11, 2) := by decide +kernel
theorem dL_sky_160 : decode cL_sky 160 = .ok (.bipush 9, 2) := by decide +kernel
theorem dL_sky_162 : decode cL_sky 162 = .ok (.if_icmp .ge 36, 3) := by decide +kernel
theorem dL_sky_165 : decode cL_sky 165 = .ok (.iconst 1, 1) := by decide +kernel
theorem dL_sky_166 : decode cL_sky 166 = .ok (.newarray .int, 2) := by decide +kernel
theorem dL_sky_168 : decode cL_sky 168 = .ok (.astore 13, 2) := by decide +kernel
theorem dL_sky_170 : decode cL_sky 170 = .ok (.aload 13, 2) := by decide +kernel
theorem dL_sky_172 : decode cL_sky 172 = .ok (.iconst 0, 1) := by decide +kernel
theorem dL_sky_173 : decode cL_sky 173 = .ok (.iconst 1, 1) := by decide +kernel
theorem dL_sky_174 : decode cL_sky 174 = .ok (.iastore, 1) := by decide +kernel
theorem dL_sky_175 : decode cL_sky 175 = .ok (.aload_n 2, 1) := by decide +kernel
theorem dL_sky_176 : decode cL_sky 176 = .ok (.iload 12, 2) := by decide +kernel
theorem dL_sky_178 : decode cL_sky 178 = .ok (.bipush 8, 2) := by decide +kernel
theorem dL_sky_180 : decode cL_sky 180 = .ok (.idiv, 1) := by decide +kernel
theorem dL_sky_181 : decode cL_sky 181 = .ok (.bipush 8, 2) := by decide +kernel
theorem dL_sky_183 : decode cL_sky 183 = .ok (.imul, 1) := by decide +kernel
theorem dL_sky_184 : decode cL_sky 184 = .ok (.iload 10, 2) := by decide +kernel
theorem dL_sky_186 : decode cL_sky 186 = .ok (.aload 13, 2) := by decide +kernel
theorem dL_sky_188 : decode cL_sky 188 = .ok (.aload 4, 2) := by decide +kernel
theorem dL_sky_190 : decode cL_sky 190 = .ok (.invokestatic 132, 3) := by decide +kernel
theorem dL_sky_193 : decode cL_sky 193 = .ok (.istore 7, 2) := by decide +kernel
theorem dL_sky_195 : decode cL_sky 195 = .ok (.goto 349, 3) := by decide +kernel
theorem dL_sky_198 : decode cL_sky 198 = .ok (.iload 11, 2) := by decide +kernel
theorem dL_sky_200 : decode cL_sky 200 = .ok (.bipush 9, 2) := by decide +kernel
theorem dL_sky_202 : decode cL_sky 202 = .ok (.if_icmp .ne 97, 3) := by decide +kernel
theorem dL_sky_205 : decode cL_sky 205 = .ok (.iload 12, 2) := by decide +kernel
theorem dL_sky_207 : decode cL_sky 207 = .ok (.iconst 4, 1) := by decide +kernel
theorem dL_sky_208 : decode cL_sky 208 = .ok (.irem, 1) := by decide +kernel
theorem dL_sky_209 : decode cL_sky 209 = .ok (.istore 13, 2) := by decide +kernel
theorem dL_sky_211 : decode cL_sky 211 = .ok (.aload_n 3, 1) := by decide +kernel
theorem dL_sky_212 : decode cL_sky 212 = .ok (.iconst 3, 1) := by decide +kernel
theorem dL_sky_213 : decode cL_sky 213 = .ok (.iaload, 1) := by decide +kernel
theorem dL_sky_214 : decode cL_sky 214 = .ok (.iload 13, 2) := by decide +kernel
theorem dL_sky_216 : decode cL_sky 216 = .ok (.ishr, 1) := by decide +kernel
theorem dL_sky_217 : decode cL_sky 217 = .ok (.iconst 1, 1) := by decide +kernel
theorem dL_sky_218 : decode cL_sky 218 = .ok (.iand, 1) := by decide +kernel
theorem dL_sky_219 : decode cL_sky 219 = .ok (.iconst 1, 1) := by decide +kernel
theorem dL_sky_220 : decode cL_sky 220 = .ok (.if_icmp .ne 7, 3) := by decide +kernel
theorem dL_sky_223 : decode cL_sky 223 = .ok (.iconst 1, 1) := by decide +kernel
theorem dL_sky_224 : decode cL_sky 224 = .ok (.goto 4, 3) := by decide +kernel
theorem dL_sky_227 : decode cL_sky 227 = .ok (.iconst 0, 1) := by decide +kernel
theorem dL_sky_228 : decode cL_sky 228 = .ok (.istore 14, 2) := by decide +kernel
theorem dL_sky_230 : decode cL_sky 230 = .ok (.aload_n 3, 1) := by decide +kernel
theorem dL_sky_231 : decode cL_sky 231 = .ok (.iconst 3, 1) := by decide +kernel
theorem dL_sky_232 : decode cL_sky 232 = .ok (.iload 10, 2) := by decide +kernel
theorem dL_sky_234 : decode cL_sky 234 = .ok (.iconst 3, 1) := by decide +kernel
theorem dL_sky_235 : decode cL_sky 235 = .ok (.irem, 1) := by decide +kernel
theorem dL_sky_236 : decode cL_sky 236 = .ok (.ifCond .le 16, 3) := by decide +kernel
theorem dL_sky_239 : decode cL_sky 239 = .ok (.aload_n 3, 1) := by decide +kernel
theorem dL_sky_240 : decode cL_sky 240 = .ok (.iconst 3, 1) := by decide +kernel
theorem dL_sky_241 : decode cL_sky 241 = .ok (.iaload, 1) := by decide +kernel
theorem dL_sky_242 : decode cL_sky 242 = .ok (.iconst 1, 1) := by decide +kernel
theorem dL_sky_243 : decode cL_sky 243 = .ok (.iload 13, 2) := by decide +kernel
theorem dL_sky_245 : decode cL_sky 245 = .ok (.ishl, 1) := by decide +kernel
theorem dL_sky_246 : decode cL_sky 246 = .ok (.iconst (-1), 1) := by decide +kernel
theorem dL_sky_247 : decode cL_sky 247 = .ok (.ixor, 1) := by decide +kernel
theorem dL_sky_248 : decode cL_sky 248 = .ok (.iand, 1) := by decide +kernel
theorem dL_sky_249 : decode cL_sky 249 = .ok (.goto 11, 3) := by decide +kernel
theorem dL_sky_252 : decode cL_sky 252 = .ok (.aload_n 3, 1) := by decide +kernel
theorem dL_sky_253 : decode cL_sky 253 = .ok (.iconst 3, 1) := by decide +kernel
theorem dL_sky_254 : decode cL_sky 254 = .ok (.iaload, 1) := by decide +kernel
theorem dL_sky_255 : decode cL_sky 255 = .ok (.iconst 1, 1) := by decide +kernel
theorem dL_sky_256 : decode cL_sky 256 = .ok (.iload 13, 2) := by decide +kernel
theorem dL_sky_258 : decode cL_sky 258 = .ok (.ishl, 1) := by decide +kernel
theorem dL_sky_259 : decode cL_sky 259 = .ok (.ior, 1) := by decide +kernel
theorem dL_sky_260 : decode cL_sky 260 = .ok (.iastore, 1) := by decide +kernel
theorem dL_sky_261 : decode cL_sky 261 = .ok (.aload_n 2, 1) := by decide +kernel
theorem dL_sky_262 : decode cL_sky 262 = .ok (.iload 13, 2) := by decide +kernel
theorem dL_sky_264 : decode cL_sky 264 = .ok (.aload_n 3, 1) := by decide +kernel
theorem dL_sky_265 : decode cL_sky 265 = .ok (.iconst 3, 1) := by decide +kernel
theorem dL_sky_266 : decode cL_sky 266 = .ok (.iaload, 1) := by decide +kernel
theorem dL_sky_267 : decode cL_sky 267 = .ok (.iload 13, 2) := by decide +kernel
theorem dL_sky_269 : decode cL_sky 269 = .ok (.ishr, 1) := by decide +kernel
theorem dL_sky_270 : decode cL_sky 270 = .ok (.iconst 1, 1) := by decide +kernel
theorem dL_sky_271 : decode cL_sky 271 = .ok (.iand, 1) := by decide +kernel
theorem dL_sky_272 : decode cL_sky 272 = .ok (.iconst 1, 1) := by decide +kernel
theorem dL_sky_273 : decode cL_sky 273 = .ok (.if_icmp .ne 7, 3) := by decide +kernel
theorem dL_sky_276 : decode cL_sky 276 = .ok (.iconst 1, 1) := by decide +kernel
theorem dL_sky_277 : decode cL_sky 277 = .ok (.goto 4, 3) := by decide +kernel
theorem dL_sky_280 : decode cL_sky 280 = .ok (.iconst 0, 1) := by decide +kernel
theorem dL_sky_281 : decode cL_sky 281 = .ok (.invokevirtual 135, 3) := by decide +kernel
theorem dL_sky_284 : decode cL_sky 284 = .ok (.iload 14, 2) := by decide +kernel
theorem dL_sky_286 : decode cL_sky 286 = .ok (.if_icmp .ne 7, 3) := by decide +kernel
theorem dL_sky_289 : decode cL_sky 289 = .ok (.iconst 1, 1) := by decide +kernel
theorem dL_sky_290 : decode cL_sky 290 = .ok (.goto 4, 3) := by decide +kernel
theorem dL_sky_293 : decode cL_sky 293 = .ok (.iconst 0, 1) := by decide +kernel
theorem dL_sky_294 : decode cL_sky 294 = .ok (.istore 7, 2) := by decide +kernel
theorem dL_sky_296 : decode cL_sky 296 = .ok (.goto 248, 3) := by decide +kernel
theorem dL_sky_299 : decode cL_sky 299 = .ok (.iload 11, 2) := by decide +kernel
theorem dL_sky_301 : decode cL_sky 301 = .ok (.bipush 10, 2) := by decide +kernel
theorem dL_sky_303 : decode cL_sky 303 = .ok (.if_icmp .ne 40, 3) := by decide +kernel
theorem dL_sky_306 : decode cL_sky 306 = .ok (.aload_n 3, 1) := by decide +kernel
theorem dL_sky_307 : decode cL_sky 307 = .ok (.iconst 2, 1) := by decide +kernel
theorem dL_sky_308 : decode cL_sky 308 = .ok (.iaload, 1) := by decide +kernel
theorem dL_sky_309 : decode cL_sky 309 = .ok (.istore 13, 2) := by decide +kernel
theorem dL_sky_311 : decode cL_sky 311 = .ok (.aload_n 3, 1) := by decide +kernel
theorem dL_sky_312 : decode cL_sky 312 = .ok (.iconst 2, 1) := by decide +kernel
theorem dL_sky_313 : decode cL_sky 313 = .ok (.iconst 1, 1) := by decide +kernel
theorem dL_sky_314 : decode cL_sky 314 = .ok (.iload 10, 2) := by decide +kernel
theorem dL_sky_316 : decode cL_sky 316 = .ok (.ldc 139, 2) := by decide +kernel
theorem dL_sky_318 : decode cL_sky 318 = .ok (.irem, 1) := by decide +kernel
theorem dL_sky_319 : decode cL_sky 319 = .ok (.iadd, 1) := by decide +kernel
theorem dL_sky_320 : decode cL_sky 320 = .ok (.iastore, 1) := by decide +kernel
theorem dL_sky_321 : decode cL_sky 321 = .ok (.aload_n 2, 1) := by decide +kernel
theorem dL_sky_322 : decode cL_sky 322 = .ok (.aload_n 3, 1) := by decide +kernel
theorem dL_sky_323 : decode cL_sky 323 = .ok (.iconst 2, 1) := by decide +kernel
theorem dL_sky_324 : decode cL_sky 324 = .ok (.iaload, 1) := by decide +kernel
theorem dL_sky_325 : decode cL_sky 325 = .ok (.invokevirtual 140, 3) := by decide +kernel
theorem dL_sky_328 : decode cL_sky 328 = .ok (.iload 13, 2) := by decide +kernel
theorem dL_sky_330 : decode cL_sky 330 = .ok (.if_icmp .ne 7, 3) := by decide +kernel
theorem dL_sky_333 : decode cL_sky 333 = .ok (.iconst 1, 1) := by decide +kernel
theorem dL_sky_334 : decode cL_sky 334 = .ok (.goto 4, 3) := by decide +kernel
theorem dL_sky_337 : decode cL_sky 337 = .ok (.iconst 0, 1) := by decide +kernel
theorem dL_sky_338 : decode cL_sky 338 = .ok (.istore 7, 2) := by decide +kernel
theorem dL_sky_340 : decode cL_sky 340 = .ok (.goto 204, 3) := by decide +kernel
theorem dL_sky_343 : decode cL_sky 343 = .ok (.iload 11, 2) := by decide +kernel
theorem dL_sky_345 : decode cL_sky 345 = .ok (.bipush 13, 2) := by decide +kernel
theorem dL_sky_347 : decode cL_sky 347 = .ok (.if_icmp .ge 72, 3) := by decide +kernel
theorem dL_sky_350 : decode cL_sky 350 = .ok (.aload_n 2, 1) := by decide +kernel
theorem dL_sky_351 : decode cL_sky 351 = .ok (.iconst 1, 1) := by decide +kernel
theorem dL_sky_352 : decode cL_sky 352 = .ok (.iconst 0, 1) := by decide +kernel
theorem dL_sky_353 : decode cL_sky 353 = .ok (.iconst 1, 1) := by decide +kernel
theorem dL_sky_354 : decode cL_sky 354 = .ok (.iload 10, 2) := by decide +kernel
theorem dL_sky_356 : decode cL_sky 356 = .ok (.bipush 31, 2) := by decide +kernel
theorem dL_sky_358 : decode cL_sky 358 = .ok (.irem, 1) := by decide +kernel
theorem dL_sky_359 : decode cL_sky 359 = .ok (.iadd, 1) := by decide +kernel
theorem dL_sky_360 : decode cL_sky 360 = .ok (.iconst 0, 1) := by decide +kernel
theorem dL_sky_361 : decode cL_sky 361 = .ok (.invokestatic 95, 3) := by decide +kernel
theorem dL_sky_364 : decode cL_sky 364 = .ok (.lstore 13, 2) := by decide +kernel
theorem dL_sky_366 : decode cL_sky 366 = .ok (.lload 13, 2) := by decide +kernel
theorem dL_sky_368 : decode cL_sky 368 = .ok (.ldc2_w 52, 3) := by decide +kernel
theorem dL_sky_371 : decode cL_sky 371 = .ok (.lcmp, 1) := by decide +kernel
theorem dL_sky_372 : decode cL_sky 372 = .ok (.ifCond .ne 21, 3) := by decide +kernel
theorem dL_sky_375 : decode cL_sky 375 = .ok (.aload_n 2, 1) := by decide +kernel
theorem dL_sky_376 : decode cL_sky 376 = .ok (.iconst 0, 1) := by decide +kernel
theorem dL_sky_377 : decode cL_sky 377 = .ok (.invokevirtual 71, 3) := by decide +kernel
theorem dL_sky_380 : decode cL_sky 380 = .ok (.bipush 6, 2) := by decide +kernel
theorem dL_sky_382 : decode cL_sky 382 = .ok (.if_icmp .ne 7, 3) := by decide +kernel
theorem dL_sky_385 : decode cL_sky 385 = .ok (.iconst 1, 1) := by decide +kernel
theorem dL_sky_386 : decode cL_sky 386 = .ok (.goto 28, 3) := by decide +kernel
theorem dL_sky_389 : decode cL_sky 389 = .ok (.iconst 0, 1) := by decide +kernel
theorem dL_sky_390 : decode cL_sky 390 = .ok (.goto 24, 3) := by decide +kernel
theorem dL_sky_393 : decode cL_sky 393 = .ok (.lload 13, 2) := by decide +kernel
theorem dL_sky_395 : decode cL_sky 395 = .ok (.lconst 0, 1) := by decide +kernel
theorem dL_sky_396 : decode cL_sky 396 = .ok (.lcmp, 1) := by decide +kernel
theorem dL_sky_397 : decode cL_sky 397 = .ok (.ifCond .le 16, 3) := by decide +kernel
theorem dL_sky_400 : decode cL_sky 400 = .ok (.lload 13, 2) := by decide +kernel
theorem dL_sky_402 : decode cL_sky 402 = .ok (.ldc2_w 143, 3) := by decide +kernel
theorem dL_sky_405 : decode cL_sky 405 = .ok (.lcmp, 1) := by decide +kernel
theorem dL_sky_406 : decode cL_sky 406 = .ok (.ifCond .ge 7, 3) := by decide +kernel
theorem dL_sky_409 : decode cL_sky 409 = .ok (.iconst 1, 1) := by decide +kernel
theorem dL_sky_410 : decode cL_sky 410 = .ok (.goto 4, 3) := by decide +kernel
theorem dL_sky_413 : decode cL_sky 413 = .ok (.iconst 0, 1) := by decide +kernel
theorem dL_sky_414 : decode cL_sky 414 = .ok (.istore 7, 2) := by decide +kernel
theorem dL_sky_416 : decode cL_sky 416 = .ok (.goto 128, 3) := by decide +kernel
theorem dL_sky_419 : decode cL_sky 419 = .ok (.iload 11, 2) := by decide +kernel
theorem dL_sky_421 : decode cL_sky 421 = .ok (.bipush 16, 2) := by decide +kernel
theorem dL_sky_423 : decode cL_sky 423 = .ok (.if_icmp .ge 42, 3) := by decide +kernel
theorem dL_sky_426 : decode cL_sky 426 = .ok (.aload_n 3, 1) := by decide +kernel
theorem dL_sky_427 : decode cL_sky 427 = .ok (.iconst 5, 1) := by decide +kernel
theorem dL_sky_428 : decode cL_sky 428 = .ok (.dup2, 1) := by decide +kernel
theorem dL_sky_429 : decode cL_sky 429 = .ok (.iaload, 1) := by decide +kernel
theorem dL_sky_430 : decode cL_sky 430 = .ok (.iconst 1, 1) := by decide +kernel
theorem dL_sky_431 : decode cL_sky 431 = .ok (.iadd, 1) := by decide +kernel
theorem dL_sky_432 : decode cL_sky 432 = .ok (.iastore, 1) := by decide +kernel
theorem dL_sky_433 : decode cL_sky 433 = .ok (.aload_n 3, 1) := by decide +kernel
theorem dL_sky_434 : decode cL_sky 434 = .ok (.iconst 5, 1) := by decide +kernel
theorem dL_sky_435 : decode cL_sky 435 = .ok (.iaload, 1) := by decide +kernel
theorem dL_sky_436 : decode cL_sky 436 = .ok (.bipush 16, 2) := by decide +kernel
theorem dL_sky_438 : decode cL_sky 438 = .ok (.if_icmp .gt 17, 3) := by decide +kernel
theorem dL_sky_441 : decode cL_sky 441 = .ok (.aload_n 2, 1) := by decide +kernel
theorem dL_sky_442 : decode cL_sky 442 = .ok (.iload 12, 2) := by decide +kernel
theorem dL_sky_444 : decode cL_sky 444 = .ok (.aload_n 3, 1) := by decide +kernel
theorem dL_sky_445 : decode cL_sky 445 = .ok (.aload 5, 2) := by decide +kernel
theorem dL_sky_447 : decode cL_sky 447 = .ok (.aload 6, 2) := by decide +kernel
theorem dL_sky_449 : decode cL_sky 449 = .ok (.invokestatic 145, 3) := by decide +kernel
theorem dL_sky_452 : decode cL_sky 452 = .ok (.ifCond .eq 7, 3) := by decide +kernel
theorem dL_sky_455 : decode cL_sky 455 = .ok (.iconst 1, 1) := by decide +kernel
theorem dL_sky_456 : decode cL_sky 456 = .ok (.goto 4, 3) := by decide +kernel
theorem dL_sky_459 : decode cL_sky 459 = .ok (.iconst 0, 1) := by decide +kernel
theorem dL_sky_460 : decode cL_sky 460 = .ok (.istore 7, 2) := by decide +kernel
theorem dL_sky_462 : decode cL_sky 462 = .ok (.goto 82, 3) := by decide +kernel
theorem dL_sky_465 : decode cL_sky 465 = .ok (.iload 11, 2) := by decide +kernel
theorem dL_sky_467 : decode cL_sky 467 = .ok (.bipush 18, 2) := by decide +kernel
theorem dL_sky_469 : decode cL_sky 469 = .ok (.if_icmp .ge 35, 3) := by decide +kernel
theorem dL_sky_472 : decode cL_sky 472 = .ok (.aload_n 3, 1) := by decide +kernel
theorem dL_sky_473 : decode cL_sky 473 = .ok (.iconst 1, 1) := by decide +kernel
theorem dL_sky_474 : decode cL_sky 474 = .ok (.iaload, 1) := by decide +kernel
theorem dL_sky_475 : decode cL_sky 475 = .ok (.ifCond .eq 19, 3) := by decide +kernel
theorem dL_sky_478 : decode cL_sky 478 = .ok (.aload_n 2, 1) := by decide +kernel
theorem dL_sky_479 : decode cL_sky 479 = .ok (.iload 12, 2) := by decide +kernel
theorem dL_sky_481 : decode cL_sky 481 = .ok (.iload 10, 2) := by decide +kernel
theorem dL_sky_483 : decode cL_sky 483 = .ok (.aload_n 3, 1) := by decide +kernel
theorem dL_sky_484 : decode cL_sky 484 = .ok (.aload 5, 2) := by decide +kernel
theorem dL_sky_486 : decode cL_sky 486 = .ok (.aload 6, 2) := by decide +kernel
theorem dL_sky_488 : decode cL_sky 488 = .ok (.invokestatic 149, 3) := by decide +kernel
theorem dL_sky_491 : decode cL_sky 491 = .ok (.ifCond .eq 7, 3) := by decide +kernel
theorem dL_sky_494 : decode cL_sky 494 = .ok (.iconst 1, 1) := by decide +kernel
theorem dL_sky_495 : decode cL_sky 495 = .ok (.goto 4, 3) := by decide +kernel
theorem dL_sky_498 : decode cL_sky 498 = .ok (.iconst 0, 1) := by decide +kernel
theorem dL_sky_499 : decode cL_sky 499 = .ok (.istore 7, 2) := by decide +kernel
theorem dL_sky_501 : decode cL_sky 501 = .ok (.goto 43, 3) := by decide +kernel
theorem dL_sky_504 : decode cL_sky 504 = .ok (.aload_n 3, 1) := by decide +kernel
theorem dL_sky_505 : decode cL_sky 505 = .ok (.iconst 1, 1) := by decide +kernel
theorem dL_sky_506 : decode cL_sky 506 = .ok (.iaload, 1) := by decide +kernel
theorem dL_sky_507 : decode cL_sky 507 = .ok (.ifCond .le 37, 3) := by decide +kernel
theorem dL_sky_510 : decode cL_sky 510 = .ok (.aload_n 3, 1) := by decide +kernel
theorem dL_sky_511 : decode cL_sky 511 = .ok (.iconst 4, 1) := by decide +kernel
theorem dL_sky_512 : decode cL_sky 512 = .ok (.dup2, 1) := by decide +kernel
theorem dL_sky_513 : decode cL_sky 513 = .ok (.iaload, 1) := by decide +kernel
theorem dL_sky_514 : decode cL_sky 514 = .ok (.iconst 1, 1) := by decide +kernel
theorem dL_sky_515 : decode cL_sky 515 = .ok (.iadd, 1) := by decide +kernel
theorem dL_sky_516 : decode cL_sky 516 = .ok (.iastore, 1) := by decide +kernel
theorem dL_sky_517 : decode cL_sky 517 = .ok (.aload_n 3, 1) := by decide +kernel
theorem dL_sky_518 : decode cL_sky 518 = .ok (.iconst 4, 1) := by decide +kernel
theorem dL_sky_519 : decode cL_sky 519 = .ok (.iaload, 1) := by decide +kernel
theorem dL_sky_520 : decode cL_sky 520 = .ok (.bipush 8, 2) := by decide +kernel
theorem dL_sky_522 : decode cL_sky 522 = .ok (.if_icmp .gt 15, 3) := by decide +kernel
theorem dL_sky_525 : decode cL_sky 525 = .ok (.aload_n 2, 1) := by decide +kernel
theorem dL_sky_526 : decode cL_sky 526 = .ok (.iload 12, 2) := by decide +kernel
theorem dL_sky_528 : decode cL_sky 528 = .ok (.aload_n 3, 1) := by decide +kernel
theorem dL_sky_529 : decode cL_sky 529 = .ok (.aload 5, 2) := by decide +kernel
theorem dL_sky_531 : decode cL_sky 531 = .ok (.invokestatic 153, 3) := by decide +kernel
theorem dL_sky_534 : decode cL_sky 534 = .ok (.ifCond .eq 7, 3) := by decide +kernel
theorem dL_sky_537 : decode cL_sky 537 = .ok (.iconst 1, 1) := by decide +kernel
theorem dL_sky_538 : decode cL_sky 538 = .ok (.goto 4, 3) := by decide +kernel
theorem dL_sky_541 : decode cL_sky 541 = .ok (.iconst 0, 1) := by decide +kernel
theorem dL_sky_542 : decode cL_sky 542 = .ok (.istore 7, 2) := by decide +kernel
theorem dL_sky_544 : decode cL_sky 544 = .ok (.iload 7, 2) := by decide +kernel
theorem dL_sky_546 : decode cL_sky 546 = .ok (.ifCond .eq 50, 3) := by decide +kernel
theorem dL_sky_549 : decode cL_sky 549 = .ok (.aload_n 3, 1) := by decide +kernel
theorem dL_sky_550 : decode cL_sky 550 = .ok (.iconst 0, 1) := by decide +kernel
theorem dL_sky_551 : decode cL_sky 551 = .ok (.iaload, 1) := by decide +kernel
theorem dL_sky_552 : decode cL_sky 552 = .ok (.ifCond .eq 18, 3) := by decide +kernel
theorem dL_sky_555 : decode cL_sky 555 = .ok (.aload_n 2, 1) := by decide +kernel
theorem dL_sky_556 : decode cL_sky 556 = .ok (.iload 10, 2) := by decide +kernel
theorem dL_sky_558 : decode cL_sky 558 = .ok (.aload_n 3, 1) := by decide +kernel
theorem dL_sky_559 : decode cL_sky 559 = .ok (.iconst 0, 1) := by decide +kernel
theorem dL_sky_560 : decode cL_sky 560 = .ok (.iaload, 1) := by decide +kernel
theorem dL_sky_561 : decode cL_sky 561 = .ok (.irem, 1) := by decide +kernel
theorem dL_sky_562 : decode cL_sky 562 = .ok (.iload 12, 2) := by decide +kernel
theorem dL_sky_564 : decode cL_sky 564 = .ok (.invokestatic 157, 3) := by decide +kernel
theorem dL_sky_567 : decode cL_sky 567 = .ok (.ifCond .eq 29, 3) := by decide +kernel
theorem dL_sky_570 : decode cL_sky 570 = .ok (.iload 8, 2) := by decide +kernel
theorem dL_sky_572 : decode cL_sky 572 = .ok (.bipush 8, 2) := by decide +kernel
theorem dL_sky_574 : decode cL_sky 574 = .ok (.irem, 1) := by decide +kernel
theorem dL_sky_575 : decode cL_sky 575 = .ok (.bipush 7, 2) := by decide +kernel
theorem dL_sky_577 : decode cL_sky 577 = .ok (.if_icmp .lt 15, 3) := by decide +kernel
theorem dL_sky_580 : decode cL_sky 580 = .ok (.aload_n 2, 1) := by decide +kernel
theorem dL_sky_581 : decode cL_sky 581 = .ok (.aload_n 3, 1) := by decide +kernel
theorem dL_sky_582 : decode cL_sky 582 = .ok (.aload 5, 2) := by decide +kernel
theorem dL_sky_584 : decode cL_sky 584 = .ok (.aload 6, 2) := by decide +kernel
theorem dL_sky_586 : decode cL_sky 586 = .ok (.invokestatic 161, 3) := by decide +kernel
theorem dL_sky_589 : decode cL_sky 589 = .ok (.ifCond .eq 7, 3) := by decide +kernel
theorem dL_sky_592 : decode cL_sky 592 = .ok (.iconst 1, 1) := by decide +kernel
theorem dL_sky_593 : decode cL_sky 593 = .ok (.goto 4, 3) := by decide +kernel
theorem dL_sky_596 : decode cL_sky 596 = .ok (.iconst 0, 1) := by decide +kernel
theorem dL_sky_597 : decode cL_sky 597 = .ok (.istore 7, 2) := by decide +kernel
theorem dL_sky_599 : decode cL_sky 599 = .ok (.iload 7, 2) := by decide +kernel
theorem dL_sky_601 : decode cL_sky 601 = .ok (.ifCond .eq 30, 3) := by decide +kernel
theorem dL_sky_604 : decode cL_sky 604 = .ok (.iload 8, 2) := by decide +kernel
theorem dL_sky_606 : decode cL_sky 606 = .ok (.bipush 20, 2) := by decide +kernel
theorem dL_sky_608 : decode cL_sky 608 = .ok (.irem, 1) := by decide +kernel
theorem dL_sky_609 : decode cL_sky 609 = .ok (.bipush 19, 2) := by decide +kernel
theorem dL_sky_611 : decode cL_sky 611 = .ok (.if_icmp .lt 16, 3) := by decide +kernel
theorem dL_sky_614 : decode cL_sky 614 = .ok (.aload_n 2, 1) := by decide +kernel
theorem dL_sky_615 : decode cL_sky 615 = .ok (.iconst 0, 1) := by decide +kernel
theorem dL_sky_616 : decode cL_sky 616 = .ok (.iload 10, 2) := by decide +kernel
theorem dL_sky_618 : decode cL_sky 618 = .ok (.aload_n 3, 1) := by decide +kernel
theorem dL_sky_619 : decode cL_sky 619 = .ok (.aload 4, 2) := by decide +kernel
theorem dL_sky_621 : decode cL_sky 621 = .ok (.invokestatic 165, 3) := by decide +kernel
theorem dL_sky_624 : decode cL_sky 624 = .ok (.ifCond .eq 7, 3) := by decide +kernel
theorem dL_sky_627 : decode cL_sky 627 = .ok (.iconst 1, 1) := by decide +kernel
theorem dL_sky_628 : decode cL_sky 628 = .ok (.goto 4, 3) := by decide +kernel
theorem dL_sky_631 : decode cL_sky 631 = .ok (.iconst 0, 1) := by decide +kernel
theorem dL_sky_632 : decode cL_sky 632 = .ok (.istore 7, 2) := by decide +kernel
theorem dL_sky_634 : decode cL_sky 634 = .ok (.iinc 8 1, 3) := by decide +kernel
theorem dL_sky_637 : decode cL_sky 637 = .ok (.goto (-571), 3) := by decide +kernel
theorem dL_sky_640 : decode cL_sky 640 = .ok (.iload 7, 2) := by decide +kernel
theorem dL_sky_642 : decode cL_sky 642 = .ok (.ifCond .eq 32, 3) := by decide +kernel
theorem dL_sky_645 : decode cL_sky 645 = .ok (.aload_n 2, 1) := by decide +kernel
theorem dL_sky_646 : decode cL_sky 646 = .ok (.aload_n 3, 1) := by decide +kernel
theorem dL_sky_647 : decode cL_sky 647 = .ok (.aload 5, 2) := by decide +kernel
theorem dL_sky_649 : decode cL_sky 649 = .ok (.aload 6, 2) := by decide +kernel
theorem dL_sky_651 : decode cL_sky 651 = .ok (.invokestatic 161, 3) := by decide +kernel
theorem dL_sky_654 : decode cL_sky 654 = .ok (.ifCond .eq 20, 3) := by decide +kernel
theorem dL_sky_657 : decode cL_sky 657 = .ok (.aload_n 2, 1) := by decide +kernel
theorem dL_sky_658 : decode cL_sky 658 = .ok (.iconst 0, 1) := by decide +kernel
theorem dL_sky_659 : decode cL_sky 659 = .ok (.bipush 77, 2) := by decide +kernel
theorem dL_sky_661 : decode cL_sky 661 = .ok (.aload_n 3, 1) := by decide +kernel
theorem dL_sky_662 : decode cL_sky 662 = .ok (.aload 4, 2) := by decide +kernel
theorem dL_sky_664 : decode cL_sky 664 = .ok (.invokestatic 165, 3) := by decide +kernel
theorem dL_sky_667 : decode cL_sky 667 = .ok (.ifCond .eq 7, 3) := by decide +kernel
theorem dL_sky_670 : decode cL_sky 670 = .ok (.iconst 1, 1) := by decide +kernel
theorem dL_sky_671 : decode cL_sky 671 = .ok (.goto 4, 3) := by decide +kernel
theorem dL_sky_674 : decode cL_sky 674 = .ok (.iconst 0, 1) := by decide +kernel
theorem dL_sky_675 : decode cL_sky 675 = .ok (.ireturn, 1) := by decide +kernel
theorem dL_law_0 : decode cL_law 0 = .ok (.aload_n 0, 1) := by decide +kernel
theorem dL_law_1 : decode cL_law 1 = .ok (.iconst 0, 1) := by decide +kernel
theorem dL_law_2 : decode cL_law 2 = .ok (.invokestatic 168, 3) := by decide +kernel
theorem dL_law_5 : decode cL_law 5 = .ok (.ifCond .eq 27, 3) := by decide +kernel
theorem dL_law_8 : decode cL_law 8 = .ok (.aload_n 0, 1) := by decide +kernel
theorem dL_law_9 : decode cL_law 9 = .ok (.sipush 160, 3) := by decide +kernel
theorem dL_law_12 : decode cL_law 12 = .ok (.invokestatic 168, 3) := by decide +kernel
theorem dL_law_15 : decode cL_law 15 = .ok (.ifCond .eq 17, 3) := by decide +kernel
theorem dL_law_18 : decode cL_law 18 = .ok (.aload_n 0, 1) := by decide +kernel
theorem dL_law_19 : decode cL_law 19 = .ok (.sipush 320, 3) := by decide +kernel
theorem dL_law_22 : decode cL_law 22 = .ok (.invokestatic 168, 3) := by decide +kernel
theorem dL_law_25 : decode cL_law 25 = .ok (.ifCond .eq 7, 3) := by decide +kernel
theorem dL_law_28 : decode cL_law 28 = .ok (.iconst 1, 1) := by decide +kernel
theorem dL_law_29 : decode cL_law 29 = .ok (.goto 4, 3) := by decide +kernel
theorem dL_law_32 : decode cL_law 32 = .ok (.iconst 0, 1) := by decide +kernel
theorem dL_law_33 : decode cL_law 33 = .ok (.ireturn, 1) := by decide +kernel
