theorem dX0_init_0 : decode cX0_init 0 = .ok (.aload_n 0, 1) := by decide +kernel
theorem dX0_init_1 : decode cX0_init 1 = .ok (.invokespecial 3, 3) := by decide +kernel
theorem dX0_init_4 : decode cX0_init 4 = .ok (.aload_n 0, 1) := by decide +kernel
theorem dX0_init_5 : decode cX0_init 5 = .ok (.iconst (-1), 1) := by decide +kernel
theorem dX0_init_6 : decode cX0_init 6 = .ok (.putfield 9, 3) := by decide +kernel
theorem dX0_init_9 : decode cX0_init 9 = .ok (.aload_n 0, 1) := by decide +kernel
theorem dX0_init_10 : decode cX0_init 10 = .ok (.iconst 1, 1) := by decide +kernel
theorem dX0_init_11 : decode cX0_init 11 = .ok (.putfield 15, 3) := by decide +kernel
theorem dX0_init_14 : decode cX0_init 14 = .ok (.aload_n 0, 1) := by decide +kernel
theorem dX0_init_15 : decode cX0_init 15 = .ok (.iload_n 1, 1) := by decide +kernel
theorem dX0_init_16 : decode cX0_init 16 = .ok (.putfield 19, 3) := by decide +kernel
theorem dX0_init_19 : decode cX0_init 19 = .ok (.aload_n 0, 1) := by decide +kernel
theorem dX0_init_20 : decode cX0_init 20 = .ok (.iload_n 2, 1) := by decide +kernel
theorem dX0_init_21 : decode cX0_init 21 = .ok (.putfield 22, 3) := by decide +kernel
theorem dX0_init_24 : decode cX0_init 24 = .ok (.aload_n 0, 1) := by decide +kernel
theorem dX0_init_25 : decode cX0_init 25 = .ok (.iload_n 3, 1) := by decide +kernel
theorem dX0_init_26 : decode cX0_init 26 = .ok (.putfield 25, 3) := by decide +kernel
theorem dX0_init_29 : decode cX0_init 29 = .ok (.return_, 1) := by decide +kernel
theorem dX1_init_0 : decode cX1_init 0 = .ok (.aload_n 0, 1) := by decide +kernel
theorem dX1_init_1 : decode cX1_init 1 = .ok (.invokespecial 3, 3) := by decide +kernel
theorem dX1_init_4 : decode cX1_init 4 = .ok (.aload_n 0, 1) := by decide +kernel
theorem dX1_init_5 : decode cX1_init 5 = .ok (.sipush 256, 3) := by decide +kernel
theorem dX1_init_8 : decode cX1_init 8 = .ok (.newarray .int, 2) := by decide +kernel
theorem dX1_init_10 : decode cX1_init 10 = .ok (.putfield 9, 3) := by decide +kernel
theorem dX1_init_13 : decode cX1_init 13 = .ok (.aload_n 0, 1) := by decide +kernel
theorem dX1_init_14 : decode cX1_init 14 = .ok (.sipush 256, 3) := by decide +kernel
theorem dX1_init_17 : decode cX1_init 17 = .ok (.newarray .long, 2) := by decide +kernel
theorem dX1_init_19 : decode cX1_init 19 = .ok (.putfield 15, 3) := by decide +kernel
theorem dX1_init_22 : decode cX1_init 22 = .ok (.return_, 1) := by decide +kernel
theorem dX1_look_0 : decode cX1_look 0 = .ok (.aload_n 0, 1) := by decide +kernel
theorem dX1_look_1 : decode cX1_look 1 = .ok (.aload_n 1, 1) := by decide +kernel
theorem dX1_look_2 : decode cX1_look 2 = .ok (.aload_n 2, 1) := by decide +kernel
theorem dX1_look_3 : decode cX1_look 3 = .ok (.invokevirtual 19, 3) := by decide +kernel
theorem dX1_look_6 : decode cX1_look 6 = .ok (.iload_n 3, 1) := by decide +kernel
theorem dX1_look_7 : decode cX1_look 7 = .ok (.iconst 1, 1) := by decide +kernel
theorem dX1_look_8 : decode cX1_look 8 = .ok (.if_icmp .ne 10, 3) := by decide +kernel
theorem dX1_look_11 : decode cX1_look 11 = .ok (.aload_n 0, 1) := by decide +kernel
theorem dX1_look_12 : decode cX1_look 12 = .ok (.invokevirtual 23, 3) := by decide +kernel
theorem dX1_look_15 : decode cX1_look 15 = .ok (.goto 12, 3) := by decide +kernel
theorem dX1_look_18 : decode cX1_look 18 = .ok (.iload_n 3, 1) := by decide +kernel
theorem dX1_look_19 : decode cX1_look 19 = .ok (.iconst 2, 1) := by decide +kernel
theorem dX1_look_20 : decode cX1_look 20 = .ok (.if_icmp .ne 7, 3) := by decide +kernel
theorem dX1_look_23 : decode cX1_look 23 = .ok (.aload_n 0, 1) := by decide +kernel
theorem dX1_look_24 : decode cX1_look 24 = .ok (.invokevirtual 26, 3) := by decide +kernel
theorem dX1_look_27 : decode cX1_look 27 = .ok (.iconst 0, 1) := by decide +kernel
theorem dX1_look_28 : decode cX1_look 28 = .ok (.istore 5, 2) := by decide +kernel
theorem dX1_look_30 : decode cX1_look 30 = .ok (.iload 5, 2) := by decide +kernel
theorem dX1_look_32 : decode cX1_look 32 = .ok (.iload 4, 2) := by decide +kernel
theorem dX1_look_34 : decode cX1_look 34 = .ok (.if_icmp .ge 30, 3) := by decide +kernel
theorem dX1_look_37 : decode cX1_look 37 = .ok (.iload 5, 2) := by decide +kernel
theorem dX1_look_39 : decode cX1_look 39 = .ok (.aload_n 1, 1) := by decide +kernel
theorem dX1_look_40 : decode cX1_look 40 = .ok (.getfield 29, 3) := by decide +kernel
theorem dX1_look_43 : decode cX1_look 43 = .ok (.arraylength, 1) := by decide +kernel
theorem dX1_look_44 : decode cX1_look 44 = .ok (.if_icmp .ge 20, 3) := by decide +kernel
theorem dX1_look_47 : decode cX1_look 47 = .ok (.aload_n 0, 1) := by decide +kernel
theorem dX1_look_48 : decode cX1_look 48 = .ok (.aload_n 1, 1) := by decide +kernel
theorem dX1_look_49 : decode cX1_look 49 = .ok (.getfield 29, 3) := by decide +kernel
theorem dX1_look_52 : decode cX1_look 52 = .ok (.iload 5, 2) := by decide +kernel
theorem dX1_look_54 : decode cX1_look 54 = .ok (.iaload, 1) := by decide +kernel
theorem dX1_look_55 : decode cX1_look 55 = .ok (.invokevirtual 34, 3) := by decide +kernel
theorem dX1_look_58 : decode cX1_look 58 = .ok (.iinc 5 1, 3) := by decide +kernel
theorem dX1_look_61 : decode cX1_look 61 = .ok (.goto (-31), 3) := by decide +kernel
theorem dX1_look_64 : decode cX1_look 64 = .ok (.return_, 1) := by decide +kernel
theorem dX1_gather_0 : decode cX1_gather 0 = .ok (.aload_n 0, 1) := by decide +kernel
theorem dX1_gather_1 : decode cX1_gather 1 = .ok (.iconst 0, 1) := by decide +kernel
theorem dX1_gather_2 : decode cX1_gather 2 = .ok (.putfield 38, 3) := by decide +kernel
theorem dX1_gather_5 : decode cX1_gather 5 = .ok (.iconst 0, 1) := by decide +kernel
theorem dX1_gather_6 : decode cX1_gather 6 = .ok (.istore_n 3, 1) := by decide +kernel
theorem dX1_gather_7 : decode cX1_gather 7 = .ok (.iload_n 3, 1) := by decide +kernel
theorem dX1_gather_8 : decode cX1_gather 8 = .ok (.sipush 256, 3) := by decide +kernel
theorem dX1_gather_11 : decode cX1_gather 11 = .ok (.if_icmp .ge 82, 3) := by decide +kernel
theorem dX1_gather_14 : decode cX1_gather 14 = .ok (.aload_n 1, 1) := by decide +kernel
theorem dX1_gather_15 : decode cX1_gather 15 = .ok (.getfield 42, 3) := by decide +kernel
theorem dX1_gather_18 : decode cX1_gather 18 = .ok (.iload_n 3, 1) := by decide +kernel
theorem dX1_gather_19 : decode cX1_gather 19 = .ok (.iaload, 1) := by decide +kernel
theorem dX1_gather_20 : decode cX1_gather 20 = .ok (.istore 4, 2) := by decide +kernel
theorem dX1_gather_22 : decode cX1_gather 22 = .ok (.aload_n 1, 1) := by decide +kernel
theorem dX1_gather_23 : decode cX1_gather 23 = .ok (.getfield 45, 3) := by decide +kernel
theorem dX1_gather_26 : decode cX1_gather 26 = .ok (.iload_n 3, 1) := by decide +kernel
theorem dX1_gather_27 : decode cX1_gather 27 = .ok (.iaload, 1) := by decide +kernel
theorem dX1_gather_28 : decode cX1_gather 28 = .ok (.iconst (-1), 1) := by decide +kernel
theorem dX1_gather_29 : decode cX1_gather 29 = .ok (.if_icmp .eq 58, 3) := by decide +kernel
theorem dX1_gather_32 : decode cX1_gather 32 = .ok (.iload 4, 2) := by decide +kernel
theorem dX1_gather_34 : decode cX1_gather 34 = .ok (.ifCond .lt 53, 3) := by decide +kernel
theorem dX1_gather_37 : decode cX1_gather 37 = .ok (.iload 4, 2) := by decide +kernel
theorem dX1_gather_39 : decode cX1_gather 39 = .ok (.aload_n 2, 1) := by decide +kernel
theorem dX1_gather_40 : decode cX1_gather 40 = .ok (.arraylength, 1) := by decide +kernel
theorem dX1_gather_41 : decode cX1_gather 41 = .ok (.if_icmp .ge 46, 3) := by decide +kernel
theorem dX1_gather_44 : decode cX1_gather 44 = .ok (.aload_n 2, 1) := by decide +kernel
theorem dX1_gather_45 : decode cX1_gather 45 = .ok (.iload 4, 2) := by decide +kernel
theorem dX1_gather_47 : decode cX1_gather 47 = .ok (.baload, 1) := by decide +kernel
theorem dX1_gather_48 : decode cX1_gather 48 = .ok (.ifCond .ne 39, 3) := by decide +kernel
theorem dX1_gather_51 : decode cX1_gather 51 = .ok (.aload_n 0, 1) := by decide +kernel
theorem dX1_gather_52 : decode cX1_gather 52 = .ok (.getfield 9, 3) := by decide +kernel
theorem dX1_gather_55 : decode cX1_gather 55 = .ok (.aload_n 0, 1) := by decide +kernel
theorem dX1_gather_56 : decode cX1_gather 56 = .ok (.getfield 38, 3) := by decide +kernel
theorem dX1_gather_59 : decode cX1_gather 59 = .ok (.iload_n 3, 1) := by decide +kernel
theorem dX1_gather_60 : decode cX1_gather 60 = .ok (.iastore, 1) := by decide +kernel
theorem dX1_gather_61 : decode cX1_gather 61 = .ok (.aload_n 0, 1) := by decide +kernel
theorem dX1_gather_62 : decode cX1_gather 62 = .ok (.getfield 15, 3) := by decide +kernel
theorem dX1_gather_65 : decode cX1_gather 65 = .ok (.aload_n 0, 1) := by decide +kernel
theorem dX1_gather_66 : decode cX1_gather 66 = .ok (.getfield 38, 3) := by decide +kernel
theorem dX1_gather_69 : decode cX1_gather 69 = .ok (.aload_n 1, 1) := by decide +kernel
theorem dX1_gather_70 : decode cX1_gather 70 = .ok (.getfield 45, 3) := by decide +kernel
theorem dX1_gather_73 : decode cX1_gather 73 = .ok (.iload_n 3, 1) := by decide +kernel
theorem dX1_gather_74 : decode cX1_gather 74 = .ok (.iaload, 1) := by decide +kernel
theorem dX1_gather_75 : decode cX1_gather 75 = .ok (.i2l, 1) := by decide +kernel
theorem dX1_gather_76 : decode cX1_gather 76 = .ok (.lastore, 1) := by decide +kernel
theorem dX1_gather_77 : decode cX1_gather 77 = .ok (.aload_n 0, 1) := by decide +kernel
theorem dX1_gather_78 : decode cX1_gather 78 = .ok (.dup, 1) := by decide +kernel
theorem dX1_gather_79 : decode cX1_gather 79 = .ok (.getfield 38, 3) := by decide +kernel
theorem dX1_gather_82 : decode cX1_gather 82 = .ok (.iconst 1, 1) := by decide +kernel
theorem dX1_gather_83 : decode cX1_gather 83 = .ok (.iadd, 1) := by decide +kernel
theorem dX1_gather_84 : decode cX1_gather 84 = .ok (.putfield 38, 3) := by decide +kernel
theorem dX1_gather_87 : decode cX1_gather 87 = .ok (.iinc 3 1, 3) := by decide +kernel
theorem dX1_gather_90 : decode cX1_gather 90 = .ok (.goto (-83), 3) := by decide +kernel
theorem dX1_gather_93 : decode cX1_gather 93 = .ok (.return_, 1) := by decide +kernel
theorem dX1_flatten_0 : decode cX1_flatten 0 = .ok (.aload_n 0, 1) := by decide +kernel
theorem dX1_flatten_1 : decode cX1_flatten 1 = .ok (.getfield 15, 3) := by decide +kernel
theorem dX1_flatten_4 : decode cX1_flatten 4 = .ok (.lconst 1, 1) := by decide +kernel
theorem dX1_flatten_5 : decode cX1_flatten 5 = .ok (.invokestatic 48, 3) := by decide +kernel
theorem dX1_flatten_8 : decode cX1_flatten 8 = .ok (.return_, 1) := by decide +kernel
theorem dX1_lessMean_0 : decode cX1_lessMean 0 = .ok (.lconst 0, 1) := by decide +kernel
theorem dX1_lessMean_1 : decode cX1_lessMean 1 = .ok (.lstore_n 1, 1) := by decide +kernel
theorem dX1_lessMean_2 : decode cX1_lessMean 2 = .ok (.iconst 0, 1) := by decide +kernel
theorem dX1_lessMean_3 : decode cX1_lessMean 3 = .ok (.istore_n 3, 1) := by decide +kernel
theorem dX1_lessMean_4 : decode cX1_lessMean 4 = .ok (.iload_n 3, 1) := by decide +kernel
theorem dX1_lessMean_5 : decode cX1_lessMean 5 = .ok (.aload_n 0, 1) := by decide +kernel
theorem dX1_lessMean_6 : decode cX1_lessMean 6 = .ok (.getfield 38, 3) := by decide +kernel
theorem dX1_lessMean_9 : decode cX1_lessMean 9 = .ok (.if_icmp .ge 18, 3) := by decide +kernel
theorem dX1_lessMean_12 : decode cX1_lessMean 12 = .ok (.lload_n 1, 1) := by decide +kernel
theorem dX1_lessMean_13 : decode cX1_lessMean 13 = .ok (.aload_n 0, 1) := by decide +kernel
theorem dX1_lessMean_14 : decode cX1_lessMean 14 = .ok (.getfield 15, 3) := by decide +kernel
theorem dX1_lessMean_17 : decode cX1_lessMean 17 = .ok (.iload_n 3, 1) := by decide +kernel
theorem dX1_lessMean_18 : decode cX1_lessMean 18 = .ok (.laload, 1) := by decide +kernel
theorem dX1_lessMean_19 : decode cX1_lessMean 19 = .ok (.ladd, 1) := by decide +kernel
theorem dX1_lessMean_20 : decode cX1_lessMean 20 = .ok (.lstore_n 1, 1) := by decide +kernel
theorem dX1_lessMean_21 : decode cX1_lessMean 21 = .ok (.iinc 3 1, 3) := by decide +kernel
theorem dX1_lessMean_24 : decode cX1_lessMean 24 = .ok (.goto (-20), 3) := by decide +kernel
theorem dX1_lessMean_27 : decode cX1_lessMean 27 = .ok (.aload_n 0, 1) := by decide +kernel
theorem dX1_lessMean_28 : decode cX1_lessMean 28 = .ok (.getfield 38, 3) := by decide +kernel
theorem dX1_lessMean_31 : decode cX1_lessMean 31 = .ok (.ifCond .le 15, 3) := by decide +kernel
theorem dX1_lessMean_34 : decode cX1_lessMean 34 = .ok (.lload_n 1, 1) := by decide +kernel
theorem dX1_lessMean_35 : decode cX1_lessMean 35 = .ok (.aload_n 0, 1) := by decide +kernel
theorem dX1_lessMean_36 : decode cX1_lessMean 36 = .ok (.getfield 38, 3) := by decide +kernel
theorem dX1_lessMean_39 : decode cX1_lessMean 39 = .ok (.i2l, 1) := by decide +kernel
theorem dX1_lessMean_40 : decode cX1_lessMean 40 = .ok (.invokestatic 54, 3) := by decide +kernel
theorem dX1_lessMean_43 : decode cX1_lessMean 43 = .ok (.goto 4, 3) := by decide +kernel
theorem dX1_lessMean_46 : decode cX1_lessMean 46 = .ok (.lconst 0, 1) := by decide +kernel
theorem dX1_lessMean_47 : decode cX1_lessMean 47 = .ok (.lstore_n 3, 1) := by decide +kernel
theorem dX1_lessMean_48 : decode cX1_lessMean 48 = .ok (.iconst 0, 1) := by decide +kernel
theorem dX1_lessMean_49 : decode cX1_lessMean 49 = .ok (.istore 5, 2) := by decide +kernel
theorem dX1_lessMean_51 : decode cX1_lessMean 51 = .ok (.iload 5, 2) := by decide +kernel
theorem dX1_lessMean_53 : decode cX1_lessMean 53 = .ok (.aload_n 0, 1) := by decide +kernel
theorem dX1_lessMean_54 : decode cX1_lessMean 54 = .ok (.getfield 38, 3) := by decide +kernel
theorem dX1_lessMean_57 : decode cX1_lessMean 57 = .ok (.if_icmp .ge 20, 3) := by decide +kernel
theorem dX1_lessMean_60 : decode cX1_lessMean 60 = .ok (.aload_n 0, 1) := by decide +kernel
theorem dX1_lessMean_61 : decode cX1_lessMean 61 = .ok (.getfield 15, 3) := by decide +kernel
theorem dX1_lessMean_64 : decode cX1_lessMean 64 = .ok (.iload 5, 2) := by decide +kernel
theorem dX1_lessMean_66 : decode cX1_lessMean 66 = .ok (.dup2, 1) := by decide +kernel
theorem dX1_lessMean_67 : decode cX1_lessMean 67 = .ok (.laload, 1) := by decide +kernel
theorem dX1_lessMean_68 : decode cX1_lessMean 68 = .ok (.lload_n 3, 1) := by decide +kernel
theorem dX1_lessMean_69 : decode cX1_lessMean 69 = .ok (.lsub, 1) := by decide +kernel
theorem dX1_lessMean_70 : decode cX1_lessMean 70 = .ok (.lastore, 1) := by decide +kernel
theorem dX1_lessMean_71 : decode cX1_lessMean 71 = .ok (.iinc 5 1, 3) := by decide +kernel
theorem dX1_lessMean_74 : decode cX1_lessMean 74 = .ok (.goto (-23), 3) := by decide +kernel
theorem dX1_lessMean_77 : decode cX1_lessMean 77 = .ok (.return_, 1) := by decide +kernel
theorem dX1_lessDrift_0 : decode cX1_lessDrift 0 = .ok (.aload_n 0, 1) := by decide +kernel
theorem dX1_lessDrift_1 : decode cX1_lessDrift 1 = .ok (.getfield 38, 3) := by decide +kernel
theorem dX1_lessDrift_4 : decode cX1_lessDrift 4 = .ok (.ifCond .ne 4, 3) := by decide +kernel
theorem dX1_lessDrift_7 : decode cX1_lessDrift 7 = .ok (.return_, 1) := by decide +kernel
theorem dX1_lessDrift_8 : decode cX1_lessDrift 8 = .ok (.aload_n 0, 1) := by decide +kernel
theorem dX1_lessDrift_9 : decode cX1_lessDrift 9 = .ok (.getfield 15, 3) := by decide +kernel
theorem dX1_lessDrift_12 : decode cX1_lessDrift 12 = .ok (.iconst 0, 1) := by decide +kernel
theorem dX1_lessDrift_13 : decode cX1_lessDrift 13 = .ok (.laload, 1) := by decide +kernel
theorem dX1_lessDrift_14 : decode cX1_lessDrift 14 = .ok (.lstore_n 1, 1) := by decide +kernel
theorem dX1_lessDrift_15 : decode cX1_lessDrift 15 = .ok (.aload_n 0, 1) := by decide +kernel
theorem dX1_lessDrift_16 : decode cX1_lessDrift 16 = .ok (.getfield 15, 3) := by decide +kernel
theorem dX1_lessDrift_19 : decode cX1_lessDrift 19 = .ok (.aload_n 0, 1) := by decide +kernel
theorem dX1_lessDrift_20 : decode cX1_lessDrift 20 = .ok (.getfield 38, 3) := by decide +kernel
theorem dX1_lessDrift_23 : decode cX1_lessDrift 23 = .ok (.iconst 1, 1) := by decide +kernel
theorem dX1_lessDrift_24 : decode cX1_lessDrift 24 = .ok (.isub, 1) := by decide +kernel
theorem dX1_lessDrift_25 : decode cX1_lessDrift 25 = .ok (.laload, 1) := by decide +kernel
theorem dX1_lessDrift_26 : decode cX1_lessDrift 26 = .ok (.lload_n 1, 1) := by decide +kernel
theorem dX1_lessDrift_27 : decode cX1_lessDrift 27 = .ok (.lsub, 1) := by decide +kernel
theorem dX1_lessDrift_28 : decode cX1_lessDrift 28 = .ok (.lstore_n 3, 1) := by decide +kernel
theorem dX1_lessDrift_29 : decode cX1_lessDrift 29 = .ok (.aload_n 0, 1) := by decide +kernel
theorem dX1_lessDrift_30 : decode cX1_lessDrift 30 = .ok (.getfield 9, 3) := by decide +kernel
theorem dX1_lessDrift_33 : decode cX1_lessDrift 33 = .ok (.aload_n 0, 1) := by decide +kernel
theorem dX1_lessDrift_34 : decode cX1_lessDrift 34 = .ok (.getfield 38, 3) := by decide +kernel
theorem dX1_lessDrift_37 : decode cX1_lessDrift 37 = .ok (.iconst 1, 1) := by decide +kernel
theorem dX1_lessDrift_38 : decode cX1_lessDrift 38 = .ok (.isub, 1) := by decide +kernel
theorem dX1_lessDrift_39 : decode cX1_lessDrift 39 = .ok (.iaload, 1) := by decide +kernel
theorem dX1_lessDrift_40 : decode cX1_lessDrift 40 = .ok (.aload_n 0, 1) := by decide +kernel
theorem dX1_lessDrift_41 : decode cX1_lessDrift 41 = .ok (.getfield 9, 3) := by decide +kernel
theorem dX1_lessDrift_44 : decode cX1_lessDrift 44 = .ok (.iconst 0, 1) := by decide +kernel
theorem dX1_lessDrift_45 : decode cX1_lessDrift 45 = .ok (.iaload, 1) := by decide +kernel
theorem dX1_lessDrift_46 : decode cX1_lessDrift 46 = .ok (.isub, 1) := by decide +kernel
theorem dX1_lessDrift_47 : decode cX1_lessDrift 47 = .ok (.i2l, 1) := by decide +kernel
theorem dX1_lessDrift_48 : decode cX1_lessDrift 48 = .ok (.lstore 5, 2) := by decide +kernel
theorem dX1_lessDrift_50 : decode cX1_lessDrift 50 = .ok (.iconst 0, 1) := by decide +kernel
theorem dX1_lessDrift_51 : decode cX1_lessDrift 51 = .ok (.istore 7, 2) := by decide +kernel
theorem dX1_lessDrift_53 : decode cX1_lessDrift 53 = .ok (.iload 7, 2) := by decide +kernel
theorem dX1_lessDrift_55 : decode cX1_lessDrift 55 = .ok (.aload_n 0, 1) := by decide +kernel
theorem dX1_lessDrift_56 : decode cX1_lessDrift 56 = .ok (.getfield 38, 3) := by decide +kernel
theorem dX1_lessDrift_59 : decode cX1_lessDrift 59 = .ok (.if_icmp .ge 58, 3) := by decide +kernel
theorem dX1_lessDrift_62 : decode cX1_lessDrift 62 = .ok (.aload_n 0, 1) := by decide +kernel
theorem dX1_lessDrift_63 : decode cX1_lessDrift 63 = .ok (.getfield 9, 3) := by decide +kernel
theorem dX1_lessDrift_66 : decode cX1_lessDrift 66 = .ok (.iload 7, 2) := by decide +kernel
theorem dX1_lessDrift_68 : decode cX1_lessDrift 68 = .ok (.iaload, 1) := by decide +kernel
theorem dX1_lessDrift_69 : decode cX1_lessDrift 69 = .ok (.aload_n 0, 1) := by decide +kernel
theorem dX1_lessDrift_70 : decode cX1_lessDrift 70 = .ok (.getfield 9, 3) := by decide +kernel
theorem dX1_lessDrift_73 : decode cX1_lessDrift 73 = .ok (.iconst 0, 1) := by decide +kernel
theorem dX1_lessDrift_74 : decode cX1_lessDrift 74 = .ok (.iaload, 1) := by decide +kernel
theorem dX1_lessDrift_75 : decode cX1_lessDrift 75 = .ok (.isub, 1) := by decide +kernel
theorem dX1_lessDrift_76 : decode cX1_lessDrift 76 = .ok (.i2l, 1) := by decide +kernel
theorem dX1_lessDrift_77 : decode cX1_lessDrift 77 = .ok (.lstore 8, 2) := by decide +kernel
theorem dX1_lessDrift_79 : decode cX1_lessDrift 79 = .ok (.aload_n 0, 1) := by decide +kernel
theorem dX1_lessDrift_80 : decode cX1_lessDrift 80 = .ok (.getfield 15, 3) := by decide +kernel
theorem dX1_lessDrift_83 : decode cX1_lessDrift 83 = .ok (.iload 7, 2) := by decide +kernel
theorem dX1_lessDrift_85 : decode cX1_lessDrift 85 = .ok (.dup2, 1) := by decide +kernel
theorem dX1_lessDrift_86 : decode cX1_lessDrift 86 = .ok (.laload, 1) := by decide +kernel
theorem dX1_lessDrift_87 : decode cX1_lessDrift 87 = .ok (.lload_n 1, 1) := by decide +kernel
theorem dX1_lessDrift_88 : decode cX1_lessDrift 88 = .ok (.lload 5, 2) := by decide +kernel
theorem dX1_lessDrift_90 : decode cX1_lessDrift 90 = .ok (.lconst 0, 1) := by decide +kernel
theorem dX1_lessDrift_91 : decode cX1_lessDrift 91 = .ok (.lcmp, 1) := by decide +kernel
theorem dX1_lessDrift_92 : decode cX1_lessDrift 92 = .ok (.ifCond .le 15, 3) := by decide +kernel
theorem dX1_lessDrift_95 : decode cX1_lessDrift 95 = .ok (.lload_n 3, 1) := by decide +kernel
theorem dX1_lessDrift_96 : decode cX1_lessDrift 96 = .ok (.lload 8, 2) := by decide +kernel
theorem dX1_lessDrift_98 : decode cX1_lessDrift 98 = .ok (.lmul, 1) := by decide +kernel
theorem dX1_lessDrift_99 : decode cX1_lessDrift 99 = .ok (.lload 5, 2) := by decide +kernel
theorem dX1_lessDrift_101 : decode cX1_lessDrift 101 = .ok (.invokestatic 54, 3) := by decide +kernel
theorem dX1_lessDrift_104 : decode cX1_lessDrift 104 = .ok (.goto 4, 3) := by decide +kernel
theorem dX1_lessDrift_107 : decode cX1_lessDrift 107 = .ok (.lconst 0, 1) := by decide +kernel
theorem dX1_lessDrift_108 : decode cX1_lessDrift 108 = .ok (.ladd, 1) := by decide +kernel
theorem dX1_lessDrift_109 : decode cX1_lessDrift 109 = .ok (.lsub, 1) := by decide +kernel
theorem dX1_lessDrift_110 : decode cX1_lessDrift 110 = .ok (.lastore, 1) := by decide +kernel
theorem dX1_lessDrift_111 : decode cX1_lessDrift 111 = .ok (.iinc 7 1, 3) := by decide +kernel
theorem dX1_lessDrift_114 : decode cX1_lessDrift 114 = .ok (.goto (-61), 3) := by decide +kernel
theorem dX1_lessDrift_117 : decode cX1_lessDrift 117 = .ok (.return_, 1) := by decide +kernel
theorem dX1_lessLine_0 : decode cX1_lessLine 0 = .ok (.aload_n 0, 1) := by decide +kernel
theorem dX1_lessLine_1 : decode cX1_lessLine 1 = .ok (.getfield 38, 3) := by decide +kernel
theorem dX1_lessLine_4 : decode cX1_lessLine 4 = .ok (.ifCond .ne 4, 3) := by decide +kernel
theorem dX1_lessLine_7 : decode cX1_lessLine 7 = .ok (.return_, 1) := by decide +kernel
theorem dX1_lessLine_8 : decode cX1_lessLine 8 = .ok (.aload_n 0, 1) := by decide +kernel
theorem dX1_lessLine_9 : decode cX1_lessLine 9 = .ok (.iload_n 1, 1) := by decide +kernel
theorem dX1_lessLine_10 : decode cX1_lessLine 10 = .ok (.invokevirtual 60, 3) := by decide +kernel
theorem dX1_lessLine_13 : decode cX1_lessLine 13 = .ok (.ldc2_w 63, 3) := by decide +kernel
theorem dX1_lessLine_16 : decode cX1_lessLine 16 = .ok (.aload_n 0, 1) := by decide +kernel
theorem dX1_lessLine_17 : decode cX1_lessLine 17 = .ok (.getfield 38, 3) := by decide +kernel
theorem dX1_lessLine_20 : decode cX1_lessLine 20 = .ok (.i2l, 1) := by decide +kernel
theorem dX1_lessLine_21 : decode cX1_lessLine 21 = .ok (.lmul, 1) := by decide +kernel
theorem dX1_lessLine_22 : decode cX1_lessLine 22 = .ok (.lstore_n 2, 1) := by decide +kernel
theorem dX1_lessLine_23 : decode cX1_lessLine 23 = .ok (.ldc2_w 65, 3) := by decide +kernel
theorem dX1_lessLine_26 : decode cX1_lessLine 26 = .ok (.aload_n 0, 1) := by decide +kernel
theorem dX1_lessLine_27 : decode cX1_lessLine 27 = .ok (.getfield 67, 3) := by decide +kernel
theorem dX1_lessLine_30 : decode cX1_lessLine 30 = .ok (.lmul, 1) := by decide +kernel
theorem dX1_lessLine_31 : decode cX1_lessLine 31 = .ok (.lload_n 2, 1) := by decide +kernel
theorem dX1_lessLine_32 : decode cX1_lessLine 32 = .ok (.ldiv, 1) := by decide +kernel
theorem dX1_lessLine_33 : decode cX1_lessLine 33 = .ok (.lstore 4, 2) := by decide +kernel
theorem dX1_lessLine_35 : decode cX1_lessLine 35 = .ok (.ldc2_w 65, 3) := by decide +kernel
theorem dX1_lessLine_38 : decode cX1_lessLine 38 = .ok (.aload_n 0, 1) := by decide +kernel
theorem dX1_lessLine_39 : decode cX1_lessLine 39 = .ok (.getfield 71, 3) := by decide +kernel
theorem dX1_lessLine_42 : decode cX1_lessLine 42 = .ok (.lmul, 1) := by decide +kernel
theorem dX1_lessLine_43 : decode cX1_lessLine 43 = .ok (.lload_n 2, 1) := by decide +kernel
theorem dX1_lessLine_44 : decode cX1_lessLine 44 = .ok (.ldiv, 1) := by decide +kernel
theorem dX1_lessLine_45 : decode cX1_lessLine 45 = .ok (.lstore 6, 2) := by decide +kernel
theorem dX1_lessLine_47 : decode cX1_lessLine 47 = .ok (.iconst 0, 1) := by decide +kernel
theorem dX1_lessLine_48 : decode cX1_lessLine 48 = .ok (.istore 8, 2) := by decide +kernel
theorem dX1_lessLine_50 : decode cX1_lessLine 50 = .ok (.iload 8, 2) := by decide +kernel
theorem dX1_lessLine_52 : decode cX1_lessLine 52 = .ok (.aload_n 0, 1) := by decide +kernel
theorem dX1_lessLine_53 : decode cX1_lessLine 53 = .ok (.getfield 38, 3) := by decide +kernel
theorem dX1_lessLine_56 : decode cX1_lessLine 56 = .ok (.if_icmp .ge 53, 3) := by decide +kernel
theorem dX1_lessLine_59 : decode cX1_lessLine 59 = .ok (.iload_n 1, 1) := by decide +kernel
theorem dX1_lessLine_60 : decode cX1_lessLine 60 = .ok (.aload_n 0, 1) := by decide +kernel
theorem dX1_lessLine_61 : decode cX1_lessLine 61 = .ok (.getfield 9, 3) := by decide +kernel
theorem dX1_lessLine_64 : decode cX1_lessLine 64 = .ok (.iload 8, 2) := by decide +kernel
theorem dX1_lessLine_66 : decode cX1_lessLine 66 = .ok (.iaload, 1) := by decide +kernel
theorem dX1_lessLine_67 : decode cX1_lessLine 67 = .ok (.imul, 1) := by decide +kernel
theorem dX1_lessLine_68 : decode cX1_lessLine 68 = .ok (.istore 9, 2) := by decide +kernel
theorem dX1_lessLine_70 : decode cX1_lessLine 70 = .ok (.aload_n 0, 1) := by decide +kernel
theorem dX1_lessLine_71 : decode cX1_lessLine 71 = .ok (.getfield 15, 3) := by decide +kernel
theorem dX1_lessLine_74 : decode cX1_lessLine 74 = .ok (.iload 8, 2) := by decide +kernel
theorem dX1_lessLine_76 : decode cX1_lessLine 76 = .ok (.dup2, 1) := by decide +kernel
theorem dX1_lessLine_77 : decode cX1_lessLine 77 = .ok (.laload, 1) := by decide +kernel
theorem dX1_lessLine_78 : decode cX1_lessLine 78 = .ok (.lload 4, 2) := by decide +kernel
theorem dX1_lessLine_80 : decode cX1_lessLine 80 = .ok (.iload 9, 2) := by decide +kernel
theorem dX1_lessLine_82 : decode cX1_lessLine 82 = .ok (.invokestatic 74, 3) := by decide +kernel
theorem dX1_lessLine_85 : decode cX1_lessLine 85 = .ok (.i2l, 1) := by decide +kernel
theorem dX1_lessLine_86 : decode cX1_lessLine 86 = .ok (.lmul, 1) := by decide +kernel
theorem dX1_lessLine_87 : decode cX1_lessLine 87 = .ok (.lload 6, 2) := by decide +kernel
theorem dX1_lessLine_89 : decode cX1_lessLine 89 = .ok (.iload 9, 2) := by decide +kernel
theorem dX1_lessLine_91 : decode cX1_lessLine 91 = .ok (.invokestatic 78, 3) := by decide +kernel
theorem dX1_lessLine_94 : decode cX1_lessLine 94 = .ok (.i2l, 1) := by decide +kernel
theorem dX1_lessLine_95 : decode cX1_lessLine 95 = .ok (.lmul, 1) := by decide +kernel
theorem dX1_lessLine_96 : decode cX1_lessLine 96 = .ok (.ladd, 1) := by decide +kernel
theorem dX1_lessLine_97 : decode cX1_lessLine 97 = .ok (.ldc2_w 63, 3) := by decide +kernel
theorem dX1_lessLine_100 : decode cX1_lessLine 100 = .ok (.ldiv, 1) := by decide +kernel
theorem dX1_lessLine_101 : decode cX1_lessLine 101 = .ok (.lsub, 1) := by decide +kernel
theorem dX1_lessLine_102 : decode cX1_lessLine 102 = .ok (.lastore, 1) := by decide +kernel
theorem dX1_lessLine_103 : decode cX1_lessLine 103 = .ok (.iinc 8 1, 3) := by decide +kernel
theorem dX1_lessLine_106 : decode cX1_lessLine 106 = .ok (.goto (-56), 3) := by decide +kernel
theorem dX1_lessLine_109 : decode cX1_lessLine 109 = .ok (.return_, 1) := by decide +kernel
theorem dX1_sumUp_0 : decode cX1_sumUp 0 = .ok (.aload_n 0, 1) := by decide +kernel
theorem dX1_sumUp_1 : decode cX1_sumUp 1 = .ok (.lconst 0, 1) := by decide +kernel
theorem dX1_sumUp_2 : decode cX1_sumUp 2 = .ok (.putfield 67, 3) := by decide +kernel
theorem dX1_sumUp_5 : decode cX1_sumUp 5 = .ok (.aload_n 0, 1) := by decide +kernel
theorem dX1_sumUp_6 : decode cX1_sumUp 6 = .ok (.lconst 0, 1) := by decide +kernel
theorem dX1_sumUp_7 : decode cX1_sumUp 7 = .ok (.putfield 71, 3) := by decide +kernel
theorem dX1_sumUp_10 : decode cX1_sumUp 10 = .ok (.iconst 0, 1) := by decide +kernel
theorem dX1_sumUp_11 : decode cX1_sumUp 11 = .ok (.istore_n 2, 1) := by decide +kernel
theorem dX1_sumUp_12 : decode cX1_sumUp 12 = .ok (.iload_n 2, 1) := by decide +kernel
theorem dX1_sumUp_13 : decode cX1_sumUp 13 = .ok (.aload_n 0, 1) := by decide +kernel
theorem dX1_sumUp_14 : decode cX1_sumUp 14 = .ok (.getfield 38, 3) := by decide +kernel
theorem dX1_sumUp_17 : decode cX1_sumUp 17 = .ok (.if_icmp .ge 60, 3) := by decide +kernel
theorem dX1_sumUp_20 : decode cX1_sumUp 20 = .ok (.iload_n 1, 1) := by decide +kernel
theorem dX1_sumUp_21 : decode cX1_sumUp 21 = .ok (.aload_n 0, 1) := by decide +kernel
theorem dX1_sumUp_22 : decode cX1_sumUp 22 = .ok (.getfield 9, 3) := by decide +kernel
theorem dX1_sumUp_25 : decode cX1_sumUp 25 = .ok (.iload_n 2, 1) := by decide +kernel
theorem dX1_sumUp_26 : decode cX1_sumUp 26 = .ok (.iaload, 1) := by decide +kernel
theorem dX1_sumUp_27 : decode cX1_sumUp 27 = .ok (.imul, 1) := by decide +kernel
theorem dX1_sumUp_28 : decode cX1_sumUp 28 = .ok (.istore_n 3, 1) := by decide +kernel
theorem dX1_sumUp_29 : decode cX1_sumUp 29 = .ok (.aload_n 0, 1) := by decide +kernel
theorem dX1_sumUp_30 : decode cX1_sumUp 30 = .ok (.dup, 1) := by decide +kernel
theorem dX1_sumUp_31 : decode cX1_sumUp 31 = .ok (.getfield 67, 3) := by decide +kernel
theorem dX1_sumUp_34 : decode cX1_sumUp 34 = .ok (.aload_n 0, 1) := by decide +kernel
theorem dX1_sumUp_35 : decode cX1_sumUp 35 = .ok (.getfield 15, 3) := by decide +kernel
theorem dX1_sumUp_38 : decode cX1_sumUp 38 = .ok (.iload_n 2, 1) := by decide +kernel
theorem dX1_sumUp_39 : decode cX1_sumUp 39 = .ok (.laload, 1) := by decide +kernel
theorem dX1_sumUp_40 : decode cX1_sumUp 40 = .ok (.iload_n 3, 1) := by decide +kernel
theorem dX1_sumUp_41 : decode cX1_sumUp 41 = .ok (.invokestatic 74, 3) := by decide +kernel
theorem dX1_sumUp_44 : decode cX1_sumUp 44 = .ok (.i2l, 1) := by decide +kernel
theorem dX1_sumUp_45 : decode cX1_sumUp 45 = .ok (.lmul, 1) := by decide +kernel
theorem dX1_sumUp_46 : decode cX1_sumUp 46 = .ok (.ladd, 1) := by decide +kernel
theorem dX1_sumUp_47 : decode cX1_sumUp 47 = .ok (.putfield 67, 3) := by decide +kernel
theorem dX1_sumUp_50 : decode cX1_sumUp 50 = .ok (.aload_n 0, 1) := by decide +kernel
theorem dX1_sumUp_51 : decode cX1_sumUp 51 = .ok (.dup, 1) := by decide +kernel
theorem dX1_sumUp_52 : decode cX1_sumUp 52 = .ok (.getfield 71, 3) := by decide +kernel
theorem dX1_sumUp_55 : decode cX1_sumUp 55 = .ok (.aload_n 0, 1) := by decide +kernel
theorem dX1_sumUp_56 : decode cX1_sumUp 56 = .ok (.getfield 15, 3) := by decide +kernel
theorem dX1_sumUp_59 : decode cX1_sumUp 59 = .ok (.iload_n 2, 1) := by decide +kernel
theorem dX1_sumUp_60 : decode cX1_sumUp 60 = .ok (.laload, 1) := by decide +kernel
theorem dX1_sumUp_61 : decode cX1_sumUp 61 = .ok (.iload_n 3, 1) := by decide +kernel
theorem dX1_sumUp_62 : decode cX1_sumUp 62 = .ok (.invokestatic 78, 3) := by decide +kernel
theorem dX1_sumUp_65 : decode cX1_sumUp 65 = .ok (.i2l, 1) := by decide +kernel
theorem dX1_sumUp_66 : decode cX1_sumUp 66 = .ok (.lmul, 1) := by decide +kernel
theorem dX1_sumUp_67 : decode cX1_sumUp 67 = .ok (.ladd, 1) := by decide +kernel
theorem dX1_sumUp_68 : decode cX1_sumUp 68 = .ok (.putfield 71, 3) := by decide +kernel
theorem dX1_sumUp_71 : decode cX1_sumUp 71 = .ok (.iinc 2 1, 3) := by decide +kernel
theorem dX1_sumUp_74 : decode cX1_sumUp 74 = .ok (.goto (-62), 3) := by decide +kernel
theorem dX1_sumUp_77 : decode cX1_sumUp 77 = .ok (.return_, 1) := by decide +kernel
theorem dX1_strength_0 : decode cX1_strength 0 = .ok (.aload_n 0, 1) := by decide +kernel
theorem dX1_strength_1 : decode cX1_strength 1 = .ok (.iload_n 1, 1) := by decide +kernel
theorem dX1_strength_2 : decode cX1_strength 2 = .ok (.invokevirtual 60, 3) := by decide +kernel
theorem dX1_strength_5 : decode cX1_strength 5 = .ok (.aload_n 0, 1) := by decide +kernel
theorem dX1_strength_6 : decode cX1_strength 6 = .ok (.getfield 67, 3) := by decide +kernel
theorem dX1_strength_9 : decode cX1_strength 9 = .ok (.ldc2_w 63, 3) := by decide +kernel
theorem dX1_strength_12 : decode cX1_strength 12 = .ok (.ldiv, 1) := by decide +kernel
theorem dX1_strength_13 : decode cX1_strength 13 = .ok (.lstore_n 2, 1) := by decide +kernel
theorem dX1_strength_14 : decode cX1_strength 14 = .ok (.aload_n 0, 1) := by decide +kernel
theorem dX1_strength_15 : decode cX1_strength 15 = .ok (.getfield 71, 3) := by decide +kernel
theorem dX1_strength_18 : decode cX1_strength 18 = .ok (.ldc2_w 63, 3) := by decide +kernel
theorem dX1_strength_21 : decode cX1_strength 21 = .ok (.ldiv, 1) := by decide +kernel
theorem dX1_strength_22 : decode cX1_strength 22 = .ok (.lstore 4, 2) := by decide +kernel
theorem dX1_strength_24 : decode cX1_strength 24 = .ok (.lload_n 2, 1) := by decide +kernel
theorem dX1_strength_25 : decode cX1_strength 25 = .ok (.lload_n 2, 1) := by decide +kernel
theorem dX1_strength_26 : decode cX1_strength 26 = .ok (.lmul, 1) := by decide +kernel
theorem dX1_strength_27 : decode cX1_strength 27 = .ok (.lload 4, 2) := by decide +kernel
theorem dX1_strength_29 : decode cX1_strength 29 = .ok (.lload 4, 2) := by decide +kernel
theorem dX1_strength_31 : decode cX1_strength 31 = .ok (.lmul, 1) := by decide +kernel
theorem dX1_strength_32 : decode cX1_strength 32 = .ok (.ladd, 1) := by decide +kernel
theorem dX1_strength_33 : decode cX1_strength 33 = .ok (.lreturn, 1) := by decide +kernel
theorem dX1_valueAt_0 : decode cX1_valueAt 0 = .ok (.iconst 0, 1) := by decide +kernel
theorem dX1_valueAt_1 : decode cX1_valueAt 1 = .ok (.istore_n 2, 1) := by decide +kernel
theorem dX1_valueAt_2 : decode cX1_valueAt 2 = .ok (.iload_n 2, 1) := by decide +kernel
theorem dX1_valueAt_3 : decode cX1_valueAt 3 = .ok (.aload_n 0, 1) := by decide +kernel
theorem dX1_valueAt_4 : decode cX1_valueAt 4 = .ok (.getfield 38, 3) := by decide +kernel
theorem dX1_valueAt_7 : decode cX1_valueAt 7 = .ok (.if_icmp .ge 26, 3) := by decide +kernel
theorem dX1_valueAt_10 : decode cX1_valueAt 10 = .ok (.aload_n 0, 1) := by decide +kernel
theorem dX1_valueAt_11 : decode cX1_valueAt 11 = .ok (.getfield 9, 3) := by decide +kernel
theorem dX1_valueAt_14 : decode cX1_valueAt 14 = .ok (.iload_n 2, 1) := by decide +kernel
theorem dX1_valueAt_15 : decode cX1_valueAt 15 = .ok (.iaload, 1) := by decide +kernel
theorem dX1_valueAt_16 : decode cX1_valueAt 16 = .ok (.iload_n 1, 1) := by decide +kernel
theorem dX1_valueAt_17 : decode cX1_valueAt 17 = .ok (.if_icmp .ne 10, 3) := by decide +kernel
theorem dX1_valueAt_20 : decode cX1_valueAt 20 = .ok (.aload_n 0, 1) := by decide +kernel
theorem dX1_valueAt_21 : decode cX1_valueAt 21 = .ok (.getfield 15, 3) := by decide +kernel
theorem dX1_valueAt_24 : decode cX1_valueAt 24 = .ok (.iload_n 2, 1) := by decide +kernel
theorem dX1_valueAt_25 : decode cX1_valueAt 25 = .ok (.laload, 1) := by decide +kernel
theorem dX1_valueAt_26 : decode cX1_valueAt 26 = .ok (.lreturn, 1) := by decide +kernel
theorem dX1_valueAt_27 : decode cX1_valueAt 27 = .ok (.iinc 2 1, 3) := by decide +kernel
theorem dX1_valueAt_30 : decode cX1_valueAt 30 = .ok (.goto (-28), 3) := by decide +kernel
theorem dX1_valueAt_33 : decode cX1_valueAt 33 = .ok (.lconst 0, 1) := by decide +kernel
theorem dX1_valueAt_34 : decode cX1_valueAt 34 = .ok (.lreturn, 1) := by decide +kernel
theorem dX2_init_0 : decode cX2_init 0 = .ok (.aload_n 0, 1) := by decide +kernel
theorem dX2_init_1 : decode cX2_init 1 = .ok (.invokespecial 3, 3) := by decide +kernel
theorem dX2_init_4 : decode cX2_init 4 = .ok (.aload_n 0, 1) := by decide +kernel
theorem dX2_init_5 : decode cX2_init 5 = .ok (.bipush 8, 2) := by decide +kernel
theorem dX2_init_7 : decode cX2_init 7 = .ok (.newarray .int, 2) := by decide +kernel
theorem dX2_init_9 : decode cX2_init 9 = .ok (.putfield 9, 3) := by decide +kernel
theorem dX2_init_12 : decode cX2_init 12 = .ok (.aload_n 0, 1) := by decide +kernel
theorem dX2_init_13 : decode cX2_init 13 = .ok (.bipush 8, 2) := by decide +kernel
theorem dX2_init_15 : decode cX2_init 15 = .ok (.newarray .int, 2) := by decide +kernel
theorem dX2_init_17 : decode cX2_init 17 = .ok (.putfield 15, 3) := by decide +kernel
theorem dX2_init_20 : decode cX2_init 20 = .ok (.aload_n 0, 1) := by decide +kernel
theorem dX2_init_21 : decode cX2_init 21 = .ok (.bipush 8, 2) := by decide +kernel
theorem dX2_init_23 : decode cX2_init 23 = .ok (.newarray .int, 2) := by decide +kernel
theorem dX2_init_25 : decode cX2_init 25 = .ok (.putfield 18, 3) := by decide +kernel
theorem dX2_init_28 : decode cX2_init 28 = .ok (.aload_n 0, 1) := by decide +kernel
theorem dX2_init_29 : decode cX2_init 29 = .ok (.sipush 256, 3) := by decide +kernel
theorem dX2_init_32 : decode cX2_init 32 = .ok (.newarray .int, 2) := by decide +kernel
theorem dX2_init_34 : decode cX2_init 34 = .ok (.putfield 21, 3) := by decide +kernel
theorem dX2_init_37 : decode cX2_init 37 = .ok (.aload_n 0, 1) := by decide +kernel
theorem dX2_init_38 : decode cX2_init 38 = .ok (.sipush 256, 3) := by decide +kernel
theorem dX2_init_41 : decode cX2_init 41 = .ok (.newarray .int, 2) := by decide +kernel
theorem dX2_init_43 : decode cX2_init 43 = .ok (.putfield 24, 3) := by decide +kernel
theorem dX2_init_46 : decode cX2_init 46 = .ok (.aload_n 0, 1) := by decide +kernel
theorem dX2_init_47 : decode cX2_init 47 = .ok (.bipush 6, 2) := by decide +kernel
theorem dX2_init_49 : decode cX2_init 49 = .ok (.newarray .int, 2) := by decide +kernel
theorem dX2_init_51 : decode cX2_init 51 = .ok (.putfield 27, 3) := by decide +kernel
theorem dX2_init_54 : decode cX2_init 54 = .ok (.aload_n 0, 1) := by decide +kernel
theorem dX2_init_55 : decode cX2_init 55 = .ok (.getfield 21, 3) := by decide +kernel
theorem dX2_init_58 : decode cX2_init 58 = .ok (.iconst (-1), 1) := by decide +kernel
theorem dX2_init_59 : decode cX2_init 59 = .ok (.invokestatic 30, 3) := by decide +kernel
theorem dX2_init_62 : decode cX2_init 62 = .ok (.return_, 1) := by decide +kernel
theorem dX2_addShell_0 : decode cX2_addShell 0 = .ok (.aload_n 0, 1) := by decide +kernel
theorem dX2_addShell_1 : decode cX2_addShell 1 = .ok (.getfield 36, 3) := by decide +kernel
theorem dX2_addShell_4 : decode cX2_addShell 4 = .ok (.bipush 8, 2) := by decide +kernel
theorem dX2_addShell_6 : decode cX2_addShell 6 = .ok (.if_icmp .ge 43, 3) := by decide +kernel
theorem dX2_addShell_9 : decode cX2_addShell 9 = .ok (.aload_n 0, 1) := by decide +kernel
theorem dX2_addShell_10 : decode cX2_addShell 10 = .ok (.getfield 9, 3) := by decide +kernel
theorem dX2_addShell_13 : decode cX2_addShell 13 = .ok (.aload_n 0, 1) := by decide +kernel
theorem dX2_addShell_14 : decode cX2_addShell 14 = .ok (.getfield 36, 3) := by decide +kernel
theorem dX2_addShell_17 : decode cX2_addShell 17 = .ok (.iload_n 1, 1) := by decide +kernel
theorem dX2_addShell_18 : decode cX2_addShell 18 = .ok (.iastore, 1) := by decide +kernel
theorem dX2_addShell_19 : decode cX2_addShell 19 = .ok (.aload_n 0, 1) := by decide +kernel
theorem dX2_addShell_20 : decode cX2_addShell 20 = .ok (.getfield 15, 3) := by decide +kernel
theorem dX2_addShell_23 : decode cX2_addShell 23 = .ok (.aload_n 0, 1) := by decide +kernel
theorem dX2_addShell_24 : decode cX2_addShell 24 = .ok (.getfield 36, 3) := by decide +kernel
theorem dX2_addShell_27 : decode cX2_addShell 27 = .ok (.iload_n 2, 1) := by decide +kernel
theorem dX2_addShell_28 : decode cX2_addShell 28 = .ok (.iastore, 1) := by decide +kernel
theorem dX2_addShell_29 : decode cX2_addShell 29 = .ok (.aload_n 0, 1) := by decide +kernel
theorem dX2_addShell_30 : decode cX2_addShell 30 = .ok (.getfield 18, 3) := by decide +kernel
theorem dX2_addShell_33 : decode cX2_addShell 33 = .ok (.aload_n 0, 1) := by decide +kernel
theorem dX2_addShell_34 : decode cX2_addShell 34 = .ok (.getfield 36, 3) := by decide +kernel
theorem dX2_addShell_37 : decode cX2_addShell 37 = .ok (.iload_n 3, 1) := by decide +kernel
theorem dX2_addShell_38 : decode cX2_addShell 38 = .ok (.iastore, 1) := by decide +kernel
theorem dX2_addShell_39 : decode cX2_addShell 39 = .ok (.aload_n 0, 1) := by decide +kernel
theorem dX2_addShell_40 : decode cX2_addShell 40 = .ok (.dup, 1) := by decide +kernel
theorem dX2_addShell_41 : decode cX2_addShell 41 = .ok (.getfield 36, 3) := by decide +kernel
theorem dX2_addShell_44 : decode cX2_addShell 44 = .ok (.iconst 1, 1) := by decide +kernel
theorem dX2_addShell_45 : decode cX2_addShell 45 = .ok (.iadd, 1) := by decide +kernel
theorem dX2_addShell_46 : decode cX2_addShell 46 = .ok (.putfield 36, 3) := by decide +kernel
theorem dX2_addShell_49 : decode cX2_addShell 49 = .ok (.return_, 1) := by decide +kernel
theorem dX2_settle_0 : decode cX2_settle 0 = .ok (.aload_n 0, 1) := by decide +kernel
theorem dX2_settle_1 : decode cX2_settle 1 = .ok (.iload_n 1, 1) := by decide +kernel
theorem dX2_settle_2 : decode cX2_settle 2 = .ok (.putfield 40, 3) := by decide +kernel
theorem dX2_settle_5 : decode cX2_settle 5 = .ok (.aload_n 0, 1) := by decide +kernel
theorem dX2_settle_6 : decode cX2_settle 6 = .ok (.aload_n 0, 1) := by decide +kernel
theorem dX2_settle_7 : decode cX2_settle 7 = .ok (.invokevirtual 43, 3) := by decide +kernel
theorem dX2_settle_10 : decode cX2_settle 10 = .ok (.putfield 47, 3) := by decide +kernel
theorem dX2_settle_13 : decode cX2_settle 13 = .ok (.aload_n 0, 1) := by decide +kernel
theorem dX2_settle_14 : decode cX2_settle 14 = .ok (.aload_n 0, 1) := by decide +kernel
theorem dX2_settle_15 : decode cX2_settle 15 = .ok (.getfield 47, 3) := by decide +kernel
theorem dX2_settle_18 : decode cX2_settle 18 = .ok (.ifCond .le 13, 3) := by decide +kernel
theorem dX2_settle_21 : decode cX2_settle 21 = .ok (.ldc 50, 2) := by decide +kernel
theorem dX2_settle_23 : decode cX2_settle 23 = .ok (.aload_n 0, 1) := by decide +kernel
theorem dX2_settle_24 : decode cX2_settle 24 = .ok (.getfield 47, 3) := by decide +kernel
theorem dX2_settle_27 : decode cX2_settle 27 = .ok (.idiv, 1) := by decide +kernel
theorem dX2_settle_28 : decode cX2_settle 28 = .ok (.goto 4, 3) := by decide +kernel
theorem dX2_settle_31 : decode cX2_settle 31 = .ok (.iconst 0, 1) := by decide +kernel
theorem dX2_settle_32 : decode cX2_settle 32 = .ok (.putfield 51, 3) := by decide +kernel
theorem dX2_settle_35 : decode cX2_settle 35 = .ok (.aload_n 0, 1) := by decide +kernel
theorem dX2_settle_36 : decode cX2_settle 36 = .ok (.aload_n 0, 1) := by decide +kernel
theorem dX2_settle_37 : decode cX2_settle 37 = .ok (.invokevirtual 54, 3) := by decide +kernel
theorem dX2_settle_40 : decode cX2_settle 40 = .ok (.putfield 57, 3) := by decide +kernel
theorem dX2_settle_43 : decode cX2_settle 43 = .ok (.aload_n 0, 1) := by decide +kernel
theorem dX2_settle_44 : decode cX2_settle 44 = .ok (.aload_n 0, 1) := by decide +kernel
theorem dX2_settle_45 : decode cX2_settle 45 = .ok (.invokevirtual 60, 3) := by decide +kernel
theorem dX2_settle_48 : decode cX2_settle 48 = .ok (.putfield 63, 3) := by decide +kernel
theorem dX2_settle_51 : decode cX2_settle 51 = .ok (.aload_n 0, 1) := by decide +kernel
theorem dX2_settle_52 : decode cX2_settle 52 = .ok (.iconst 3, 1) := by decide +kernel
theorem dX2_settle_53 : decode cX2_settle 53 = .ok (.aload_n 0, 1) := by decide +kernel
theorem dX2_settle_54 : decode cX2_settle 54 = .ok (.getfield 51, 3) := by decide +kernel
theorem dX2_settle_57 : decode cX2_settle 57 = .ok (.imul, 1) := by decide +kernel
theorem dX2_settle_58 : decode cX2_settle 58 = .ok (.bipush 100, 2) := by decide +kernel
theorem dX2_settle_60 : decode cX2_settle 60 = .ok (.aload_n 0, 1) := by decide +kernel
theorem dX2_settle_61 : decode cX2_settle 61 = .ok (.getfield 15, 3) := by decide +kernel
theorem dX2_settle_64 : decode cX2_settle 64 = .ok (.iconst 0, 1) := by decide +kernel
theorem dX2_settle_65 : decode cX2_settle 65 = .ok (.iaload, 1) := by decide +kernel
theorem dX2_settle_66 : decode cX2_settle 66 = .ok (.imul, 1) := by decide +kernel
theorem dX2_settle_67 : decode cX2_settle 67 = .ok (.iadd, 1) := by decide +kernel
theorem dX2_settle_68 : decode cX2_settle 68 = .ok (.putfield 66, 3) := by decide +kernel
theorem dX2_settle_71 : decode cX2_settle 71 = .ok (.return_, 1) := by decide +kernel
theorem dX2_crossed_0 : decode cX2_crossed 0 = .ok (.iconst 0, 1) := by decide +kernel
theorem dX2_crossed_1 : decode cX2_crossed 1 = .ok (.istore_n 1, 1) := by decide +kernel
theorem dX2_crossed_2 : decode cX2_crossed 2 = .ok (.iconst 0, 1) := by decide +kernel
theorem dX2_crossed_3 : decode cX2_crossed 3 = .ok (.istore_n 2, 1) := by decide +kernel
theorem dX2_crossed_4 : decode cX2_crossed 4 = .ok (.iload_n 2, 1) := by decide +kernel
theorem dX2_crossed_5 : decode cX2_crossed 5 = .ok (.aload_n 0, 1) := by decide +kernel
theorem dX2_crossed_6 : decode cX2_crossed 6 = .ok (.getfield 36, 3) := by decide +kernel
theorem dX2_crossed_9 : decode cX2_crossed 9 = .ok (.if_icmp .ge 48, 3) := by decide +kernel
theorem dX2_crossed_12 : decode cX2_crossed 12 = .ok (.iload_n 2, 1) := by decide +kernel
theorem dX2_crossed_13 : decode cX2_crossed 13 = .ok (.bipush 8, 2) := by decide +kernel
theorem dX2_crossed_15 : decode cX2_crossed 15 = .ok (.if_icmp .ge 42, 3) := by decide +kernel
theorem dX2_crossed_18 : decode cX2_crossed 18 = .ok (.iload_n 1, 1) := by decide +kernel
theorem dX2_crossed_19 : decode cX2_crossed 19 = .ok (.aload_n 0, 1) := by decide +kernel
theorem dX2_crossed_20 : decode cX2_crossed 20 = .ok (.getfield 15, 3) := by decide +kernel
theorem dX2_crossed_23 : decode cX2_crossed 23 = .ok (.iload_n 2, 1) := by decide +kernel
theorem dX2_crossed_24 : decode cX2_crossed 24 = .ok (.iaload, 1) := by decide +kernel
theorem dX2_crossed_25 : decode cX2_crossed 25 = .ok (.ifCond .le 23, 3) := by decide +kernel
theorem dX2_crossed_28 : decode cX2_crossed 28 = .ok (.sipush 1000, 3) := by decide +kernel
theorem dX2_crossed_31 : decode cX2_crossed 31 = .ok (.aload_n 0, 1) := by decide +kernel
theorem dX2_crossed_32 : decode cX2_crossed 32 = .ok (.getfield 9, 3) := by decide +kernel
theorem dX2_crossed_35 : decode cX2_crossed 35 = .ok (.iload_n 2, 1) := by decide +kernel
theorem dX2_crossed_36 : decode cX2_crossed 36 = .ok (.iaload, 1) := by decide +kernel
theorem dX2_crossed_37 : decode cX2_crossed 37 = .ok (.imul, 1) := by decide +kernel
theorem dX2_crossed_38 : decode cX2_crossed 38 = .ok (.aload_n 0, 1) := by decide +kernel
theorem dX2_crossed_39 : decode cX2_crossed 39 = .ok (.getfield 15, 3) := by decide +kernel
theorem dX2_crossed_42 : decode cX2_crossed 42 = .ok (.iload_n 2, 1) := by decide +kernel
theorem dX2_crossed_43 : decode cX2_crossed 43 = .ok (.iaload, 1) := by decide +kernel
theorem dX2_crossed_44 : decode cX2_crossed 44 = .ok (.idiv, 1) := by decide +kernel
theorem dX2_crossed_45 : decode cX2_crossed 45 = .ok (.goto 4, 3) := by decide +kernel
theorem dX2_crossed_48 : decode cX2_crossed 48 = .ok (.iconst 0, 1) := by decide +kernel
theorem dX2_crossed_49 : decode cX2_crossed 49 = .ok (.iadd, 1) := by decide +kernel
theorem dX2_crossed_50 : decode cX2_crossed 50 = .ok (.istore_n 1, 1) := by decide +kernel
theorem dX2_crossed_51 : decode cX2_crossed 51 = .ok (.iinc 2 1, 3) := by decide +kernel
theorem dX2_crossed_54 : decode cX2_crossed 54 = .ok (.goto (-50), 3) := by decide +kernel
theorem dX2_crossed_57 : decode cX2_crossed 57 = .ok (.iload_n 1, 1) := by decide +kernel
theorem dX2_crossed_58 : decode cX2_crossed 58 = .ok (.ireturn, 1) := by decide +kernel
theorem dX2_crossedByUnits_0 : decode cX2_crossedByUnits 0 = .ok (.iconst 0, 1) := by decide +kernel
theorem dX2_crossedByUnits_1 : decode cX2_crossedByUnits 1 = .ok (.istore_n 1, 1) := by decide +kernel
theorem dX2_crossedByUnits_2 : decode cX2_crossedByUnits 2 = .ok (.iconst 0, 1) := by decide +kernel
theorem dX2_crossedByUnits_3 : decode cX2_crossedByUnits 3 = .ok (.istore_n 2, 1) := by decide +kernel
theorem dX2_crossedByUnits_4 : decode cX2_crossedByUnits 4 = .ok (.iload_n 2, 1) := by decide +kernel
theorem dX2_crossedByUnits_5 : decode cX2_crossedByUnits 5 = .ok (.aload_n 0, 1) := by decide +kernel
theorem dX2_crossedByUnits_6 : decode cX2_crossedByUnits 6 = .ok (.getfield 36, 3) := by decide +kernel
theorem dX2_crossedByUnits_9 : decode cX2_crossedByUnits 9 = .ok (.if_icmp .ge 72, 3) := by decide +kernel
theorem dX2_crossedByUnits_12 : decode cX2_crossedByUnits 12 = .ok (.iload_n 2, 1) := by decide +kernel
theorem dX2_crossedByUnits_13 : decode cX2_crossedByUnits 13 = .ok (.bipush 8, 2) := by decide +kernel
theorem dX2_crossedByUnits_15 : decode cX2_crossedByUnits 15 = .ok (.if_icmp .ge 66, 3) := by decide +kernel
theorem dX2_crossedByUnits_18 : decode cX2_crossedByUnits 18 = .ok (.iconst 0, 1) := by decide +kernel
theorem dX2_crossedByUnits_19 : decode cX2_crossedByUnits 19 = .ok (.istore_n 3, 1) := by decide +kernel
theorem dX2_crossedByUnits_20 : decode cX2_crossedByUnits 20 = .ok (.iconst 0, 1) := by decide +kernel
theorem dX2_crossedByUnits_21 : decode cX2_crossedByUnits 21 = .ok (.istore 4, 2) := by decide +kernel
theorem dX2_crossedByUnits_23 : decode cX2_crossedByUnits 23 = .ok (.iload 4, 2) := by decide +kernel
theorem dX2_crossedByUnits_25 : decode cX2_crossedByUnits 25 = .ok (.aload_n 0, 1) := by decide +kernel
theorem dX2_crossedByUnits_26 : decode cX2_crossedByUnits 26 = .ok (.getfield 9, 3) := by decide +kernel
theorem dX2_crossedByUnits_29 : decode cX2_crossedByUnits 29 = .ok (.iload_n 2, 1) := by decide +kernel
theorem dX2_crossedByUnits_30 : decode cX2_crossedByUnits 30 = .ok (.iaload, 1) := by decide +kernel
theorem dX2_crossedByUnits_31 : decode cX2_crossedByUnits 31 = .ok (.if_icmp .ge 44, 3) := by decide +kernel
theorem dX2_crossedByUnits_34 : decode cX2_crossedByUnits 34 = .ok (.aload_n 0, 1) := by decide +kernel
theorem dX2_crossedByUnits_35 : decode cX2_crossedByUnits 35 = .ok (.getfield 15, 3) := by decide +kernel
theorem dX2_crossedByUnits_38 : decode cX2_crossedByUnits 38 = .ok (.iload_n 2, 1) := by decide +kernel
theorem dX2_crossedByUnits_39 : decode cX2_crossedByUnits 39 = .ok (.iaload, 1) := by decide +kernel
theorem dX2_crossedByUnits_40 : decode cX2_crossedByUnits 40 = .ok (.ifCond .le 35, 3) := by decide +kernel
theorem dX2_crossedByUnits_43 : decode cX2_crossedByUnits 43 = .ok (.iinc 3 1000, 6) := by decide +kernel
theorem dX2_crossedByUnits_49 : decode cX2_crossedByUnits 49 = .ok (.iload_n 1, 1) := by decide +kernel
theorem dX2_crossedByUnits_50 : decode cX2_crossedByUnits 50 = .ok (.iload_n 3, 1) := by decide +kernel
theorem dX2_crossedByUnits_51 : decode cX2_crossedByUnits 51 = .ok (.aload_n 0, 1) := by decide +kernel
theorem dX2_crossedByUnits_52 : decode cX2_crossedByUnits 52 = .ok (.getfield 15, 3) := by decide +kernel
theorem dX2_crossedByUnits_55 : decode cX2_crossedByUnits 55 = .ok (.iload_n 2, 1) := by decide +kernel
theorem dX2_crossedByUnits_56 : decode cX2_crossedByUnits 56 = .ok (.iaload, 1) := by decide +kernel
theorem dX2_crossedByUnits_57 : decode cX2_crossedByUnits 57 = .ok (.idiv, 1) := by decide +kernel
theorem dX2_crossedByUnits_58 : decode cX2_crossedByUnits 58 = .ok (.iadd, 1) := by decide +kernel
theorem dX2_crossedByUnits_59 : decode cX2_crossedByUnits 59 = .ok (.istore_n 1, 1) := by decide +kernel
theorem dX2_crossedByUnits_60 : decode cX2_crossedByUnits 60 = .ok (.iload_n 3, 1) := by decide +kernel
theorem dX2_crossedByUnits_61 : decode cX2_crossedByUnits 61 = .ok (.aload_n 0, 1) := by decide +kernel
theorem dX2_crossedByUnits_62 : decode cX2_crossedByUnits 62 = .ok (.getfield 15, 3) := by decide +kernel
theorem dX2_crossedByUnits_65 : decode cX2_crossedByUnits 65 = .ok (.iload_n 2, 1) := by decide +kernel
theorem dX2_crossedByUnits_66 : decode cX2_crossedByUnits 66 = .ok (.iaload, 1) := by decide +kernel
theorem dX2_crossedByUnits_67 : decode cX2_crossedByUnits 67 = .ok (.irem, 1) := by decide +kernel
theorem dX2_crossedByUnits_68 : decode cX2_crossedByUnits 68 = .ok (.istore_n 3, 1) := by decide +kernel
theorem dX2_crossedByUnits_69 : decode cX2_crossedByUnits 69 = .ok (.iinc 4 1, 3) := by decide +kernel
theorem dX2_crossedByUnits_72 : decode cX2_crossedByUnits 72 = .ok (.goto (-49), 3) := by decide +kernel
theorem dX2_crossedByUnits_75 : decode cX2_crossedByUnits 75 = .ok (.iinc 2 1, 3) := by decide +kernel
theorem dX2_crossedByUnits_78 : decode cX2_crossedByUnits 78 = .ok (.goto (-74), 3) := by decide +kernel
theorem dX2_crossedByUnits_81 : decode cX2_crossedByUnits 81 = .ok (.iload_n 1, 1) := by decide +kernel
theorem dX2_crossedByUnits_82 : decode cX2_crossedByUnits 82 = .ok (.ireturn, 1) := by decide +kernel
theorem dX2_slowed_0 : decode cX2_slowed 0 = .ok (.iconst 0, 1) := by decide +kernel
theorem dX2_slowed_1 : decode cX2_slowed 1 = .ok (.istore_n 1, 1) := by decide +kernel
theorem dX2_slowed_2 : decode cX2_slowed 2 = .ok (.iconst 1, 1) := by decide +kernel
theorem dX2_slowed_3 : decode cX2_slowed 3 = .ok (.istore_n 2, 1) := by decide +kernel
theorem dX2_slowed_4 : decode cX2_slowed 4 = .ok (.iload_n 2, 1) := by decide +kernel
theorem dX2_slowed_5 : decode cX2_slowed 5 = .ok (.aload_n 0, 1) := by decide +kernel
theorem dX2_slowed_6 : decode cX2_slowed 6 = .ok (.getfield 36, 3) := by decide +kernel
theorem dX2_slowed_9 : decode cX2_slowed 9 = .ok (.if_icmp .ge 37, 3) := by decide +kernel
theorem dX2_slowed_12 : decode cX2_slowed 12 = .ok (.iload_n 2, 1) := by decide +kernel
theorem dX2_slowed_13 : decode cX2_slowed 13 = .ok (.bipush 8, 2) := by decide +kernel
theorem dX2_slowed_15 : decode cX2_slowed 15 = .ok (.if_icmp .ge 31, 3) := by decide +kernel
theorem dX2_slowed_18 : decode cX2_slowed 18 = .ok (.iload_n 1, 1) := by decide +kernel
theorem dX2_slowed_19 : decode cX2_slowed 19 = .ok (.iconst 0, 1) := by decide +kernel
theorem dX2_slowed_20 : decode cX2_slowed 20 = .ok (.aload_n 0, 1) := by decide +kernel
theorem dX2_slowed_21 : decode cX2_slowed 21 = .ok (.getfield 15, 3) := by decide +kernel
theorem dX2_slowed_24 : decode cX2_slowed 24 = .ok (.iload_n 2, 1) := by decide +kernel
theorem dX2_slowed_25 : decode cX2_slowed 25 = .ok (.iconst 1, 1) := by decide +kernel
theorem dX2_slowed_26 : decode cX2_slowed 26 = .ok (.isub, 1) := by decide +kernel
theorem dX2_slowed_27 : decode cX2_slowed 27 = .ok (.iaload, 1) := by decide +kernel
theorem dX2_slowed_28 : decode cX2_slowed 28 = .ok (.aload_n 0, 1) := by decide +kernel
theorem dX2_slowed_29 : decode cX2_slowed 29 = .ok (.getfield 15, 3) := by decide +kernel
theorem dX2_slowed_32 : decode cX2_slowed 32 = .ok (.iload_n 2, 1) := by decide +kernel
theorem dX2_slowed_33 : decode cX2_slowed 33 = .ok (.iaload, 1) := by decide +kernel
theorem dX2_slowed_34 : decode cX2_slowed 34 = .ok (.isub, 1) := by decide +kernel
theorem dX2_slowed_35 : decode cX2_slowed 35 = .ok (.invokestatic 69, 3) := by decide +kernel
theorem dX2_slowed_38 : decode cX2_slowed 38 = .ok (.iadd, 1) := by decide +kernel
theorem dX2_slowed_39 : decode cX2_slowed 39 = .ok (.istore_n 1, 1) := by decide +kernel
theorem dX2_slowed_40 : decode cX2_slowed 40 = .ok (.iinc 2 1, 3) := by decide +kernel
theorem dX2_slowed_43 : decode cX2_slowed 43 = .ok (.goto (-39), 3) := by decide +kernel
theorem dX2_slowed_46 : decode cX2_slowed 46 = .ok (.iload_n 1, 1) := by decide +kernel
theorem dX2_slowed_47 : decode cX2_slowed 47 = .ok (.ireturn, 1) := by decide +kernel
theorem dX2_turned_0 : decode cX2_turned 0 = .ok (.iconst 0, 1) := by decide +kernel
theorem dX2_turned_1 : decode cX2_turned 1 = .ok (.istore_n 1, 1) := by decide +kernel
theorem dX2_turned_2 : decode cX2_turned 2 = .ok (.iconst 0, 1) := by decide +kernel
theorem dX2_turned_3 : decode cX2_turned 3 = .ok (.istore_n 2, 1) := by decide +kernel
theorem dX2_turned_4 : decode cX2_turned 4 = .ok (.iconst 0, 1) := by decide +kernel
theorem dX2_turned_5 : decode cX2_turned 5 = .ok (.istore_n 3, 1) := by decide +kernel
theorem dX2_turned_6 : decode cX2_turned 6 = .ok (.iload_n 3, 1) := by decide +kernel
theorem dX2_turned_7 : decode cX2_turned 7 = .ok (.aload_n 0, 1) := by decide +kernel
theorem dX2_turned_8 : decode cX2_turned 8 = .ok (.getfield 36, 3) := by decide +kernel
theorem dX2_turned_11 : decode cX2_turned 11 = .ok (.if_icmp .ge 40, 3) := by decide +kernel
theorem dX2_turned_14 : decode cX2_turned 14 = .ok (.iload_n 3, 1) := by decide +kernel
theorem dX2_turned_15 : decode cX2_turned 15 = .ok (.bipush 8, 2) := by decide +kernel
theorem dX2_turned_17 : decode cX2_turned 17 = .ok (.if_icmp .ge 34, 3) := by decide +kernel
theorem dX2_turned_20 : decode cX2_turned 20 = .ok (.iload_n 1, 1) := by decide +kernel
theorem dX2_turned_21 : decode cX2_turned 21 = .ok (.aload_n 0, 1) := by decide +kernel
theorem dX2_turned_22 : decode cX2_turned 22 = .ok (.getfield 9, 3) := by decide +kernel
theorem dX2_turned_25 : decode cX2_turned 25 = .ok (.iload_n 3, 1) := by decide +kernel
theorem dX2_turned_26 : decode cX2_turned 26 = .ok (.iaload, 1) := by decide +kernel
theorem dX2_turned_27 : decode cX2_turned 27 = .ok (.iadd, 1) := by decide +kernel
theorem dX2_turned_28 : decode cX2_turned 28 = .ok (.istore_n 1, 1) := by decide +kernel
theorem dX2_turned_29 : decode cX2_turned 29 = .ok (.iload_n 2, 1) := by decide +kernel
theorem dX2_turned_30 : decode cX2_turned 30 = .ok (.aload_n 0, 1) := by decide +kernel
theorem dX2_turned_31 : decode cX2_turned 31 = .ok (.getfield 9, 3) := by decide +kernel
theorem dX2_turned_34 : decode cX2_turned 34 = .ok (.iload_n 3, 1) := by decide +kernel
theorem dX2_turned_35 : decode cX2_turned 35 = .ok (.iaload, 1) := by decide +kernel
theorem dX2_turned_36 : decode cX2_turned 36 = .ok (.aload_n 0, 1) := by decide +kernel
theorem dX2_turned_37 : decode cX2_turned 37 = .ok (.getfield 18, 3) := by decide +kernel
theorem dX2_turned_40 : decode cX2_turned 40 = .ok (.iload_n 3, 1) := by decide +kernel
theorem dX2_turned_41 : decode cX2_turned 41 = .ok (.iaload, 1) := by decide +kernel
theorem dX2_turned_42 : decode cX2_turned 42 = .ok (.imul, 1) := by decide +kernel
theorem dX2_turned_43 : decode cX2_turned 43 = .ok (.iadd, 1) := by decide +kernel
theorem dX2_turned_44 : decode cX2_turned 44 = .ok (.istore_n 2, 1) := by decide +kernel
theorem dX2_turned_45 : decode cX2_turned 45 = .ok (.iinc 3 1, 3) := by decide +kernel
theorem dX2_turned_48 : decode cX2_turned 48 = .ok (.goto (-42), 3) := by decide +kernel
theorem dX2_turned_51 : decode cX2_turned 51 = .ok (.iload_n 1, 1) := by decide +kernel
theorem dX2_turned_52 : decode cX2_turned 52 = .ok (.ifCond .le 9, 3) := by decide +kernel
theorem dX2_turned_55 : decode cX2_turned 55 = .ok (.iload_n 2, 1) := by decide +kernel
theorem dX2_turned_56 : decode cX2_turned 56 = .ok (.iload_n 1, 1) := by decide +kernel
theorem dX2_turned_57 : decode cX2_turned 57 = .ok (.idiv, 1) := by decide +kernel
theorem dX2_turned_58 : decode cX2_turned 58 = .ok (.goto 4, 3) := by decide +kernel
theorem dX2_turned_61 : decode cX2_turned 61 = .ok (.iconst 0, 1) := by decide +kernel
theorem dX2_turned_62 : decode cX2_turned 62 = .ok (.ireturn, 1) := by decide +kernel
theorem dX2_awayFrom_0 : decode cX2_awayFrom 0 = .ok (.aload_n 0, 1) := by decide +kernel
theorem dX2_awayFrom_1 : decode cX2_awayFrom 1 = .ok (.getfield 51, 3) := by decide +kernel
theorem dX2_awayFrom_4 : decode cX2_awayFrom 4 = .ok (.iload_n 1, 1) := by decide +kernel
theorem dX2_awayFrom_5 : decode cX2_awayFrom 5 = .ok (.isub, 1) := by decide +kernel
theorem dX2_awayFrom_6 : decode cX2_awayFrom 6 = .ok (.invokestatic 75, 3) := by decide +kernel
theorem dX2_awayFrom_9 : decode cX2_awayFrom 9 = .ok (.ireturn, 1) := by decide +kernel
theorem dX2_ring_0 : decode cX2_ring 0 = .ok (.aload_n 0, 1) := by decide +kernel
theorem dX2_ring_1 : decode cX2_ring 1 = .ok (.getfield 51, 3) := by decide +kernel
theorem dX2_ring_4 : decode cX2_ring 4 = .ok (.iconst 2, 1) := by decide +kernel
theorem dX2_ring_5 : decode cX2_ring 5 = .ok (.iload_n 1, 1) := by decide +kernel
theorem dX2_ring_6 : decode cX2_ring 6 = .ok (.imul, 1) := by decide +kernel
theorem dX2_ring_7 : decode cX2_ring 7 = .ok (.iload_n 2, 1) := by decide +kernel
theorem dX2_ring_8 : decode cX2_ring 8 = .ok (.iadd, 1) := by decide +kernel
theorem dX2_ring_9 : decode cX2_ring 9 = .ok (.iconst 3, 1) := by decide +kernel
theorem dX2_ring_10 : decode cX2_ring 10 = .ok (.iadd, 1) := by decide +kernel
theorem dX2_ring_11 : decode cX2_ring 11 = .ok (.imul, 1) := by decide +kernel
theorem dX2_ring_12 : decode cX2_ring 12 = .ok (.iconst 2, 1) := by decide +kernel
theorem dX2_ring_13 : decode cX2_ring 13 = .ok (.invokestatic 79, 3) := by decide +kernel
theorem dX2_ring_16 : decode cX2_ring 16 = .ok (.aload_n 0, 1) := by decide +kernel
theorem dX2_ring_17 : decode cX2_ring 17 = .ok (.getfield 57, 3) := by decide +kernel
theorem dX2_ring_20 : decode cX2_ring 20 = .ok (.iload_n 2, 1) := by decide +kernel
theorem dX2_ring_21 : decode cX2_ring 21 = .ok (.imul, 1) := by decide +kernel
theorem dX2_ring_22 : decode cX2_ring 22 = .ok (.iload_n 2, 1) := by decide +kernel
theorem dX2_ring_23 : decode cX2_ring 23 = .ok (.iconst 1, 1) := by decide +kernel
theorem dX2_ring_24 : decode cX2_ring 24 = .ok (.iadd, 1) := by decide +kernel
theorem dX2_ring_25 : decode cX2_ring 25 = .ok (.imul, 1) := by decide +kernel
theorem dX2_ring_26 : decode cX2_ring 26 = .ok (.isub, 1) := by decide +kernel
theorem dX2_ring_27 : decode cX2_ring 27 = .ok (.istore 4, 2) := by decide +kernel
theorem dX2_ring_29 : decode cX2_ring 29 = .ok (.iload 4, 2) := by decide +kernel
theorem dX2_ring_31 : decode cX2_ring 31 = .ok (.aload_n 0, 1) := by decide +kernel
theorem dX2_ring_32 : decode cX2_ring 32 = .ok (.getfield 66, 3) := by decide +kernel
theorem dX2_ring_35 : decode cX2_ring 35 = .ok (.isub, 1) := by decide +kernel
theorem dX2_ring_36 : decode cX2_ring 36 = .ok (.invokestatic 75, 3) := by decide +kernel
theorem dX2_ring_39 : decode cX2_ring 39 = .ok (.istore 5, 2) := by decide +kernel
theorem dX2_ring_41 : decode cX2_ring 41 = .ok (.iload_n 2, 1) := by decide +kernel
theorem dX2_ring_42 : decode cX2_ring 42 = .ok (.iconst 1, 1) := by decide +kernel
theorem dX2_ring_43 : decode cX2_ring 43 = .ok (.if_icmp .ne 43, 3) := by decide +kernel
theorem dX2_ring_46 : decode cX2_ring 46 = .ok (.iload 5, 2) := by decide +kernel
theorem dX2_ring_48 : decode cX2_ring 48 = .ok (.sipush 500, 3) := by decide +kernel
theorem dX2_ring_51 : decode cX2_ring 51 = .ok (.if_icmp .ge 35, 3) := by decide +kernel
theorem dX2_ring_54 : decode cX2_ring 54 = .ok (.sipush 500, 3) := by decide +kernel
theorem dX2_ring_57 : decode cX2_ring 57 = .ok (.iload 5, 2) := by decide +kernel
theorem dX2_ring_59 : decode cX2_ring 59 = .ok (.isub, 1) := by decide +kernel
theorem dX2_ring_60 : decode cX2_ring 60 = .ok (.iconst 2, 1) := by decide +kernel
theorem dX2_ring_61 : decode cX2_ring 61 = .ok (.idiv, 1) := by decide +kernel
theorem dX2_ring_62 : decode cX2_ring 62 = .ok (.istore 6, 2) := by decide +kernel
theorem dX2_ring_64 : decode cX2_ring 64 = .ok (.iload 4, 2) := by decide +kernel
theorem dX2_ring_66 : decode cX2_ring 66 = .ok (.iload 4, 2) := by decide +kernel
theorem dX2_ring_68 : decode cX2_ring 68 = .ok (.aload_n 0, 1) := by decide +kernel
theorem dX2_ring_69 : decode cX2_ring 69 = .ok (.getfield 66, 3) := by decide +kernel
theorem dX2_ring_72 : decode cX2_ring 72 = .ok (.if_icmp .lt 8, 3) := by decide +kernel
theorem dX2_ring_75 : decode cX2_ring 75 = .ok (.iload 6, 2) := by decide +kernel
theorem dX2_ring_77 : decode cX2_ring 77 = .ok (.goto 6, 3) := by decide +kernel
theorem dX2_ring_80 : decode cX2_ring 80 = .ok (.iload 6, 2) := by decide +kernel
theorem dX2_ring_82 : decode cX2_ring 82 = .ok (.ineg, 1) := by decide +kernel
theorem dX2_ring_83 : decode cX2_ring 83 = .ok (.iadd, 1) := by decide +kernel
theorem dX2_ring_84 : decode cX2_ring 84 = .ok (.istore 4, 2) := by decide +kernel
theorem dX2_ring_86 : decode cX2_ring 86 = .ok (.iload 4, 2) := by decide +kernel
theorem dX2_ring_88 : decode cX2_ring 88 = .ok (.bipush 10, 2) := by decide +kernel
theorem dX2_ring_90 : decode cX2_ring 90 = .ok (.aload_n 0, 1) := by decide +kernel
theorem dX2_ring_91 : decode cX2_ring 91 = .ok (.getfield 63, 3) := by decide +kernel
theorem dX2_ring_94 : decode cX2_ring 94 = .ok (.imul, 1) := by decide +kernel
theorem dX2_ring_95 : decode cX2_ring 95 = .ok (.iload_n 3, 1) := by decide +kernel
theorem dX2_ring_96 : decode cX2_ring 96 = .ok (.imul, 1) := by decide +kernel
theorem dX2_ring_97 : decode cX2_ring 97 = .ok (.iadd, 1) := by decide +kernel
theorem dX2_ring_98 : decode cX2_ring 98 = .ok (.ireturn, 1) := by decide +kernel
theorem dX2_ringsNear_0 : decode cX2_ringsNear 0 = .ok (.iconst 1, 1) := by decide +kernel
theorem dX2_ringsNear_1 : decode cX2_ringsNear 1 = .ok (.istore_n 2, 1) := by decide +kernel
theorem dX2_ringsNear_2 : decode cX2_ringsNear 2 = .ok (.iload_n 2, 1) := by decide +kernel
theorem dX2_ringsNear_3 : decode cX2_ringsNear 3 = .ok (.bipush 12, 2) := by decide +kernel
theorem dX2_ringsNear_5 : decode cX2_ringsNear 5 = .ok (.if_icmp .gt 42, 3) := by decide +kernel
theorem dX2_ringsNear_8 : decode cX2_ringsNear 8 = .ok (.iconst 0, 1) := by decide +kernel
theorem dX2_ringsNear_9 : decode cX2_ringsNear 9 = .ok (.istore_n 3, 1) := by decide +kernel
theorem dX2_ringsNear_10 : decode cX2_ringsNear 10 = .ok (.iload_n 3, 1) := by decide +kernel
theorem dX2_ringsNear_11 : decode cX2_ringsNear 11 = .ok (.iconst 2, 1) := by decide +kernel
theorem dX2_ringsNear_12 : decode cX2_ringsNear 12 = .ok (.if_icmp .gt 29, 3) := by decide +kernel
theorem dX2_ringsNear_15 : decode cX2_ringsNear 15 = .ok (.aload_n 0, 1) := by decide +kernel
theorem dX2_ringsNear_16 : decode cX2_ringsNear 16 = .ok (.iload_n 2, 1) := by decide +kernel
theorem dX2_ringsNear_17 : decode cX2_ringsNear 17 = .ok (.iload_n 3, 1) := by decide +kernel
theorem dX2_ringsNear_18 : decode cX2_ringsNear 18 = .ok (.iconst 0, 1) := by decide +kernel
theorem dX2_ringsNear_19 : decode cX2_ringsNear 19 = .ok (.invokevirtual 82, 3) := by decide +kernel
theorem dX2_ringsNear_22 : decode cX2_ringsNear 22 = .ok (.iload_n 1, 1) := by decide +kernel
theorem dX2_ringsNear_23 : decode cX2_ringsNear 23 = .ok (.isub, 1) := by decide +kernel
theorem dX2_ringsNear_24 : decode cX2_ringsNear 24 = .ok (.invokestatic 75, 3) := by decide +kernel
theorem dX2_ringsNear_27 : decode cX2_ringsNear 27 = .ok (.sipush 20000, 3) := by decide +kernel
theorem dX2_ringsNear_30 : decode cX2_ringsNear 30 = .ok (.if_icmp .ge 5, 3) := by decide +kernel
theorem dX2_ringsNear_33 : decode cX2_ringsNear 33 = .ok (.iconst 1, 1) := by decide +kernel
theorem dX2_ringsNear_34 : decode cX2_ringsNear 34 = .ok (.ireturn, 1) := by decide +kernel
theorem dX2_ringsNear_35 : decode cX2_ringsNear 35 = .ok (.iinc 3 1, 3) := by decide +kernel
theorem dX2_ringsNear_38 : decode cX2_ringsNear 38 = .ok (.goto (-28), 3) := by decide +kernel
theorem dX2_ringsNear_41 : decode cX2_ringsNear 41 = .ok (.iinc 2 1, 3) := by decide +kernel
theorem dX2_ringsNear_44 : decode cX2_ringsNear 44 = .ok (.goto (-42), 3) := by decide +kernel
theorem dX2_ringsNear_47 : decode cX2_ringsNear 47 = .ok (.iconst 0, 1) := by decide +kernel
theorem dX2_ringsNear_48 : decode cX2_ringsNear 48 = .ok (.ireturn, 1) := by decide +kernel
theorem dX3_init_0 : decode cX3_init 0 = .ok (.aload_n 0, 1) := by decide +kernel
theorem dX3_init_1 : decode cX3_init 1 = .ok (.invokespecial 1, 3) := by decide +kernel
theorem dX3_init_4 : decode cX3_init 4 = .ok (.aload_n 0, 1) := by decide +kernel
theorem dX3_init_5 : decode cX3_init 5 = .ok (.bipush 6, 2) := by decide +kernel
theorem dX3_init_7 : decode cX3_init 7 = .ok (.anewarray 9, 3) := by decide +kernel
theorem dX3_init_10 : decode cX3_init 10 = .ok (.putfield 11, 3) := by decide +kernel
theorem dX3_init_13 : decode cX3_init 13 = .ok (.aload_n 0, 1) := by decide +kernel
theorem dX3_init_14 : decode cX3_init 14 = .ok (.new 9, 3) := by decide +kernel
theorem dX3_init_17 : decode cX3_init 17 = .ok (.dup, 1) := by decide +kernel
theorem dX3_init_18 : decode cX3_init 18 = .ok (.invokespecial 15, 3) := by decide +kernel
theorem dX3_init_21 : decode cX3_init 21 = .ok (.putfield 16, 3) := by decide +kernel
theorem dX3_init_24 : decode cX3_init 24 = .ok (.aload_n 0, 1) := by decide +kernel
theorem dX3_init_25 : decode cX3_init 25 = .ok (.iconst 4, 1) := by decide +kernel
theorem dX3_init_26 : decode cX3_init 26 = .ok (.newarray .boolean, 2) := by decide +kernel
theorem dX3_init_28 : decode cX3_init 28 = .ok (.putfield 20, 3) := by decide +kernel
theorem dX3_init_31 : decode cX3_init 31 = .ok (.aload_n 0, 1) := by decide +kernel
theorem dX3_init_32 : decode cX3_init 32 = .ok (.sipush 1000, 3) := by decide +kernel
theorem dX3_init_35 : decode cX3_init 35 = .ok (.putfield 24, 3) := by decide +kernel
theorem dX3_init_38 : decode cX3_init 38 = .ok (.aload_n 0, 1) := by decide +kernel
theorem dX3_init_39 : decode cX3_init 39 = .ok (.bipush 40, 2) := by decide +kernel
theorem dX3_init_41 : decode cX3_init 41 = .ok (.anewarray 28, 3) := by decide +kernel
theorem dX3_init_44 : decode cX3_init 44 = .ok (.putfield 30, 3) := by decide +kernel
theorem dX3_init_47 : decode cX3_init 47 = .ok (.aload_n 0, 1) := by decide +kernel
theorem dX3_init_48 : decode cX3_init 48 = .ok (.new 34, 3) := by decide +kernel
theorem dX3_init_51 : decode cX3_init 51 = .ok (.dup, 1) := by decide +kernel
theorem dX3_init_52 : decode cX3_init 52 = .ok (.invokespecial 36, 3) := by decide +kernel
theorem dX3_init_55 : decode cX3_init 55 = .ok (.putfield 37, 3) := by decide +kernel
theorem dX3_init_58 : decode cX3_init 58 = .ok (.return_, 1) := by decide +kernel
theorem dX3_shell_0 : decode cX3_shell 0 = .ok (.iload_n 1, 1) := by decide +kernel
theorem dX3_shell_1 : decode cX3_shell 1 = .ok (.iconst 1, 1) := by decide +kernel
theorem dX3_shell_2 : decode cX3_shell 2 = .ok (.bipush 99, 2) := by decide +kernel
theorem dX3_shell_4 : decode cX3_shell 4 = .ok (.invokestatic 41, 3) := by decide +kernel
theorem dX3_shell_7 : decode cX3_shell 7 = .ok (.ifCond .ne 23, 3) := by decide +kernel
theorem dX3_shell_10 : decode cX3_shell 10 = .ok (.iload_n 2, 1) := by decide +kernel
theorem dX3_shell_11 : decode cX3_shell 11 = .ok (.iconst 1, 1) := by decide +kernel
theorem dX3_shell_12 : decode cX3_shell 12 = .ok (.bipush 99, 2) := by decide +kernel
theorem dX3_shell_14 : decode cX3_shell 14 = .ok (.invokestatic 41, 3) := by decide +kernel
theorem dX3_shell_17 : decode cX3_shell 17 = .ok (.ifCond .ne 13, 3) := by decide +kernel
theorem dX3_shell_20 : decode cX3_shell 20 = .ok (.iload_n 3, 1) := by decide +kernel
theorem dX3_shell_21 : decode cX3_shell 21 = .ok (.iconst 0, 1) := by decide +kernel
theorem dX3_shell_22 : decode cX3_shell 22 = .ok (.bipush 9, 2) := by decide +kernel
theorem dX3_shell_24 : decode cX3_shell 24 = .ok (.invokestatic 41, 3) := by decide +kernel
theorem dX3_shell_27 : decode cX3_shell 27 = .ok (.ifCond .eq 13, 3) := by decide +kernel
theorem dX3_shell_30 : decode cX3_shell 30 = .ok (.new 45, 3) := by decide +kernel
theorem dX3_shell_33 : decode cX3_shell 33 = .ok (.dup, 1) := by decide +kernel
theorem dX3_shell_34 : decode cX3_shell 34 = .ok (.ldc 47, 2) := by decide +kernel
theorem dX3_shell_36 : decode cX3_shell 36 = .ok (.invokespecial 49, 3) := by decide +kernel
theorem dX3_shell_39 : decode cX3_shell 39 = .ok (.athrow, 1) := by decide +kernel
theorem dX3_shell_40 : decode cX3_shell 40 = .ok (.aload_n 0, 1) := by decide +kernel
theorem dX3_shell_41 : decode cX3_shell 41 = .ok (.getfield 16, 3) := by decide +kernel
theorem dX3_shell_44 : decode cX3_shell 44 = .ok (.getfield 52, 3) := by decide +kernel
theorem dX3_shell_47 : decode cX3_shell 47 = .ok (.bipush 8, 2) := by decide +kernel
theorem dX3_shell_49 : decode cX3_shell 49 = .ok (.if_icmp .lt 13, 3) := by decide +kernel
theorem dX3_shell_52 : decode cX3_shell 52 = .ok (.new 55, 3) := by decide +kernel
theorem dX3_shell_55 : decode cX3_shell 55 = .ok (.dup, 1) := by decide +kernel
theorem dX3_shell_56 : decode cX3_shell 56 = .ok (.ldc 57, 2) := by decide +kernel
theorem dX3_shell_58 : decode cX3_shell 58 = .ok (.invokespecial 59, 3) := by decide +kernel
theorem dX3_shell_61 : decode cX3_shell 61 = .ok (.athrow, 1) := by decide +kernel
theorem dX3_shell_62 : decode cX3_shell 62 = .ok (.aload_n 0, 1) := by decide +kernel
theorem dX3_shell_63 : decode cX3_shell 63 = .ok (.getfield 16, 3) := by decide +kernel
theorem dX3_shell_66 : decode cX3_shell 66 = .ok (.iload_n 1, 1) := by decide +kernel
theorem dX3_shell_67 : decode cX3_shell 67 = .ok (.iload_n 2, 1) := by decide +kernel
theorem dX3_shell_68 : decode cX3_shell 68 = .ok (.iload_n 3, 1) := by decide +kernel
theorem dX3_shell_69 : decode cX3_shell 69 = .ok (.invokevirtual 60, 3) := by decide +kernel
theorem dX3_shell_72 : decode cX3_shell 72 = .ok (.aload_n 0, 1) := by decide +kernel
theorem dX3_shell_73 : decode cX3_shell 73 = .ok (.getfield 16, 3) := by decide +kernel
theorem dX3_shell_76 : decode cX3_shell 76 = .ok (.getfield 52, 3) := by decide +kernel
theorem dX3_shell_79 : decode cX3_shell 79 = .ok (.ireturn, 1) := by decide +kernel
theorem dX3_star_0 : decode cX3_star 0 = .ok (.iload_n 1, 1) := by decide +kernel
theorem dX3_star_1 : decode cX3_star 1 = .ok (.iconst 0, 1) := by decide +kernel
theorem dX3_star_2 : decode cX3_star 2 = .ok (.bipush 99, 2) := by decide +kernel
theorem dX3_star_4 : decode cX3_star 4 = .ok (.invokestatic 41, 3) := by decide +kernel
theorem dX3_star_7 : decode cX3_star 7 = .ok (.ifCond .eq 13, 3) := by decide +kernel
theorem dX3_star_10 : decode cX3_star 10 = .ok (.new 45, 3) := by decide +kernel
theorem dX3_star_13 : decode cX3_star 13 = .ok (.dup, 1) := by decide +kernel
theorem dX3_star_14 : decode cX3_star 14 = .ok (.ldc 64, 2) := by decide +kernel
theorem dX3_star_16 : decode cX3_star 16 = .ok (.invokespecial 49, 3) := by decide +kernel
theorem dX3_star_19 : decode cX3_star 19 = .ok (.athrow, 1) := by decide +kernel
theorem dX3_star_20 : decode cX3_star 20 = .ok (.aload_n 0, 1) := by decide +kernel
theorem dX3_star_21 : decode cX3_star 21 = .ok (.getfield 16, 3) := by decide +kernel
theorem dX3_star_24 : decode cX3_star 24 = .ok (.getfield 52, 3) := by decide +kernel
theorem dX3_star_27 : decode cX3_star 27 = .ok (.ifCond .eq 12, 3) := by decide +kernel
theorem dX3_star_30 : decode cX3_star 30 = .ok (.aload_n 0, 1) := by decide +kernel
theorem dX3_star_31 : decode cX3_star 31 = .ok (.getfield 66, 3) := by decide +kernel
theorem dX3_star_34 : decode cX3_star 34 = .ok (.bipush 6, 2) := by decide +kernel
theorem dX3_star_36 : decode cX3_star 36 = .ok (.if_icmp .lt 13, 3) := by decide +kernel
theorem dX3_star_39 : decode cX3_star 39 = .ok (.new 55, 3) := by decide +kernel
theorem dX3_star_42 : decode cX3_star 42 = .ok (.dup, 1) := by decide +kernel
theorem dX3_star_43 : decode cX3_star 43 = .ok (.ldc 69, 2) := by decide +kernel
theorem dX3_star_45 : decode cX3_star 45 = .ok (.invokespecial 59, 3) := by decide +kernel
theorem dX3_star_48 : decode cX3_star 48 = .ok (.athrow, 1) := by decide +kernel
theorem dX3_star_49 : decode cX3_star 49 = .ok (.aload_n 0, 1) := by decide +kernel
theorem dX3_star_50 : decode cX3_star 50 = .ok (.getfield 16, 3) := by decide +kernel
theorem dX3_star_53 : decode cX3_star 53 = .ok (.iload_n 1, 1) := by decide +kernel
theorem dX3_star_54 : decode cX3_star 54 = .ok (.invokevirtual 71, 3) := by decide +kernel
theorem dX3_star_57 : decode cX3_star 57 = .ok (.aload_n 0, 1) := by decide +kernel
theorem dX3_star_58 : decode cX3_star 58 = .ok (.getfield 11, 3) := by decide +kernel
theorem dX3_star_61 : decode cX3_star 61 = .ok (.aload_n 0, 1) := by decide +kernel
theorem dX3_star_62 : decode cX3_star 62 = .ok (.getfield 66, 3) := by decide +kernel
theorem dX3_star_65 : decode cX3_star 65 = .ok (.aload_n 0, 1) := by decide +kernel
theorem dX3_star_66 : decode cX3_star 66 = .ok (.getfield 16, 3) := by decide +kernel
theorem dX3_star_69 : decode cX3_star 69 = .ok (.aastore, 1) := by decide +kernel
theorem dX3_star_70 : decode cX3_star 70 = .ok (.aload_n 0, 1) := by decide +kernel
theorem dX3_star_71 : decode cX3_star 71 = .ok (.new 9, 3) := by decide +kernel
theorem dX3_star_74 : decode cX3_star 74 = .ok (.dup, 1) := by decide +kernel
theorem dX3_star_75 : decode cX3_star 75 = .ok (.invokespecial 15, 3) := by decide +kernel
theorem dX3_star_78 : decode cX3_star 78 = .ok (.putfield 16, 3) := by decide +kernel
theorem dX3_star_81 : decode cX3_star 81 = .ok (.aload_n 0, 1) := by decide +kernel
theorem dX3_star_82 : decode cX3_star 82 = .ok (.dup, 1) := by decide +kernel
theorem dX3_star_83 : decode cX3_star 83 = .ok (.getfield 66, 3) := by decide +kernel
theorem dX3_star_86 : decode cX3_star 86 = .ok (.iconst 1, 1) := by decide +kernel
theorem dX3_star_87 : decode cX3_star 87 = .ok (.iadd, 1) := by decide +kernel
theorem dX3_star_88 : decode cX3_star 88 = .ok (.putfield 66, 3) := by decide +kernel
theorem dX3_star_91 : decode cX3_star 91 = .ok (.aload_n 0, 1) := by decide +kernel
theorem dX3_star_92 : decode cX3_star 92 = .ok (.getfield 66, 3) := by decide +kernel
theorem dX3_star_95 : decode cX3_star 95 = .ok (.iconst 1, 1) := by decide +kernel
theorem dX3_star_96 : decode cX3_star 96 = .ok (.isub, 1) := by decide +kernel
theorem dX3_star_97 : decode cX3_star 97 = .ok (.ireturn, 1) := by decide +kernel
theorem dX3_frame_0 : decode cX3_frame 0 = .ok (.aload_n 0, 1) := by decide +kernel
theorem dX3_frame_1 : decode cX3_frame 1 = .ok (.iload_n 1, 1) := by decide +kernel
theorem dX3_frame_2 : decode cX3_frame 2 = .ok (.invokevirtual 75, 3) := by decide +kernel
theorem dX3_frame_5 : decode cX3_frame 5 = .ok (.astore 5, 2) := by decide +kernel
theorem dX3_frame_7 : decode cX3_frame 7 = .ok (.iload_n 2, 1) := by decide +kernel
theorem dX3_frame_8 : decode cX3_frame 8 = .ok (.invokestatic 79, 3) := by decide +kernel
theorem dX3_frame_11 : decode cX3_frame 11 = .ok (.iload_n 3, 1) := by decide +kernel
theorem dX3_frame_12 : decode cX3_frame 12 = .ok (.invokestatic 82, 3) := by decide +kernel
theorem dX3_frame_15 : decode cX3_frame 15 = .ok (.iload 4, 2) := by decide +kernel
theorem dX3_frame_17 : decode cX3_frame 17 = .ok (.iconst 0, 1) := by decide +kernel
theorem dX3_frame_18 : decode cX3_frame 18 = .ok (.sipush 9999, 3) := by decide +kernel
theorem dX3_frame_21 : decode cX3_frame 21 = .ok (.invokestatic 41, 3) := by decide +kernel
theorem dX3_frame_24 : decode cX3_frame 24 = .ok (.ifCond .eq 13, 3) := by decide +kernel
theorem dX3_frame_27 : decode cX3_frame 27 = .ok (.new 45, 3) := by decide +kernel
theorem dX3_frame_30 : decode cX3_frame 30 = .ok (.dup, 1) := by decide +kernel
theorem dX3_frame_31 : decode cX3_frame 31 = .ok (.ldc 85, 2) := by decide +kernel
theorem dX3_frame_33 : decode cX3_frame 33 = .ok (.invokespecial 49, 3) := by decide +kernel
theorem dX3_frame_36 : decode cX3_frame 36 = .ok (.athrow, 1) := by decide +kernel
theorem dX3_frame_37 : decode cX3_frame 37 = .ok (.aload 5, 2) := by decide +kernel
theorem dX3_frame_39 : decode cX3_frame 39 = .ok (.getfield 87, 3) := by decide +kernel
theorem dX3_frame_42 : decode cX3_frame 42 = .ok (.iload_n 3, 1) := by decide +kernel
theorem dX3_frame_43 : decode cX3_frame 43 = .ok (.iaload, 1) := by decide +kernel
theorem dX3_frame_44 : decode cX3_frame 44 = .ok (.istore 6, 2) := by decide +kernel
theorem dX3_frame_46 : decode cX3_frame 46 = .ok (.aload 5, 2) := by decide +kernel
theorem dX3_frame_48 : decode cX3_frame 48 = .ok (.getfield 87, 3) := by decide +kernel
theorem dX3_frame_51 : decode cX3_frame 51 = .ok (.iload_n 3, 1) := by decide +kernel
theorem dX3_frame_52 : decode cX3_frame 52 = .ok (.iload 4, 2) := by decide +kernel
theorem dX3_frame_54 : decode cX3_frame 54 = .ok (.iastore, 1) := by decide +kernel
theorem dX3_frame_55 : decode cX3_frame 55 = .ok (.aload 5, 2) := by decide +kernel
theorem dX3_frame_57 : decode cX3_frame 57 = .ok (.getfield 91, 3) := by decide +kernel
theorem dX3_frame_60 : decode cX3_frame 60 = .ok (.iload_n 3, 1) := by decide +kernel
theorem dX3_frame_61 : decode cX3_frame 61 = .ok (.iload_n 2, 1) := by decide +kernel
theorem dX3_frame_62 : decode cX3_frame 62 = .ok (.iastore, 1) := by decide +kernel
theorem dX3_frame_63 : decode cX3_frame 63 = .ok (.iload 6, 2) := by decide +kernel
theorem dX3_frame_65 : decode cX3_frame 65 = .ok (.ireturn, 1) := by decide +kernel
theorem dX3_drop_0 : decode cX3_drop 0 = .ok (.aload_n 0, 1) := by decide +kernel
theorem dX3_drop_1 : decode cX3_drop 1 = .ok (.iload_n 1, 1) := by decide +kernel
theorem dX3_drop_2 : decode cX3_drop 2 = .ok (.invokevirtual 75, 3) := by decide +kernel
theorem dX3_drop_5 : decode cX3_drop 5 = .ok (.astore_n 3, 1) := by decide +kernel
theorem dX3_drop_6 : decode cX3_drop 6 = .ok (.iload_n 2, 1) := by decide +kernel
theorem dX3_drop_7 : decode cX3_drop 7 = .ok (.invokestatic 82, 3) := by decide +kernel
theorem dX3_drop_10 : decode cX3_drop 10 = .ok (.aload_n 3, 1) := by decide +kernel
theorem dX3_drop_11 : decode cX3_drop 11 = .ok (.getfield 87, 3) := by decide +kernel
theorem dX3_drop_14 : decode cX3_drop 14 = .ok (.iload_n 2, 1) := by decide +kernel
theorem dX3_drop_15 : decode cX3_drop 15 = .ok (.iaload, 1) := by decide +kernel
theorem dX3_drop_16 : decode cX3_drop 16 = .ok (.istore 4, 2) := by decide +kernel
theorem dX3_drop_18 : decode cX3_drop 18 = .ok (.iload 4, 2) := by decide +kernel
theorem dX3_drop_20 : decode cX3_drop 20 = .ok (.iconst (-1), 1) := by decide +kernel
theorem dX3_drop_21 : decode cX3_drop 21 = .ok (.if_icmp .ne 13, 3) := by decide +kernel
theorem dX3_drop_24 : decode cX3_drop 24 = .ok (.new 55, 3) := by decide +kernel
theorem dX3_drop_27 : decode cX3_drop 27 = .ok (.dup, 1) := by decide +kernel
theorem dX3_drop_28 : decode cX3_drop 28 = .ok (.ldc 94, 2) := by decide +kernel
theorem dX3_drop_30 : decode cX3_drop 30 = .ok (.invokespecial 59, 3) := by decide +kernel
theorem dX3_drop_33 : decode cX3_drop 33 = .ok (.athrow, 1) := by decide +kernel
theorem dX3_drop_34 : decode cX3_drop 34 = .ok (.aload_n 3, 1) := by decide +kernel
theorem dX3_drop_35 : decode cX3_drop 35 = .ok (.getfield 87, 3) := by decide +kernel
theorem dX3_drop_38 : decode cX3_drop 38 = .ok (.iload_n 2, 1) := by decide +kernel
theorem dX3_drop_39 : decode cX3_drop 39 = .ok (.iconst (-1), 1) := by decide +kernel
theorem dX3_drop_40 : decode cX3_drop 40 = .ok (.iastore, 1) := by decide +kernel
theorem dX3_drop_41 : decode cX3_drop 41 = .ok (.iload 4, 2) := by decide +kernel
theorem dX3_drop_43 : decode cX3_drop 43 = .ok (.ireturn, 1) := by decide +kernel
theorem dX3_mask_0 : decode cX3_mask 0 = .ok (.iload_n 1, 1) := by decide +kernel
theorem dX3_mask_1 : decode cX3_mask 1 = .ok (.invokestatic 79, 3) := by decide +kernel
theorem dX3_mask_4 : decode cX3_mask 4 = .ok (.aload_n 0, 1) := by decide +kernel
theorem dX3_mask_5 : decode cX3_mask 5 = .ok (.getfield 20, 3) := by decide +kernel
theorem dX3_mask_8 : decode cX3_mask 8 = .ok (.iload_n 1, 1) := by decide +kernel
theorem dX3_mask_9 : decode cX3_mask 9 = .ok (.baload, 1) := by decide +kernel
theorem dX3_mask_10 : decode cX3_mask 10 = .ok (.istore_n 3, 1) := by decide +kernel
theorem dX3_mask_11 : decode cX3_mask 11 = .ok (.aload_n 0, 1) := by decide +kernel
theorem dX3_mask_12 : decode cX3_mask 12 = .ok (.getfield 20, 3) := by decide +kernel
theorem dX3_mask_15 : decode cX3_mask 15 = .ok (.iload_n 1, 1) := by decide +kernel
theorem dX3_mask_16 : decode cX3_mask 16 = .ok (.iload_n 2, 1) := by decide +kernel
theorem dX3_mask_17 : decode cX3_mask 17 = .ok (.bastore, 1) := by decide +kernel
theorem dX3_mask_18 : decode cX3_mask 18 = .ok (.iload_n 3, 1) := by decide +kernel
theorem dX3_mask_19 : decode cX3_mask 19 = .ok (.ireturn, 1) := by decide +kernel
theorem dX3_threshold_0 : decode cX3_threshold 0 = .ok (.iload_n 1, 1) := by decide +kernel
theorem dX3_threshold_1 : decode cX3_threshold 1 = .ok (.iconst 1, 1) := by decide +kernel
theorem dX3_threshold_2 : decode cX3_threshold 2 = .ok (.ldc 96, 2) := by decide +kernel
theorem dX3_threshold_4 : decode cX3_threshold 4 = .ok (.invokestatic 41, 3) := by decide +kernel
theorem dX3_threshold_7 : decode cX3_threshold 7 = .ok (.ifCond .eq 13, 3) := by decide +kernel
theorem dX3_threshold_10 : decode cX3_threshold 10 = .ok (.new 45, 3) := by decide +kernel
theorem dX3_threshold_13 : decode cX3_threshold 13 = .ok (.dup, 1) := by decide +kernel
theorem dX3_threshold_14 : decode cX3_threshold 14 = .ok (.ldc 97, 2) := by decide +kernel
theorem dX3_threshold_16 : decode cX3_threshold 16 = .ok (.invokespecial 49, 3) := by decide +kernel
theorem dX3_threshold_19 : decode cX3_threshold 19 = .ok (.athrow, 1) := by decide +kernel
theorem dX3_threshold_20 : decode cX3_threshold 20 = .ok (.aload_n 0, 1) := by decide +kernel
theorem dX3_threshold_21 : decode cX3_threshold 21 = .ok (.getfield 24, 3) := by decide +kernel
theorem dX3_threshold_24 : decode cX3_threshold 24 = .ok (.istore_n 2, 1) := by decide +kernel
theorem dX3_threshold_25 : decode cX3_threshold 25 = .ok (.aload_n 0, 1) := by decide +kernel
theorem dX3_threshold_26 : decode cX3_threshold 26 = .ok (.iload_n 1, 1) := by decide +kernel
theorem dX3_threshold_27 : decode cX3_threshold 27 = .ok (.putfield 24, 3) := by decide +kernel
theorem dX3_threshold_30 : decode cX3_threshold 30 = .ok (.iload_n 2, 1) := by decide +kernel
theorem dX3_threshold_31 : decode cX3_threshold 31 = .ok (.ireturn, 1) := by decide +kernel
theorem dX3_takeOut_0 : decode cX3_takeOut 0 = .ok (.aload_n 0, 1) := by decide +kernel
theorem dX3_takeOut_1 : decode cX3_takeOut 1 = .ok (.iload_n 1, 1) := by decide +kernel
theorem dX3_takeOut_2 : decode cX3_takeOut 2 = .ok (.invokevirtual 75, 3) := by decide +kernel
theorem dX3_takeOut_5 : decode cX3_takeOut 5 = .ok (.astore_n 3, 1) := by decide +kernel
theorem dX3_takeOut_6 : decode cX3_takeOut 6 = .ok (.iload_n 2, 1) := by decide +kernel
theorem dX3_takeOut_7 : decode cX3_takeOut 7 = .ok (.iconst 1, 1) := by decide +kernel
theorem dX3_takeOut_8 : decode cX3_takeOut 8 = .ok (.bipush 31, 2) := by decide +kernel
theorem dX3_takeOut_10 : decode cX3_takeOut 10 = .ok (.invokestatic 41, 3) := by decide +kernel
theorem dX3_takeOut_13 : decode cX3_takeOut 13 = .ok (.ifCond .eq 13, 3) := by decide +kernel
theorem dX3_takeOut_16 : decode cX3_takeOut 16 = .ok (.new 45, 3) := by decide +kernel
theorem dX3_takeOut_19 : decode cX3_takeOut 19 = .ok (.dup, 1) := by decide +kernel
theorem dX3_takeOut_20 : decode cX3_takeOut 20 = .ok (.ldc 99, 2) := by decide +kernel
theorem dX3_takeOut_22 : decode cX3_takeOut 22 = .ok (.invokespecial 49, 3) := by decide +kernel
theorem dX3_takeOut_25 : decode cX3_takeOut 25 = .ok (.athrow, 1) := by decide +kernel
theorem dX3_takeOut_26 : decode cX3_takeOut 26 = .ok (.aload_n 3, 1) := by decide +kernel
theorem dX3_takeOut_27 : decode cX3_takeOut 27 = .ok (.getfield 101, 3) := by decide +kernel
theorem dX3_takeOut_30 : decode cX3_takeOut 30 = .ok (.bipush 6, 2) := by decide +kernel
theorem dX3_takeOut_32 : decode cX3_takeOut 32 = .ok (.if_icmp .lt 13, 3) := by decide +kernel
theorem dX3_takeOut_35 : decode cX3_takeOut 35 = .ok (.new 55, 3) := by decide +kernel
theorem dX3_takeOut_38 : decode cX3_takeOut 38 = .ok (.dup, 1) := by decide +kernel
theorem dX3_takeOut_39 : decode cX3_takeOut 39 = .ok (.ldc 104, 2) := by decide +kernel
theorem dX3_takeOut_41 : decode cX3_takeOut 41 = .ok (.invokespecial 59, 3) := by decide +kernel
theorem dX3_takeOut_44 : decode cX3_takeOut 44 = .ok (.athrow, 1) := by decide +kernel
theorem dX3_takeOut_45 : decode cX3_takeOut 45 = .ok (.aload_n 3, 1) := by decide +kernel
theorem dX3_takeOut_46 : decode cX3_takeOut 46 = .ok (.getfield 106, 3) := by decide +kernel
theorem dX3_takeOut_49 : decode cX3_takeOut 49 = .ok (.aload_n 3, 1) := by decide +kernel
theorem dX3_takeOut_50 : decode cX3_takeOut 50 = .ok (.getfield 101, 3) := by decide +kernel
theorem dX3_takeOut_53 : decode cX3_takeOut 53 = .ok (.iload_n 2, 1) := by decide +kernel
theorem dX3_takeOut_54 : decode cX3_takeOut 54 = .ok (.iastore, 1) := by decide +kernel
theorem dX3_takeOut_55 : decode cX3_takeOut 55 = .ok (.aload_n 3, 1) := by decide +kernel
theorem dX3_takeOut_56 : decode cX3_takeOut 56 = .ok (.dup, 1) := by decide +kernel
theorem dX3_takeOut_57 : decode cX3_takeOut 57 = .ok (.getfield 101, 3) := by decide +kernel
theorem dX3_takeOut_60 : decode cX3_takeOut 60 = .ok (.iconst 1, 1) := by decide +kernel
theorem dX3_takeOut_61 : decode cX3_takeOut 61 = .ok (.iadd, 1) := by decide +kernel
theorem dX3_takeOut_62 : decode cX3_takeOut 62 = .ok (.putfield 101, 3) := by decide +kernel
theorem dX3_takeOut_65 : decode cX3_takeOut 65 = .ok (.aload_n 3, 1) := by decide +kernel
theorem dX3_takeOut_66 : decode cX3_takeOut 66 = .ok (.getfield 101, 3) := by decide +kernel
theorem dX3_takeOut_69 : decode cX3_takeOut 69 = .ok (.ireturn, 1) := by decide +kernel
theorem dX3_putBack_0 : decode cX3_putBack 0 = .ok (.aload_n 0, 1) := by decide +kernel
theorem dX3_putBack_1 : decode cX3_putBack 1 = .ok (.iload_n 1, 1) := by decide +kernel
theorem dX3_putBack_2 : decode cX3_putBack 2 = .ok (.invokevirtual 75, 3) := by decide +kernel
theorem dX3_putBack_5 : decode cX3_putBack 5 = .ok (.astore_n 2, 1) := by decide +kernel
theorem dX3_putBack_6 : decode cX3_putBack 6 = .ok (.aload_n 2, 1) := by decide +kernel
theorem dX3_putBack_7 : decode cX3_putBack 7 = .ok (.getfield 101, 3) := by decide +kernel
theorem dX3_putBack_10 : decode cX3_putBack 10 = .ok (.istore_n 3, 1) := by decide +kernel
theorem dX3_putBack_11 : decode cX3_putBack 11 = .ok (.aload_n 2, 1) := by decide +kernel
theorem dX3_putBack_12 : decode cX3_putBack 12 = .ok (.iconst 0, 1) := by decide +kernel
theorem dX3_putBack_13 : decode cX3_putBack 13 = .ok (.putfield 101, 3) := by decide +kernel
theorem dX3_putBack_16 : decode cX3_putBack 16 = .ok (.iload_n 3, 1) := by decide +kernel
theorem dX3_putBack_17 : decode cX3_putBack 17 = .ok (.ireturn, 1) := by decide +kernel
theorem dX3_claimTone_0 : decode cX3_claimTone 0 = .ok (.aload_n 0, 1) := by decide +kernel
theorem dX3_claimTone_1 : decode cX3_claimTone 1 = .ok (.iload_n 1, 1) := by decide +kernel
theorem dX3_claimTone_2 : decode cX3_claimTone 2 = .ok (.invokevirtual 75, 3) := by decide +kernel
theorem dX3_claimTone_5 : decode cX3_claimTone 5 = .ok (.astore 4, 2) := by decide +kernel
theorem dX3_claimTone_7 : decode cX3_claimTone 7 = .ok (.iload_n 2, 1) := by decide +kernel
theorem dX3_claimTone_8 : decode cX3_claimTone 8 = .ok (.invokestatic 109, 3) := by decide +kernel
theorem dX3_claimTone_11 : decode cX3_claimTone 11 = .ok (.aload_n 0, 1) := by decide +kernel
theorem dX3_claimTone_12 : decode cX3_claimTone 12 = .ok (.invokevirtual 112, 3) := by decide +kernel
theorem dX3_claimTone_15 : decode cX3_claimTone 15 = .ok (.aload_n 0, 1) := by decide +kernel
theorem dX3_claimTone_16 : decode cX3_claimTone 16 = .ok (.aload 4, 2) := by decide +kernel
theorem dX3_claimTone_18 : decode cX3_claimTone 18 = .ok (.iload_n 2, 1) := by decide +kernel
theorem dX3_claimTone_19 : decode cX3_claimTone 19 = .ok (.iload_n 3, 1) := by decide +kernel
theorem dX3_claimTone_20 : decode cX3_claimTone 20 = .ok (.invokevirtual 115, 3) := by decide +kernel
theorem dX3_claimTone_23 : decode cX3_claimTone 23 = .ok (.ifCond .ne 13, 3) := by decide +kernel
theorem dX3_claimTone_26 : decode cX3_claimTone 26 = .ok (.new 55, 3) := by decide +kernel
theorem dX3_claimTone_29 : decode cX3_claimTone 29 = .ok (.dup, 1) := by decide +kernel
theorem dX3_claimTone_30 : decode cX3_claimTone 30 = .ok (.ldc 119, 2) := by decide +kernel
theorem dX3_claimTone_32 : decode cX3_claimTone 32 = .ok (.invokespecial 59, 3) := by decide +kernel
theorem dX3_claimTone_35 : decode cX3_claimTone 35 = .ok (.athrow, 1) := by decide +kernel
theorem dX3_claimTone_36 : decode cX3_claimTone 36 = .ok (.new 28, 3) := by decide +kernel
theorem dX3_claimTone_39 : decode cX3_claimTone 39 = .ok (.dup, 1) := by decide +kernel
theorem dX3_claimTone_40 : decode cX3_claimTone 40 = .ok (.iconst 0, 1) := by decide +kernel
theorem dX3_claimTone_41 : decode cX3_claimTone 41 = .ok (.iload_n 1, 1) := by decide +kernel
theorem dX3_claimTone_42 : decode cX3_claimTone 42 = .ok (.iload_n 3, 1) := by decide +kernel
theorem dX3_claimTone_43 : decode cX3_claimTone 43 = .ok (.invokespecial 121, 3) := by decide +kernel
theorem dX3_claimTone_46 : decode cX3_claimTone 46 = .ok (.astore 5, 2) := by decide +kernel
theorem dX3_claimTone_48 : decode cX3_claimTone 48 = .ok (.aload 5, 2) := by decide +kernel
theorem dX3_claimTone_50 : decode cX3_claimTone 50 = .ok (.iload_n 2, 1) := by decide +kernel
theorem dX3_claimTone_51 : decode cX3_claimTone 51 = .ok (.putfield 123, 3) := by decide +kernel
theorem dX3_claimTone_54 : decode cX3_claimTone 54 = .ok (.aload 5, 2) := by decide +kernel
theorem dX3_claimTone_56 : decode cX3_claimTone 56 = .ok (.aload 4, 2) := by decide +kernel
theorem dX3_claimTone_58 : decode cX3_claimTone 58 = .ok (.getfield 101, 3) := by decide +kernel
theorem dX3_claimTone_61 : decode cX3_claimTone 61 = .ok (.putfield 126, 3) := by decide +kernel
theorem dX3_claimTone_64 : decode cX3_claimTone 64 = .ok (.aload 5, 2) := by decide +kernel
theorem dX3_claimTone_66 : decode cX3_claimTone 66 = .ok (.aload_n 0, 1) := by decide +kernel
theorem dX3_claimTone_67 : decode cX3_claimTone 67 = .ok (.getfield 37, 3) := by decide +kernel
theorem dX3_claimTone_70 : decode cX3_claimTone 70 = .ok (.iload_n 3, 1) := by decide +kernel
theorem dX3_claimTone_71 : decode cX3_claimTone 71 = .ok (.invokevirtual 127, 3) := by decide +kernel
theorem dX3_claimTone_74 : decode cX3_claimTone 74 = .ok (.putfield 131, 3) := by decide +kernel
theorem dX3_claimTone_77 : decode cX3_claimTone 77 = .ok (.aload_n 0, 1) := by decide +kernel
theorem dX3_claimTone_78 : decode cX3_claimTone 78 = .ok (.aload 5, 2) := by decide +kernel
theorem dX3_claimTone_80 : decode cX3_claimTone 80 = .ok (.invokevirtual 135, 3) := by decide +kernel
theorem dX3_claimTone_83 : decode cX3_claimTone 83 = .ok (.ireturn, 1) := by decide +kernel
theorem dX3_claimAge_0 : decode cX3_claimAge 0 = .ok (.aload_n 0, 1) := by decide +kernel
theorem dX3_claimAge_1 : decode cX3_claimAge 1 = .ok (.iload_n 1, 1) := by decide +kernel
theorem dX3_claimAge_2 : decode cX3_claimAge 2 = .ok (.invokevirtual 139, 3) := by decide +kernel
theorem dX3_claimAge_5 : decode cX3_claimAge 5 = .ok (.astore_n 3, 1) := by decide +kernel
theorem dX3_claimAge_6 : decode cX3_claimAge 6 = .ok (.aload_n 0, 1) := by decide +kernel
theorem dX3_claimAge_7 : decode cX3_claimAge 7 = .ok (.iload_n 2, 1) := by decide +kernel
theorem dX3_claimAge_8 : decode cX3_claimAge 8 = .ok (.invokevirtual 139, 3) := by decide +kernel
theorem dX3_claimAge_11 : decode cX3_claimAge 11 = .ok (.astore 4, 2) := by decide +kernel
theorem dX3_claimAge_13 : decode cX3_claimAge 13 = .ok (.aload_n 3, 1) := by decide +kernel
theorem dX3_claimAge_14 : decode cX3_claimAge 14 = .ok (.getfield 143, 3) := by decide +kernel
theorem dX3_claimAge_17 : decode cX3_claimAge 17 = .ok (.ifCond .ne 11, 3) := by decide +kernel
theorem dX3_claimAge_20 : decode cX3_claimAge 20 = .ok (.aload 4, 2) := by decide +kernel
theorem dX3_claimAge_22 : decode cX3_claimAge 22 = .ok (.getfield 143, 3) := by decide +kernel
theorem dX3_claimAge_25 : decode cX3_claimAge 25 = .ok (.ifCond .eq 13, 3) := by decide +kernel
theorem dX3_claimAge_28 : decode cX3_claimAge 28 = .ok (.new 45, 3) := by decide +kernel
theorem dX3_claimAge_31 : decode cX3_claimAge 31 = .ok (.dup, 1) := by decide +kernel
theorem dX3_claimAge_32 : decode cX3_claimAge 32 = .ok (.ldc 146, 2) := by decide +kernel
theorem dX3_claimAge_34 : decode cX3_claimAge 34 = .ok (.invokespecial 49, 3) := by decide +kernel
theorem dX3_claimAge_37 : decode cX3_claimAge 37 = .ok (.athrow, 1) := by decide +kernel
theorem dX3_claimAge_38 : decode cX3_claimAge 38 = .ok (.aload_n 3, 1) := by decide +kernel
theorem dX3_claimAge_39 : decode cX3_claimAge 39 = .ok (.getfield 148, 3) := by decide +kernel
theorem dX3_claimAge_42 : decode cX3_claimAge 42 = .ok (.aload 4, 2) := by decide +kernel
theorem dX3_claimAge_44 : decode cX3_claimAge 44 = .ok (.getfield 148, 3) := by decide +kernel
theorem dX3_claimAge_47 : decode cX3_claimAge 47 = .ok (.if_icmp .ne 15, 3) := by decide +kernel
theorem dX3_claimAge_50 : decode cX3_claimAge 50 = .ok (.aload_n 3, 1) := by decide +kernel
theorem dX3_claimAge_51 : decode cX3_claimAge 51 = .ok (.getfield 151, 3) := by decide +kernel
theorem dX3_claimAge_54 : decode cX3_claimAge 54 = .ok (.aload 4, 2) := by decide +kernel
theorem dX3_claimAge_56 : decode cX3_claimAge 56 = .ok (.getfield 151, 3) := by decide +kernel
theorem dX3_claimAge_59 : decode cX3_claimAge 59 = .ok (.if_icmp .ne 13, 3) := by decide +kernel
theorem dX3_claimAge_62 : decode cX3_claimAge 62 = .ok (.new 45, 3) := by decide +kernel
theorem dX3_claimAge_65 : decode cX3_claimAge 65 = .ok (.dup, 1) := by decide +kernel
theorem dX3_claimAge_66 : decode cX3_claimAge 66 = .ok (.ldc 154, 2) := by decide +kernel
theorem dX3_claimAge_68 : decode cX3_claimAge 68 = .ok (.invokespecial 49, 3) := by decide +kernel
theorem dX3_claimAge_71 : decode cX3_claimAge 71 = .ok (.athrow, 1) := by decide +kernel
theorem dX3_claimAge_72 : decode cX3_claimAge 72 = .ok (.aload_n 0, 1) := by decide +kernel
theorem dX3_claimAge_73 : decode cX3_claimAge 73 = .ok (.invokevirtual 112, 3) := by decide +kernel
theorem dX3_claimAge_76 : decode cX3_claimAge 76 = .ok (.aload_n 3, 1) := by decide +kernel
theorem dX3_claimAge_77 : decode cX3_claimAge 77 = .ok (.getfield 156, 3) := by decide +kernel
theorem dX3_claimAge_80 : decode cX3_claimAge 80 = .ok (.ifCond .eq 11, 3) := by decide +kernel
theorem dX3_claimAge_83 : decode cX3_claimAge 83 = .ok (.aload 4, 2) := by decide +kernel
theorem dX3_claimAge_85 : decode cX3_claimAge 85 = .ok (.getfield 156, 3) := by decide +kernel
theorem dX3_claimAge_88 : decode cX3_claimAge 88 = .ok (.ifCond .ne 13, 3) := by decide +kernel
theorem dX3_claimAge_91 : decode cX3_claimAge 91 = .ok (.new 55, 3) := by decide +kernel
theorem dX3_claimAge_94 : decode cX3_claimAge 94 = .ok (.dup, 1) := by decide +kernel
theorem dX3_claimAge_95 : decode cX3_claimAge 95 = .ok (.ldc 160, 2) := by decide +kernel
theorem dX3_claimAge_97 : decode cX3_claimAge 97 = .ok (.invokespecial 59, 3) := by decide +kernel
theorem dX3_claimAge_100 : decode cX3_claimAge 100 = .ok (.athrow, 1) := by decide +kernel
theorem dX3_claimAge_101 : decode cX3_claimAge 101 = .ok (.new 28, 3) := by decide +kernel
theorem dX3_claimAge_104 : decode cX3_claimAge 104 = .ok (.dup, 1) := by decide +kernel
theorem dX3_claimAge_105 : decode cX3_claimAge 105 = .ok (.iconst 1, 1) := by decide +kernel
theorem dX3_claimAge_106 : decode cX3_claimAge 106 = .ok (.aload_n 3, 1) := by decide +kernel
theorem dX3_claimAge_107 : decode cX3_claimAge 107 = .ok (.getfield 148, 3) := by decide +kernel
theorem dX3_claimAge_110 : decode cX3_claimAge 110 = .ok (.aload_n 3, 1) := by decide +kernel
theorem dX3_claimAge_111 : decode cX3_claimAge 111 = .ok (.getfield 151, 3) := by decide +kernel
theorem dX3_claimAge_114 : decode cX3_claimAge 114 = .ok (.invokespecial 121, 3) := by decide +kernel
theorem dX3_claimAge_117 : decode cX3_claimAge 117 = .ok (.astore 5, 2) := by decide +kernel
theorem dX3_claimAge_119 : decode cX3_claimAge 119 = .ok (.aload 5, 2) := by decide +kernel
theorem dX3_claimAge_121 : decode cX3_claimAge 121 = .ok (.aload_n 0, 1) := by decide +kernel
theorem dX3_claimAge_122 : decode cX3_claimAge 122 = .ok (.ldc 162, 2) := by decide +kernel
theorem dX3_claimAge_124 : decode cX3_claimAge 124 = .ok (.aload_n 3, 1) := by decide +kernel
theorem dX3_claimAge_125 : decode cX3_claimAge 125 = .ok (.getfield 151, 3) := by decide +kernel
theorem dX3_claimAge_128 : decode cX3_claimAge 128 = .ok (.aload 4, 2) := by decide +kernel
theorem dX3_claimAge_130 : decode cX3_claimAge 130 = .ok (.getfield 151, 3) := by decide +kernel
theorem dX3_claimAge_133 : decode cX3_claimAge 133 = .ok (.isub, 1) := by decide +kernel
theorem dX3_claimAge_134 : decode cX3_claimAge 134 = .ok (.invokestatic 163, 3) := by decide +kernel
theorem dX3_claimAge_137 : decode cX3_claimAge 137 = .ok (.imul, 1) := by decide +kernel
theorem dX3_claimAge_138 : decode cX3_claimAge 138 = .ok (.invokevirtual 169, 3) := by decide +kernel
theorem dX3_claimAge_141 : decode cX3_claimAge 141 = .ok (.putfield 172, 3) := by decide +kernel
theorem dX3_claimAge_144 : decode cX3_claimAge 144 = .ok (.aload 5, 2) := by decide +kernel
theorem dX3_claimAge_146 : decode cX3_claimAge 146 = .ok (.iload_n 1, 1) := by decide +kernel
theorem dX3_claimAge_147 : decode cX3_claimAge 147 = .ok (.invokestatic 175, 3) := by decide +kernel
theorem dX3_claimAge_150 : decode cX3_claimAge 150 = .ok (.iload_n 2, 1) := by decide +kernel
theorem dX3_claimAge_151 : decode cX3_claimAge 151 = .ok (.invokestatic 175, 3) := by decide +kernel
theorem dX3_claimAge_154 : decode cX3_claimAge 154 = .ok (.lor, 1) := by decide +kernel
theorem dX3_claimAge_155 : decode cX3_claimAge 155 = .ok (.putfield 178, 3) := by decide +kernel
theorem dX3_claimAge_158 : decode cX3_claimAge 158 = .ok (.aload_n 0, 1) := by decide +kernel
theorem dX3_claimAge_159 : decode cX3_claimAge 159 = .ok (.aload 5, 2) := by decide +kernel
theorem dX3_claimAge_161 : decode cX3_claimAge 161 = .ok (.invokevirtual 135, 3) := by decide +kernel
theorem dX3_claimAge_164 : decode cX3_claimAge 164 = .ok (.ireturn, 1) := by decide +kernel
theorem dX3_claimPlanet_0 : decode cX3_claimPlanet 0 = .ok (.aload_n 0, 1) := by decide +kernel
theorem dX3_claimPlanet_1 : decode cX3_claimPlanet 1 = .ok (.iload_n 1, 1) := by decide +kernel
theorem dX3_claimPlanet_2 : decode cX3_claimPlanet 2 = .ok (.invokevirtual 139, 3) := by decide +kernel
theorem dX3_claimPlanet_5 : decode cX3_claimPlanet 5 = .ok (.astore_n 2, 1) := by decide +kernel
theorem dX3_claimPlanet_6 : decode cX3_claimPlanet 6 = .ok (.aload_n 2, 1) := by decide +kernel
theorem dX3_claimPlanet_7 : decode cX3_claimPlanet 7 = .ok (.getfield 143, 3) := by decide +kernel
theorem dX3_claimPlanet_10 : decode cX3_claimPlanet 10 = .ok (.ifCond .eq 13, 3) := by decide +kernel
theorem dX3_claimPlanet_13 : decode cX3_claimPlanet 13 = .ok (.new 45, 3) := by decide +kernel
theorem dX3_claimPlanet_16 : decode cX3_claimPlanet 16 = .ok (.dup, 1) := by decide +kernel
theorem dX3_claimPlanet_17 : decode cX3_claimPlanet 17 = .ok (.ldc 181, 2) := by decide +kernel
theorem dX3_claimPlanet_19 : decode cX3_claimPlanet 19 = .ok (.invokespecial 49, 3) := by decide +kernel
theorem dX3_claimPlanet_22 : decode cX3_claimPlanet 22 = .ok (.athrow, 1) := by decide +kernel
theorem dX3_claimPlanet_23 : decode cX3_claimPlanet 23 = .ok (.aload_n 0, 1) := by decide +kernel
theorem dX3_claimPlanet_24 : decode cX3_claimPlanet 24 = .ok (.invokevirtual 112, 3) := by decide +kernel
theorem dX3_claimPlanet_27 : decode cX3_claimPlanet 27 = .ok (.aload_n 2, 1) := by decide +kernel
theorem dX3_claimPlanet_28 : decode cX3_claimPlanet 28 = .ok (.getfield 156, 3) := by decide +kernel
theorem dX3_claimPlanet_31 : decode cX3_claimPlanet 31 = .ok (.ifCond .ne 13, 3) := by decide +kernel
theorem dX3_claimPlanet_34 : decode cX3_claimPlanet 34 = .ok (.new 55, 3) := by decide +kernel
theorem dX3_claimPlanet_37 : decode cX3_claimPlanet 37 = .ok (.dup, 1) := by decide +kernel
theorem dX3_claimPlanet_38 : decode cX3_claimPlanet 38 = .ok (.ldc 183, 2) := by decide +kernel
theorem dX3_claimPlanet_40 : decode cX3_claimPlanet 40 = .ok (.invokespecial 59, 3) := by decide +kernel
theorem dX3_claimPlanet_43 : decode cX3_claimPlanet 43 = .ok (.athrow, 1) := by decide +kernel
theorem dX3_claimPlanet_44 : decode cX3_claimPlanet 44 = .ok (.new 28, 3) := by decide +kernel
theorem dX3_claimPlanet_47 : decode cX3_claimPlanet 47 = .ok (.dup, 1) := by decide +kernel
theorem dX3_claimPlanet_48 : decode cX3_claimPlanet 48 = .ok (.iconst 2, 1) := by decide +kernel
theorem dX3_claimPlanet_49 : decode cX3_claimPlanet 49 = .ok (.aload_n 2, 1) := by decide +kernel
theorem dX3_claimPlanet_50 : decode cX3_claimPlanet 50 = .ok (.getfield 148, 3) := by decide +kernel
theorem dX3_claimPlanet_53 : decode cX3_claimPlanet 53 = .ok (.aload_n 2, 1) := by decide +kernel
theorem dX3_claimPlanet_54 : decode cX3_claimPlanet 54 = .ok (.getfield 151, 3) := by decide +kernel
theorem dX3_claimPlanet_57 : decode cX3_claimPlanet 57 = .ok (.invokespecial 121, 3) := by decide +kernel
theorem dX3_claimPlanet_60 : decode cX3_claimPlanet 60 = .ok (.astore_n 3, 1) := by decide +kernel
theorem dX3_claimPlanet_61 : decode cX3_claimPlanet 61 = .ok (.aload_n 3, 1) := by decide +kernel
theorem dX3_claimPlanet_62 : decode cX3_claimPlanet 62 = .ok (.iload_n 1, 1) := by decide +kernel
theorem dX3_claimPlanet_63 : decode cX3_claimPlanet 63 = .ok (.invokestatic 175, 3) := by decide +kernel
theorem dX3_claimPlanet_66 : decode cX3_claimPlanet 66 = .ok (.putfield 178, 3) := by decide +kernel
theorem dX3_claimPlanet_69 : decode cX3_claimPlanet 69 = .ok (.aload_n 0, 1) := by decide +kernel
theorem dX3_claimPlanet_70 : decode cX3_claimPlanet 70 = .ok (.aload_n 3, 1) := by decide +kernel
theorem dX3_claimPlanet_71 : decode cX3_claimPlanet 71 = .ok (.invokevirtual 135, 3) := by decide +kernel
theorem dX3_claimPlanet_74 : decode cX3_claimPlanet 74 = .ok (.ireturn, 1) := by decide +kernel
theorem dX3_cite_0 : decode cX3_cite 0 = .ok (.aload_n 0, 1) := by decide +kernel
theorem dX3_cite_1 : decode cX3_cite 1 = .ok (.iload_n 1, 1) := by decide +kernel
theorem dX3_cite_2 : decode cX3_cite 2 = .ok (.invokevirtual 139, 3) := by decide +kernel
theorem dX3_cite_5 : decode cX3_cite 5 = .ok (.astore_n 3, 1) := by decide +kernel
theorem dX3_cite_6 : decode cX3_cite 6 = .ok (.aload_n 0, 1) := by decide +kernel
theorem dX3_cite_7 : decode cX3_cite 7 = .ok (.iload_n 2, 1) := by decide +kernel
theorem dX3_cite_8 : decode cX3_cite 8 = .ok (.invokevirtual 139, 3) := by decide +kernel
theorem dX3_cite_11 : decode cX3_cite 11 = .ok (.astore 4, 2) := by decide +kernel
theorem dX3_cite_13 : decode cX3_cite 13 = .ok (.iload_n 2, 1) := by decide +kernel
theorem dX3_cite_14 : decode cX3_cite 14 = .ok (.iload_n 1, 1) := by decide +kernel
theorem dX3_cite_15 : decode cX3_cite 15 = .ok (.if_icmp .lt 13, 3) := by decide +kernel
theorem dX3_cite_18 : decode cX3_cite 18 = .ok (.new 45, 3) := by decide +kernel
theorem dX3_cite_21 : decode cX3_cite 21 = .ok (.dup, 1) := by decide +kernel
theorem dX3_cite_22 : decode cX3_cite 22 = .ok (.ldc 185, 2) := by decide +kernel
theorem dX3_cite_24 : decode cX3_cite 24 = .ok (.invokespecial 49, 3) := by decide +kernel
theorem dX3_cite_27 : decode cX3_cite 27 = .ok (.athrow, 1) := by decide +kernel
theorem dX3_cite_28 : decode cX3_cite 28 = .ok (.aload_n 3, 1) := by decide +kernel
theorem dX3_cite_29 : decode cX3_cite 29 = .ok (.getfield 156, 3) := by decide +kernel
theorem dX3_cite_32 : decode cX3_cite 32 = .ok (.ifCond .eq 25, 3) := by decide +kernel
theorem dX3_cite_35 : decode cX3_cite 35 = .ok (.aload 4, 2) := by decide +kernel
theorem dX3_cite_37 : decode cX3_cite 37 = .ok (.getfield 156, 3) := by decide +kernel
theorem dX3_cite_40 : decode cX3_cite 40 = .ok (.ifCond .eq 17, 3) := by decide +kernel
theorem dX3_cite_43 : decode cX3_cite 43 = .ok (.aload_n 3, 1) := by decide +kernel
theorem dX3_cite_44 : decode cX3_cite 44 = .ok (.getfield 178, 3) := by decide +kernel
theorem dX3_cite_47 : decode cX3_cite 47 = .ok (.iload_n 2, 1) := by decide +kernel
theorem dX3_cite_48 : decode cX3_cite 48 = .ok (.invokestatic 175, 3) := by decide +kernel
theorem dX3_cite_51 : decode cX3_cite 51 = .ok (.land, 1) := by decide +kernel
theorem dX3_cite_52 : decode cX3_cite 52 = .ok (.lconst 0, 1) := by decide +kernel
theorem dX3_cite_53 : decode cX3_cite 53 = .ok (.lcmp, 1) := by decide +kernel
theorem dX3_cite_54 : decode cX3_cite 54 = .ok (.ifCond .eq 13, 3) := by decide +kernel
theorem dX3_cite_57 : decode cX3_cite 57 = .ok (.new 55, 3) := by decide +kernel
theorem dX3_cite_60 : decode cX3_cite 60 = .ok (.dup, 1) := by decide +kernel
theorem dX3_cite_61 : decode cX3_cite 61 = .ok (.ldc 187, 2) := by decide +kernel
theorem dX3_cite_63 : decode cX3_cite 63 = .ok (.invokespecial 59, 3) := by decide +kernel
theorem dX3_cite_66 : decode cX3_cite 66 = .ok (.athrow, 1) := by decide +kernel
theorem dX3_cite_67 : decode cX3_cite 67 = .ok (.aload_n 3, 1) := by decide +kernel
theorem dX3_cite_68 : decode cX3_cite 68 = .ok (.dup, 1) := by decide +kernel
theorem dX3_cite_69 : decode cX3_cite 69 = .ok (.getfield 178, 3) := by decide +kernel
theorem dX3_cite_72 : decode cX3_cite 72 = .ok (.iload_n 2, 1) := by decide +kernel
theorem dX3_cite_73 : decode cX3_cite 73 = .ok (.invokestatic 175, 3) := by decide +kernel
theorem dX3_cite_76 : decode cX3_cite 76 = .ok (.lor, 1) := by decide +kernel
theorem dX3_cite_77 : decode cX3_cite 77 = .ok (.putfield 178, 3) := by decide +kernel
theorem dX3_cite_80 : decode cX3_cite 80 = .ok (.aload_n 3, 1) := by decide +kernel
theorem dX3_cite_81 : decode cX3_cite 81 = .ok (.getfield 178, 3) := by decide +kernel
theorem dX3_cite_84 : decode cX3_cite 84 = .ok (.invokestatic 189, 3) := by decide +kernel
theorem dX3_cite_87 : decode cX3_cite 87 = .ok (.ireturn, 1) := by decide +kernel
theorem dX3_withdraw_0 : decode cX3_withdraw 0 = .ok (.aload_n 0, 1) := by decide +kernel
theorem dX3_withdraw_1 : decode cX3_withdraw 1 = .ok (.iload_n 1, 1) := by decide +kernel
theorem dX3_withdraw_2 : decode cX3_withdraw 2 = .ok (.invokevirtual 139, 3) := by decide +kernel
theorem dX3_withdraw_5 : decode cX3_withdraw 5 = .ok (.getfield 156, 3) := by decide +kernel
theorem dX3_withdraw_8 : decode cX3_withdraw 8 = .ok (.ifCond .ne 13, 3) := by decide +kernel
theorem dX3_withdraw_11 : decode cX3_withdraw 11 = .ok (.new 55, 3) := by decide +kernel
theorem dX3_withdraw_14 : decode cX3_withdraw 14 = .ok (.dup, 1) := by decide +kernel
theorem dX3_withdraw_15 : decode cX3_withdraw 15 = .ok (.ldc 183, 2) := by decide +kernel
theorem dX3_withdraw_17 : decode cX3_withdraw 17 = .ok (.invokespecial 59, 3) := by decide +kernel
theorem dX3_withdraw_20 : decode cX3_withdraw 20 = .ok (.athrow, 1) := by decide +kernel
theorem dX3_withdraw_21 : decode cX3_withdraw 21 = .ok (.aload_n 0, 1) := by decide +kernel
theorem dX3_withdraw_22 : decode cX3_withdraw 22 = .ok (.iload_n 1, 1) := by decide +kernel
theorem dX3_withdraw_23 : decode cX3_withdraw 23 = .ok (.invokestatic 175, 3) := by decide +kernel
theorem dX3_withdraw_26 : decode cX3_withdraw 26 = .ok (.invokevirtual 195, 3) := by decide +kernel
theorem dX3_withdraw_29 : decode cX3_withdraw 29 = .ok (.ireturn, 1) := by decide +kernel
theorem dX3_audit_0 : decode cX3_audit 0 = .ok (.lconst 0, 1) := by decide +kernel
theorem dX3_audit_1 : decode cX3_audit 1 = .ok (.lstore_n 1, 1) := by decide +kernel
theorem dX3_audit_2 : decode cX3_audit 2 = .ok (.iconst 0, 1) := by decide +kernel
theorem dX3_audit_3 : decode cX3_audit 3 = .ok (.istore_n 3, 1) := by decide +kernel
theorem dX3_audit_4 : decode cX3_audit 4 = .ok (.iload_n 3, 1) := by decide +kernel
theorem dX3_audit_5 : decode cX3_audit 5 = .ok (.aload_n 0, 1) := by decide +kernel
theorem dX3_audit_6 : decode cX3_audit 6 = .ok (.getfield 198, 3) := by decide +kernel
theorem dX3_audit_9 : decode cX3_audit 9 = .ok (.if_icmp .ge 46, 3) := by decide +kernel
theorem dX3_audit_12 : decode cX3_audit 12 = .ok (.aload_n 0, 1) := by decide +kernel
theorem dX3_audit_13 : decode cX3_audit 13 = .ok (.getfield 30, 3) := by decide +kernel
theorem dX3_audit_16 : decode cX3_audit 16 = .ok (.iload_n 3, 1) := by decide +kernel
theorem dX3_audit_17 : decode cX3_audit 17 = .ok (.aaload, 1) := by decide +kernel
theorem dX3_audit_18 : decode cX3_audit 18 = .ok (.astore 4, 2) := by decide +kernel
theorem dX3_audit_20 : decode cX3_audit 20 = .ok (.aload 4, 2) := by decide +kernel
theorem dX3_audit_22 : decode cX3_audit 22 = .ok (.ifnull 27, 3) := by decide +kernel
theorem dX3_audit_25 : decode cX3_audit 25 = .ok (.aload 4, 2) := by decide +kernel
theorem dX3_audit_27 : decode cX3_audit 27 = .ok (.getfield 156, 3) := by decide +kernel
theorem dX3_audit_30 : decode cX3_audit 30 = .ok (.ifCond .eq 19, 3) := by decide +kernel
theorem dX3_audit_33 : decode cX3_audit 33 = .ok (.aload_n 0, 1) := by decide +kernel
theorem dX3_audit_34 : decode cX3_audit 34 = .ok (.aload 4, 2) := by decide +kernel
theorem dX3_audit_36 : decode cX3_audit 36 = .ok (.invokevirtual 201, 3) := by decide +kernel
theorem dX3_audit_39 : decode cX3_audit 39 = .ok (.ifCond .ne 10, 3) := by decide +kernel
theorem dX3_audit_42 : decode cX3_audit 42 = .ok (.lload_n 1, 1) := by decide +kernel
theorem dX3_audit_43 : decode cX3_audit 43 = .ok (.iload_n 3, 1) := by decide +kernel
theorem dX3_audit_44 : decode cX3_audit 44 = .ok (.invokestatic 175, 3) := by decide +kernel
theorem dX3_audit_47 : decode cX3_audit 47 = .ok (.lor, 1) := by decide +kernel
theorem dX3_audit_48 : decode cX3_audit 48 = .ok (.lstore_n 1, 1) := by decide +kernel
theorem dX3_audit_49 : decode cX3_audit 49 = .ok (.iinc 3 1, 3) := by decide +kernel
theorem dX3_audit_52 : decode cX3_audit 52 = .ok (.goto (-48), 3) := by decide +kernel
theorem dX3_audit_55 : decode cX3_audit 55 = .ok (.aload_n 0, 1) := by decide +kernel
theorem dX3_audit_56 : decode cX3_audit 56 = .ok (.lload_n 1, 1) := by decide +kernel
theorem dX3_audit_57 : decode cX3_audit 57 = .ok (.invokevirtual 195, 3) := by decide +kernel
theorem dX3_audit_60 : decode cX3_audit 60 = .ok (.ireturn, 1) := by decide +kernel
theorem dX3_ofStar_0 : decode cX3_ofStar 0 = .ok (.aload_n 0, 1) := by decide +kernel
theorem dX3_ofStar_1 : decode cX3_ofStar 1 = .ok (.iload_n 1, 1) := by decide +kernel
theorem dX3_ofStar_2 : decode cX3_ofStar 2 = .ok (.invokevirtual 75, 3) := by decide +kernel
theorem dX3_ofStar_5 : decode cX3_ofStar 5 = .ok (.astore_n 3, 1) := by decide +kernel
theorem dX3_ofStar_6 : decode cX3_ofStar 6 = .ok (.iload_n 2, 1) := by decide +kernel
theorem dX3_ofStar_7 : decode cX3_ofStar 7 = .ok (.tableswitch 67 0 5 #[37, 42, 47, 52, 57, 62], 37) := by decide +kernel
theorem dX3_ofStar_44 : decode cX3_ofStar 44 = .ok (.aload_n 3, 1) := by decide +kernel
theorem dX3_ofStar_45 : decode cX3_ofStar 45 = .ok (.getfield 205, 3) := by decide +kernel
theorem dX3_ofStar_48 : decode cX3_ofStar 48 = .ok (.ireturn, 1) := by decide +kernel
theorem dX3_ofStar_49 : decode cX3_ofStar 49 = .ok (.aload_n 3, 1) := by decide +kernel
theorem dX3_ofStar_50 : decode cX3_ofStar 50 = .ok (.getfield 206, 3) := by decide +kernel
theorem dX3_ofStar_53 : decode cX3_ofStar 53 = .ok (.ireturn, 1) := by decide +kernel
theorem dX3_ofStar_54 : decode cX3_ofStar 54 = .ok (.aload_n 3, 1) := by decide +kernel
theorem dX3_ofStar_55 : decode cX3_ofStar 55 = .ok (.getfield 209, 3) := by decide +kernel
theorem dX3_ofStar_58 : decode cX3_ofStar 58 = .ok (.ireturn, 1) := by decide +kernel
theorem dX3_ofStar_59 : decode cX3_ofStar 59 = .ok (.aload_n 3, 1) := by decide +kernel
theorem dX3_ofStar_60 : decode cX3_ofStar 60 = .ok (.getfield 212, 3) := by decide +kernel
theorem dX3_ofStar_63 : decode cX3_ofStar 63 = .ok (.ireturn, 1) := by decide +kernel
theorem dX3_ofStar_64 : decode cX3_ofStar 64 = .ok (.aload_n 3, 1) := by decide +kernel
theorem dX3_ofStar_65 : decode cX3_ofStar 65 = .ok (.getfield 215, 3) := by decide +kernel
theorem dX3_ofStar_68 : decode cX3_ofStar 68 = .ok (.ireturn, 1) := by decide +kernel
theorem dX3_ofStar_69 : decode cX3_ofStar 69 = .ok (.aload_n 3, 1) := by decide +kernel
theorem dX3_ofStar_70 : decode cX3_ofStar 70 = .ok (.getfield 218, 3) := by decide +kernel
theorem dX3_ofStar_73 : decode cX3_ofStar 73 = .ok (.ireturn, 1) := by decide +kernel
theorem dX3_ofStar_74 : decode cX3_ofStar 74 = .ok (.new 45, 3) := by decide +kernel
theorem dX3_ofStar_77 : decode cX3_ofStar 77 = .ok (.dup, 1) := by decide +kernel
theorem dX3_ofStar_78 : decode cX3_ofStar 78 = .ok (.ldc 221, 2) := by decide +kernel
theorem dX3_ofStar_80 : decode cX3_ofStar 80 = .ok (.invokespecial 49, 3) := by decide +kernel
theorem dX3_ofStar_83 : decode cX3_ofStar 83 = .ok (.athrow, 1) := by decide +kernel
theorem dX3_crossingAnew_0 : decode cX3_crossingAnew 0 = .ok (.aload_n 0, 1) := by decide +kernel
theorem dX3_crossingAnew_1 : decode cX3_crossingAnew 1 = .ok (.iload_n 1, 1) := by decide +kernel
theorem dX3_crossingAnew_2 : decode cX3_crossingAnew 2 = .ok (.invokevirtual 75, 3) := by decide +kernel
theorem dX3_crossingAnew_5 : decode cX3_crossingAnew 5 = .ok (.invokevirtual 223, 3) := by decide +kernel
theorem dX3_crossingAnew_8 : decode cX3_crossingAnew 8 = .ok (.ireturn, 1) := by decide +kernel
theorem dX3_tone_0 : decode cX3_tone 0 = .ok (.aload_n 0, 1) := by decide +kernel
theorem dX3_tone_1 : decode cX3_tone 1 = .ok (.iload_n 1, 1) := by decide +kernel
theorem dX3_tone_2 : decode cX3_tone 2 = .ok (.invokevirtual 75, 3) := by decide +kernel
theorem dX3_tone_5 : decode cX3_tone 5 = .ok (.astore 5, 2) := by decide +kernel
theorem dX3_tone_7 : decode cX3_tone 7 = .ok (.iload_n 2, 1) := by decide +kernel
theorem dX3_tone_8 : decode cX3_tone 8 = .ok (.iconst 1, 1) := by decide +kernel
theorem dX3_tone_9 : decode cX3_tone 9 = .ok (.bipush 12, 2) := by decide +kernel
theorem dX3_tone_11 : decode cX3_tone 11 = .ok (.invokestatic 41, 3) := by decide +kernel
theorem dX3_tone_14 : decode cX3_tone 14 = .ok (.ifCond .ne 23, 3) := by decide +kernel
theorem dX3_tone_17 : decode cX3_tone 17 = .ok (.iload_n 3, 1) := by decide +kernel
theorem dX3_tone_18 : decode cX3_tone 18 = .ok (.iconst 0, 1) := by decide +kernel
theorem dX3_tone_19 : decode cX3_tone 19 = .ok (.iconst 3, 1) := by decide +kernel
theorem dX3_tone_20 : decode cX3_tone 20 = .ok (.invokestatic 41, 3) := by decide +kernel
theorem dX3_tone_23 : decode cX3_tone 23 = .ok (.ifCond .ne 14, 3) := by decide +kernel
theorem dX3_tone_26 : decode cX3_tone 26 = .ok (.iload 4, 2) := by decide +kernel
theorem dX3_tone_28 : decode cX3_tone 28 = .ok (.iload_n 3, 1) := by decide +kernel
theorem dX3_tone_29 : decode cX3_tone 29 = .ok (.ineg, 1) := by decide +kernel
theorem dX3_tone_30 : decode cX3_tone 30 = .ok (.iload_n 3, 1) := by decide +kernel
theorem dX3_tone_31 : decode cX3_tone 31 = .ok (.invokestatic 41, 3) := by decide +kernel
theorem dX3_tone_34 : decode cX3_tone 34 = .ok (.ifCond .eq 13, 3) := by decide +kernel
theorem dX3_tone_37 : decode cX3_tone 37 = .ok (.new 45, 3) := by decide +kernel
theorem dX3_tone_40 : decode cX3_tone 40 = .ok (.dup, 1) := by decide +kernel
theorem dX3_tone_41 : decode cX3_tone 41 = .ok (.ldc 227, 2) := by decide +kernel
theorem dX3_tone_43 : decode cX3_tone 43 = .ok (.invokespecial 49, 3) := by decide +kernel
theorem dX3_tone_46 : decode cX3_tone 46 = .ok (.athrow, 1) := by decide +kernel
theorem dX3_tone_47 : decode cX3_tone 47 = .ok (.aload 5, 2) := by decide +kernel
theorem dX3_tone_49 : decode cX3_tone 49 = .ok (.iload_n 2, 1) := by decide +kernel
theorem dX3_tone_50 : decode cX3_tone 50 = .ok (.iload_n 3, 1) := by decide +kernel
theorem dX3_tone_51 : decode cX3_tone 51 = .ok (.iload 4, 2) := by decide +kernel
theorem dX3_tone_53 : decode cX3_tone 53 = .ok (.invokevirtual 229, 3) := by decide +kernel
theorem dX3_tone_56 : decode cX3_tone 56 = .ok (.ireturn, 1) := by decide +kernel
theorem dX3_frames_0 : decode cX3_frames 0 = .ok (.aload_n 0, 1) := by decide +kernel
theorem dX3_frames_1 : decode cX3_frames 1 = .ok (.getfield 37, 3) := by decide +kernel
theorem dX3_frames_4 : decode cX3_frames 4 = .ok (.aload_n 0, 1) := by decide +kernel
theorem dX3_frames_5 : decode cX3_frames 5 = .ok (.iload_n 1, 1) := by decide +kernel
theorem dX3_frames_6 : decode cX3_frames 6 = .ok (.invokevirtual 75, 3) := by decide +kernel
theorem dX3_frames_9 : decode cX3_frames 9 = .ok (.aload_n 0, 1) := by decide +kernel
theorem dX3_frames_10 : decode cX3_frames 10 = .ok (.getfield 20, 3) := by decide +kernel
theorem dX3_frames_13 : decode cX3_frames 13 = .ok (.invokevirtual 233, 3) := by decide +kernel
theorem dX3_frames_16 : decode cX3_frames 16 = .ok (.aload_n 0, 1) := by decide +kernel
theorem dX3_frames_17 : decode cX3_frames 17 = .ok (.getfield 37, 3) := by decide +kernel
theorem dX3_frames_20 : decode cX3_frames 20 = .ok (.getfield 237, 3) := by decide +kernel
theorem dX3_frames_23 : decode cX3_frames 23 = .ok (.ireturn, 1) := by decide +kernel
theorem dX3_value_0 : decode cX3_value 0 = .ok (.aload_n 0, 1) := by decide +kernel
theorem dX3_value_1 : decode cX3_value 1 = .ok (.iload_n 1, 1) := by decide +kernel
theorem dX3_value_2 : decode cX3_value 2 = .ok (.invokevirtual 75, 3) := by decide +kernel
theorem dX3_value_5 : decode cX3_value 5 = .ok (.astore 4, 2) := by decide +kernel
theorem dX3_value_7 : decode cX3_value 7 = .ok (.iload_n 2, 1) := by decide +kernel
theorem dX3_value_8 : decode cX3_value 8 = .ok (.invokestatic 109, 3) := by decide +kernel
theorem dX3_value_11 : decode cX3_value 11 = .ok (.iload_n 3, 1) := by decide +kernel
theorem dX3_value_12 : decode cX3_value 12 = .ok (.invokestatic 82, 3) := by decide +kernel
theorem dX3_value_15 : decode cX3_value 15 = .ok (.aload_n 0, 1) := by decide +kernel
theorem dX3_value_16 : decode cX3_value 16 = .ok (.getfield 37, 3) := by decide +kernel
theorem dX3_value_19 : decode cX3_value 19 = .ok (.aload 4, 2) := by decide +kernel
theorem dX3_value_21 : decode cX3_value 21 = .ok (.aload_n 0, 1) := by decide +kernel
theorem dX3_value_22 : decode cX3_value 22 = .ok (.getfield 20, 3) := by decide +kernel
theorem dX3_value_25 : decode cX3_value 25 = .ok (.iload_n 2, 1) := by decide +kernel
theorem dX3_value_26 : decode cX3_value 26 = .ok (.aload 4, 2) := by decide +kernel
theorem dX3_value_28 : decode cX3_value 28 = .ok (.getfield 101, 3) := by decide +kernel
theorem dX3_value_31 : decode cX3_value 31 = .ok (.invokevirtual 240, 3) := by decide +kernel
theorem dX3_value_34 : decode cX3_value 34 = .ok (.aload_n 0, 1) := by decide +kernel
theorem dX3_value_35 : decode cX3_value 35 = .ok (.getfield 37, 3) := by decide +kernel
theorem dX3_value_38 : decode cX3_value 38 = .ok (.iload_n 3, 1) := by decide +kernel
theorem dX3_value_39 : decode cX3_value 39 = .ok (.invokevirtual 244, 3) := by decide +kernel
theorem dX3_value_42 : decode cX3_value 42 = .ok (.l2i, 1) := by decide +kernel
theorem dX3_value_43 : decode cX3_value 43 = .ok (.ireturn, 1) := by decide +kernel
theorem dX3_power_0 : decode cX3_power 0 = .ok (.aload_n 0, 1) := by decide +kernel
theorem dX3_power_1 : decode cX3_power 1 = .ok (.iload_n 1, 1) := by decide +kernel
theorem dX3_power_2 : decode cX3_power 2 = .ok (.invokevirtual 75, 3) := by decide +kernel
theorem dX3_power_5 : decode cX3_power 5 = .ok (.astore 4, 2) := by decide +kernel
theorem dX3_power_7 : decode cX3_power 7 = .ok (.iload_n 2, 1) := by decide +kernel
theorem dX3_power_8 : decode cX3_power 8 = .ok (.invokestatic 109, 3) := by decide +kernel
theorem dX3_power_11 : decode cX3_power 11 = .ok (.iload_n 3, 1) := by decide +kernel
theorem dX3_power_12 : decode cX3_power 12 = .ok (.invokestatic 247, 3) := by decide +kernel
theorem dX3_power_15 : decode cX3_power 15 = .ok (.aload_n 0, 1) := by decide +kernel
theorem dX3_power_16 : decode cX3_power 16 = .ok (.getfield 37, 3) := by decide +kernel
theorem dX3_power_19 : decode cX3_power 19 = .ok (.aload 4, 2) := by decide +kernel
theorem dX3_power_21 : decode cX3_power 21 = .ok (.aload_n 0, 1) := by decide +kernel
theorem dX3_power_22 : decode cX3_power 22 = .ok (.getfield 20, 3) := by decide +kernel
theorem dX3_power_25 : decode cX3_power 25 = .ok (.iload_n 2, 1) := by decide +kernel
theorem dX3_power_26 : decode cX3_power 26 = .ok (.aload 4, 2) := by decide +kernel
theorem dX3_power_28 : decode cX3_power 28 = .ok (.getfield 101, 3) := by decide +kernel
theorem dX3_power_31 : decode cX3_power 31 = .ok (.invokevirtual 240, 3) := by decide +kernel
theorem dX3_power_34 : decode cX3_power 34 = .ok (.aload_n 0, 1) := by decide +kernel
theorem dX3_power_35 : decode cX3_power 35 = .ok (.getfield 37, 3) := by decide +kernel
theorem dX3_power_38 : decode cX3_power 38 = .ok (.iload_n 3, 1) := by decide +kernel
theorem dX3_power_39 : decode cX3_power 39 = .ok (.invokevirtual 127, 3) := by decide +kernel
theorem dX3_power_42 : decode cX3_power 42 = .ok (.lreturn, 1) := by decide +kernel
theorem dX3_window_0 : decode cX3_window 0 = .ok (.aload_n 0, 1) := by decide +kernel
theorem dX3_window_1 : decode cX3_window 1 = .ok (.iload_n 1, 1) := by decide +kernel
theorem dX3_window_2 : decode cX3_window 2 = .ok (.invokevirtual 75, 3) := by decide +kernel
theorem dX3_window_5 : decode cX3_window 5 = .ok (.astore_n 3, 1) := by decide +kernel
theorem dX3_window_6 : decode cX3_window 6 = .ok (.iload_n 2, 1) := by decide +kernel
theorem dX3_window_7 : decode cX3_window 7 = .ok (.invokestatic 247, 3) := by decide +kernel
theorem dX3_window_10 : decode cX3_window 10 = .ok (.aload_n 0, 1) := by decide +kernel
theorem dX3_window_11 : decode cX3_window 11 = .ok (.getfield 37, 3) := by decide +kernel
theorem dX3_window_14 : decode cX3_window 14 = .ok (.aload_n 3, 1) := by decide +kernel
theorem dX3_window_15 : decode cX3_window 15 = .ok (.aload_n 0, 1) := by decide +kernel
theorem dX3_window_16 : decode cX3_window 16 = .ok (.getfield 20, 3) := by decide +kernel
theorem dX3_window_19 : decode cX3_window 19 = .ok (.invokevirtual 233, 3) := by decide +kernel
theorem dX3_window_22 : decode cX3_window 22 = .ok (.aload_n 0, 1) := by decide +kernel
theorem dX3_window_23 : decode cX3_window 23 = .ok (.getfield 37, 3) := by decide +kernel
theorem dX3_window_26 : decode cX3_window 26 = .ok (.invokevirtual 250, 3) := by decide +kernel
theorem dX3_window_29 : decode cX3_window 29 = .ok (.aload_n 0, 1) := by decide +kernel
theorem dX3_window_30 : decode cX3_window 30 = .ok (.getfield 37, 3) := by decide +kernel
theorem dX3_window_33 : decode cX3_window 33 = .ok (.iload_n 2, 1) := by decide +kernel
theorem dX3_window_34 : decode cX3_window 34 = .ok (.invokevirtual 127, 3) := by decide +kernel
theorem dX3_window_37 : decode cX3_window 37 = .ok (.lreturn, 1) := by decide +kernel
theorem dX3_isPeak_0 : decode cX3_isPeak 0 = .ok (.aload_n 0, 1) := by decide +kernel
theorem dX3_isPeak_1 : decode cX3_isPeak 1 = .ok (.iload_n 1, 1) := by decide +kernel
theorem dX3_isPeak_2 : decode cX3_isPeak 2 = .ok (.invokevirtual 75, 3) := by decide +kernel
theorem dX3_isPeak_5 : decode cX3_isPeak 5 = .ok (.astore 4, 2) := by decide +kernel
theorem dX3_isPeak_7 : decode cX3_isPeak 7 = .ok (.iload_n 2, 1) := by decide +kernel
theorem dX3_isPeak_8 : decode cX3_isPeak 8 = .ok (.invokestatic 109, 3) := by decide +kernel
theorem dX3_isPeak_11 : decode cX3_isPeak 11 = .ok (.aload_n 0, 1) := by decide +kernel
theorem dX3_isPeak_12 : decode cX3_isPeak 12 = .ok (.aload 4, 2) := by decide +kernel
theorem dX3_isPeak_14 : decode cX3_isPeak 14 = .ok (.iload_n 2, 1) := by decide +kernel
theorem dX3_isPeak_15 : decode cX3_isPeak 15 = .ok (.iload_n 3, 1) := by decide +kernel
theorem dX3_isPeak_16 : decode cX3_isPeak 16 = .ok (.invokevirtual 115, 3) := by decide +kernel
theorem dX3_isPeak_19 : decode cX3_isPeak 19 = .ok (.ireturn, 1) := by decide +kernel
theorem dX3_isSeenThrough_0 : decode cX3_isSeenThrough 0 = .ok (.aload_n 0, 1) := by decide +kernel
theorem dX3_isSeenThrough_1 : decode cX3_isSeenThrough 1 = .ok (.iload_n 1, 1) := by decide +kernel
theorem dX3_isSeenThrough_2 : decode cX3_isSeenThrough 2 = .ok (.invokevirtual 75, 3) := by decide +kernel
theorem dX3_isSeenThrough_5 : decode cX3_isSeenThrough 5 = .ok (.astore 5, 2) := by decide +kernel
theorem dX3_isSeenThrough_7 : decode cX3_isSeenThrough 7 = .ok (.iload_n 2, 1) := by decide +kernel
theorem dX3_isSeenThrough_8 : decode cX3_isSeenThrough 8 = .ok (.invokestatic 109, 3) := by decide +kernel
theorem dX3_isSeenThrough_11 : decode cX3_isSeenThrough 11 = .ok (.iload_n 3, 1) := by decide +kernel
theorem dX3_isSeenThrough_12 : decode cX3_isSeenThrough 12 = .ok (.invokestatic 247, 3) := by decide +kernel
theorem dX3_isSeenThrough_15 : decode cX3_isSeenThrough 15 = .ok (.iload 4, 2) := by decide +kernel
theorem dX3_isSeenThrough_17 : decode cX3_isSeenThrough 17 = .ok (.invokestatic 247, 3) := by decide +kernel
theorem dX3_isSeenThrough_20 : decode cX3_isSeenThrough 20 = .ok (.iload_n 3, 1) := by decide +kernel
theorem dX3_isSeenThrough_21 : decode cX3_isSeenThrough 21 = .ok (.iload 4, 2) := by decide +kernel
theorem dX3_isSeenThrough_23 : decode cX3_isSeenThrough 23 = .ok (.if_icmp .ne 13, 3) := by decide +kernel
theorem dX3_isSeenThrough_26 : decode cX3_isSeenThrough 26 = .ok (.new 45, 3) := by decide +kernel
theorem dX3_isSeenThrough_29 : decode cX3_isSeenThrough 29 = .ok (.dup, 1) := by decide +kernel
theorem dX3_isSeenThrough_30 : decode cX3_isSeenThrough 30 = .ok (.ldc 253, 2) := by decide +kernel
theorem dX3_isSeenThrough_32 : decode cX3_isSeenThrough 32 = .ok (.invokespecial 49, 3) := by decide +kernel
theorem dX3_isSeenThrough_35 : decode cX3_isSeenThrough 35 = .ok (.athrow, 1) := by decide +kernel
theorem dX3_isSeenThrough_36 : decode cX3_isSeenThrough 36 = .ok (.aload_n 0, 1) := by decide +kernel
theorem dX3_isSeenThrough_37 : decode cX3_isSeenThrough 37 = .ok (.getfield 37, 3) := by decide +kernel
theorem dX3_isSeenThrough_40 : decode cX3_isSeenThrough 40 = .ok (.aload 5, 2) := by decide +kernel
theorem dX3_isSeenThrough_42 : decode cX3_isSeenThrough 42 = .ok (.aload_n 0, 1) := by decide +kernel
theorem dX3_isSeenThrough_43 : decode cX3_isSeenThrough 43 = .ok (.getfield 20, 3) := by decide +kernel
theorem dX3_isSeenThrough_46 : decode cX3_isSeenThrough 46 = .ok (.iload_n 2, 1) := by decide +kernel
theorem dX3_isSeenThrough_47 : decode cX3_isSeenThrough 47 = .ok (.aload 5, 2) := by decide +kernel
theorem dX3_isSeenThrough_49 : decode cX3_isSeenThrough 49 = .ok (.getfield 101, 3) := by decide +kernel
theorem dX3_isSeenThrough_52 : decode cX3_isSeenThrough 52 = .ok (.invokevirtual 240, 3) := by decide +kernel
theorem dX3_isSeenThrough_55 : decode cX3_isSeenThrough 55 = .ok (.aload_n 0, 1) := by decide +kernel
theorem dX3_isSeenThrough_56 : decode cX3_isSeenThrough 56 = .ok (.getfield 37, 3) := by decide +kernel
theorem dX3_isSeenThrough_59 : decode cX3_isSeenThrough 59 = .ok (.iload 4, 2) := by decide +kernel
theorem dX3_isSeenThrough_61 : decode cX3_isSeenThrough 61 = .ok (.invokevirtual 127, 3) := by decide +kernel
theorem dX3_isSeenThrough_64 : decode cX3_isSeenThrough 64 = .ok (.aload_n 0, 1) := by decide +kernel
theorem dX3_isSeenThrough_65 : decode cX3_isSeenThrough 65 = .ok (.getfield 37, 3) := by decide +kernel
theorem dX3_isSeenThrough_68 : decode cX3_isSeenThrough 68 = .ok (.iload_n 3, 1) := by decide +kernel
theorem dX3_isSeenThrough_69 : decode cX3_isSeenThrough 69 = .ok (.invokevirtual 127, 3) := by decide +kernel
theorem dX3_isSeenThrough_72 : decode cX3_isSeenThrough 72 = .ok (.lcmp, 1) := by decide +kernel
theorem dX3_isSeenThrough_73 : decode cX3_isSeenThrough 73 = .ok (.ifCond .gt 5, 3) := by decide +kernel
theorem dX3_isSeenThrough_76 : decode cX3_isSeenThrough 76 = .ok (.iconst 0, 1) := by decide +kernel
theorem dX3_isSeenThrough_77 : decode cX3_isSeenThrough 77 = .ok (.ireturn, 1) := by decide +kernel
theorem dX3_isSeenThrough_78 : decode cX3_isSeenThrough 78 = .ok (.aload_n 0, 1) := by decide +kernel
theorem dX3_isSeenThrough_79 : decode cX3_isSeenThrough 79 = .ok (.getfield 37, 3) := by decide +kernel
theorem dX3_isSeenThrough_82 : decode cX3_isSeenThrough 82 = .ok (.invokevirtual 250, 3) := by decide +kernel
theorem dX3_isSeenThrough_85 : decode cX3_isSeenThrough 85 = .ok (.aload_n 0, 1) := by decide +kernel
theorem dX3_isSeenThrough_86 : decode cX3_isSeenThrough 86 = .ok (.getfield 37, 3) := by decide +kernel
theorem dX3_isSeenThrough_89 : decode cX3_isSeenThrough 89 = .ok (.getfield 237, 3) := by decide +kernel
theorem dX3_isSeenThrough_92 : decode cX3_isSeenThrough 92 = .ok (.i2l, 1) := by decide +kernel
theorem dX3_isSeenThrough_93 : decode cX3_isSeenThrough 93 = .ok (.aload_n 0, 1) := by decide +kernel
theorem dX3_isSeenThrough_94 : decode cX3_isSeenThrough 94 = .ok (.getfield 37, 3) := by decide +kernel
theorem dX3_isSeenThrough_97 : decode cX3_isSeenThrough 97 = .ok (.getfield 237, 3) := by decide +kernel
theorem dX3_isSeenThrough_100 : decode cX3_isSeenThrough 100 = .ok (.i2l, 1) := by decide +kernel
theorem dX3_isSeenThrough_101 : decode cX3_isSeenThrough 101 = .ok (.lmul, 1) := by decide +kernel
theorem dX3_isSeenThrough_102 : decode cX3_isSeenThrough 102 = .ok (.lstore 6, 2) := by decide +kernel
theorem dX3_isSeenThrough_104 : decode cX3_isSeenThrough 104 = .ok (.ldc2_w 255, 3) := by decide +kernel
theorem dX3_isSeenThrough_107 : decode cX3_isSeenThrough 107 = .ok (.aload_n 0, 1) := by decide +kernel
theorem dX3_isSeenThrough_108 : decode cX3_isSeenThrough 108 = .ok (.getfield 37, 3) := by decide +kernel
theorem dX3_isSeenThrough_111 : decode cX3_isSeenThrough 111 = .ok (.iload_n 3, 1) := by decide +kernel
theorem dX3_isSeenThrough_112 : decode cX3_isSeenThrough 112 = .ok (.iload 4, 2) := by decide +kernel
theorem dX3_isSeenThrough_114 : decode cX3_isSeenThrough 114 = .ok (.isub, 1) := by decide +kernel
theorem dX3_isSeenThrough_115 : decode cX3_isSeenThrough 115 = .ok (.invokestatic 163, 3) := by decide +kernel
theorem dX3_isSeenThrough_118 : decode cX3_isSeenThrough 118 = .ok (.invokevirtual 127, 3) := by decide +kernel
theorem dX3_isSeenThrough_121 : decode cX3_isSeenThrough 121 = .ok (.lmul, 1) := by decide +kernel
theorem dX3_isSeenThrough_122 : decode cX3_isSeenThrough 122 = .ok (.lload 6, 2) := by decide +kernel
theorem dX3_isSeenThrough_124 : decode cX3_isSeenThrough 124 = .ok (.lcmp, 1) := by decide +kernel
theorem dX3_isSeenThrough_125 : decode cX3_isSeenThrough 125 = .ok (.ifCond .lt 7, 3) := by decide +kernel
theorem dX3_isSeenThrough_128 : decode cX3_isSeenThrough 128 = .ok (.iconst 1, 1) := by decide +kernel
theorem dX3_isSeenThrough_129 : decode cX3_isSeenThrough 129 = .ok (.goto 4, 3) := by decide +kernel
theorem dX3_isSeenThrough_132 : decode cX3_isSeenThrough 132 = .ok (.iconst 0, 1) := by decide +kernel
theorem dX3_isSeenThrough_133 : decode cX3_isSeenThrough 133 = .ok (.ireturn, 1) := by decide +kernel
theorem dX3_ofClaim_0 : decode cX3_ofClaim 0 = .ok (.aload_n 0, 1) := by decide +kernel
theorem dX3_ofClaim_1 : decode cX3_ofClaim 1 = .ok (.iload_n 1, 1) := by decide +kernel
theorem dX3_ofClaim_2 : decode cX3_ofClaim 2 = .ok (.invokevirtual 139, 3) := by decide +kernel
theorem dX3_ofClaim_5 : decode cX3_ofClaim 5 = .ok (.astore_n 3, 1) := by decide +kernel
theorem dX3_ofClaim_6 : decode cX3_ofClaim 6 = .ok (.iload_n 2, 1) := by decide +kernel
theorem dX3_ofClaim_7 : decode cX3_ofClaim 7 = .ok (.tableswitch 78 0 5 #[37, 42, 47, 52, 57, 70], 37) := by decide +kernel
theorem dX3_ofClaim_44 : decode cX3_ofClaim 44 = .ok (.aload_n 3, 1) := by decide +kernel
theorem dX3_ofClaim_45 : decode cX3_ofClaim 45 = .ok (.getfield 143, 3) := by decide +kernel
theorem dX3_ofClaim_48 : decode cX3_ofClaim 48 = .ok (.ireturn, 1) := by decide +kernel
theorem dX3_ofClaim_49 : decode cX3_ofClaim 49 = .ok (.aload_n 3, 1) := by decide +kernel
theorem dX3_ofClaim_50 : decode cX3_ofClaim 50 = .ok (.getfield 148, 3) := by decide +kernel
theorem dX3_ofClaim_53 : decode cX3_ofClaim 53 = .ok (.ireturn, 1) := by decide +kernel
theorem dX3_ofClaim_54 : decode cX3_ofClaim 54 = .ok (.aload_n 3, 1) := by decide +kernel
theorem dX3_ofClaim_55 : decode cX3_ofClaim 55 = .ok (.getfield 151, 3) := by decide +kernel
theorem dX3_ofClaim_58 : decode cX3_ofClaim 58 = .ok (.ireturn, 1) := by decide +kernel
theorem dX3_ofClaim_59 : decode cX3_ofClaim 59 = .ok (.aload_n 3, 1) := by decide +kernel
theorem dX3_ofClaim_60 : decode cX3_ofClaim 60 = .ok (.getfield 172, 3) := by decide +kernel
theorem dX3_ofClaim_63 : decode cX3_ofClaim 63 = .ok (.ireturn, 1) := by decide +kernel
theorem dX3_ofClaim_64 : decode cX3_ofClaim 64 = .ok (.aload_n 3, 1) := by decide +kernel
theorem dX3_ofClaim_65 : decode cX3_ofClaim 65 = .ok (.getfield 156, 3) := by decide +kernel
theorem dX3_ofClaim_68 : decode cX3_ofClaim 68 = .ok (.ifCond .eq 7, 3) := by decide +kernel
theorem dX3_ofClaim_71 : decode cX3_ofClaim 71 = .ok (.iconst 1, 1) := by decide +kernel
theorem dX3_ofClaim_72 : decode cX3_ofClaim 72 = .ok (.goto 4, 3) := by decide +kernel
theorem dX3_ofClaim_75 : decode cX3_ofClaim 75 = .ok (.iconst 0, 1) := by decide +kernel
theorem dX3_ofClaim_76 : decode cX3_ofClaim 76 = .ok (.ireturn, 1) := by decide +kernel
theorem dX3_ofClaim_77 : decode cX3_ofClaim 77 = .ok (.aload_n 3, 1) := by decide +kernel
theorem dX3_ofClaim_78 : decode cX3_ofClaim 78 = .ok (.getfield 178, 3) := by decide +kernel
theorem dX3_ofClaim_81 : decode cX3_ofClaim 81 = .ok (.invokestatic 189, 3) := by decide +kernel
theorem dX3_ofClaim_84 : decode cX3_ofClaim 84 = .ok (.ireturn, 1) := by decide +kernel
theorem dX3_ofClaim_85 : decode cX3_ofClaim 85 = .ok (.new 45, 3) := by decide +kernel
theorem dX3_ofClaim_88 : decode cX3_ofClaim 88 = .ok (.dup, 1) := by decide +kernel
theorem dX3_ofClaim_89 : decode cX3_ofClaim 89 = .ok (.ldc 221, 2) := by decide +kernel
theorem dX3_ofClaim_91 : decode cX3_ofClaim 91 = .ok (.invokespecial 49, 3) := by decide +kernel
theorem dX3_ofClaim_94 : decode cX3_ofClaim 94 = .ok (.athrow, 1) := by decide +kernel
theorem dX3_isSound_0 : decode cX3_isSound 0 = .ok (.aload_n 0, 1) := by decide +kernel
theorem dX3_isSound_1 : decode cX3_isSound 1 = .ok (.aload_n 0, 1) := by decide +kernel
theorem dX3_isSound_2 : decode cX3_isSound 2 = .ok (.iload_n 1, 1) := by decide +kernel
theorem dX3_isSound_3 : decode cX3_isSound 3 = .ok (.invokevirtual 139, 3) := by decide +kernel
theorem dX3_isSound_6 : decode cX3_isSound 6 = .ok (.invokevirtual 201, 3) := by decide +kernel
theorem dX3_isSound_9 : decode cX3_isSound 9 = .ok (.ireturn, 1) := by decide +kernel
theorem dX3_isOutside_0 : decode cX3_isOutside 0 = .ok (.iload_n 0, 1) := by decide +kernel
theorem dX3_isOutside_1 : decode cX3_isOutside 1 = .ok (.iload_n 1, 1) := by decide +kernel
theorem dX3_isOutside_2 : decode cX3_isOutside 2 = .ok (.if_icmp .lt 8, 3) := by decide +kernel
theorem dX3_isOutside_5 : decode cX3_isOutside 5 = .ok (.iload_n 0, 1) := by decide +kernel
theorem dX3_isOutside_6 : decode cX3_isOutside 6 = .ok (.iload_n 2, 1) := by decide +kernel
theorem dX3_isOutside_7 : decode cX3_isOutside 7 = .ok (.if_icmp .le 7, 3) := by decide +kernel
theorem dX3_isOutside_10 : decode cX3_isOutside 10 = .ok (.iconst 1, 1) := by decide +kernel
theorem dX3_isOutside_11 : decode cX3_isOutside 11 = .ok (.goto 4, 3) := by decide +kernel
theorem dX3_isOutside_14 : decode cX3_isOutside 14 = .ok (.iconst 0, 1) := by decide +kernel
theorem dX3_isOutside_15 : decode cX3_isOutside 15 = .ok (.ireturn, 1) := by decide +kernel
theorem dX3_starAt_0 : decode cX3_starAt 0 = .ok (.iload_n 1, 1) := by decide +kernel
theorem dX3_starAt_1 : decode cX3_starAt 1 = .ok (.ifCond .lt 20, 3) := by decide +kernel
theorem dX3_starAt_4 : decode cX3_starAt 4 = .ok (.iload_n 1, 1) := by decide +kernel
theorem dX3_starAt_5 : decode cX3_starAt 5 = .ok (.aload_n 0, 1) := by decide +kernel
theorem dX3_starAt_6 : decode cX3_starAt 6 = .ok (.getfield 66, 3) := by decide +kernel
theorem dX3_starAt_9 : decode cX3_starAt 9 = .ok (.if_icmp .ge 12, 3) := by decide +kernel
theorem dX3_starAt_12 : decode cX3_starAt 12 = .ok (.aload_n 0, 1) := by decide +kernel
theorem dX3_starAt_13 : decode cX3_starAt 13 = .ok (.getfield 11, 3) := by decide +kernel
theorem dX3_starAt_16 : decode cX3_starAt 16 = .ok (.iload_n 1, 1) := by decide +kernel
theorem dX3_starAt_17 : decode cX3_starAt 17 = .ok (.aaload, 1) := by decide +kernel
theorem dX3_starAt_18 : decode cX3_starAt 18 = .ok (.ifnonnull 14, 3) := by decide +kernel
theorem dX3_starAt_21 : decode cX3_starAt 21 = .ok (.new 257, 3) := by decide +kernel
theorem dX3_starAt_24 : decode cX3_starAt 24 = .ok (.dup, 1) := by decide +kernel
theorem dX3_starAt_25 : decode cX3_starAt 25 = .ok (.ldc_w 259, 3) := by decide +kernel
theorem dX3_starAt_28 : decode cX3_starAt 28 = .ok (.invokespecial 261, 3) := by decide +kernel
theorem dX3_starAt_31 : decode cX3_starAt 31 = .ok (.athrow, 1) := by decide +kernel
theorem dX3_starAt_32 : decode cX3_starAt 32 = .ok (.aload_n 0, 1) := by decide +kernel
theorem dX3_starAt_33 : decode cX3_starAt 33 = .ok (.getfield 11, 3) := by decide +kernel
theorem dX3_starAt_36 : decode cX3_starAt 36 = .ok (.iload_n 1, 1) := by decide +kernel
theorem dX3_starAt_37 : decode cX3_starAt 37 = .ok (.aaload, 1) := by decide +kernel
theorem dX3_starAt_38 : decode cX3_starAt 38 = .ok (.areturn, 1) := by decide +kernel
theorem dX3_claimAt_0 : decode cX3_claimAt 0 = .ok (.iload_n 1, 1) := by decide +kernel
theorem dX3_claimAt_1 : decode cX3_claimAt 1 = .ok (.ifCond .lt 20, 3) := by decide +kernel
theorem dX3_claimAt_4 : decode cX3_claimAt 4 = .ok (.iload_n 1, 1) := by decide +kernel
theorem dX3_claimAt_5 : decode cX3_claimAt 5 = .ok (.aload_n 0, 1) := by decide +kernel
theorem dX3_claimAt_6 : decode cX3_claimAt 6 = .ok (.getfield 198, 3) := by decide +kernel
theorem dX3_claimAt_9 : decode cX3_claimAt 9 = .ok (.if_icmp .ge 12, 3) := by decide +kernel
theorem dX3_claimAt_12 : decode cX3_claimAt 12 = .ok (.aload_n 0, 1) := by decide +kernel
theorem dX3_claimAt_13 : decode cX3_claimAt 13 = .ok (.getfield 30, 3) := by decide +kernel
theorem dX3_claimAt_16 : decode cX3_claimAt 16 = .ok (.iload_n 1, 1) := by decide +kernel
theorem dX3_claimAt_17 : decode cX3_claimAt 17 = .ok (.aaload, 1) := by decide +kernel
theorem dX3_claimAt_18 : decode cX3_claimAt 18 = .ok (.ifnonnull 14, 3) := by decide +kernel
theorem dX3_claimAt_21 : decode cX3_claimAt 21 = .ok (.new 257, 3) := by decide +kernel
theorem dX3_claimAt_24 : decode cX3_claimAt 24 = .ok (.dup, 1) := by decide +kernel
theorem dX3_claimAt_25 : decode cX3_claimAt 25 = .ok (.ldc_w 262, 3) := by decide +kernel
theorem dX3_claimAt_28 : decode cX3_claimAt 28 = .ok (.invokespecial 261, 3) := by decide +kernel
theorem dX3_claimAt_31 : decode cX3_claimAt 31 = .ok (.athrow, 1) := by decide +kernel
theorem dX3_claimAt_32 : decode cX3_claimAt 32 = .ok (.aload_n 0, 1) := by decide +kernel
theorem dX3_claimAt_33 : decode cX3_claimAt 33 = .ok (.getfield 30, 3) := by decide +kernel
theorem dX3_claimAt_36 : decode cX3_claimAt 36 = .ok (.iload_n 1, 1) := by decide +kernel
theorem dX3_claimAt_37 : decode cX3_claimAt 37 = .ok (.aaload, 1) := by decide +kernel
theorem dX3_claimAt_38 : decode cX3_claimAt 38 = .ok (.areturn, 1) := by decide +kernel
theorem dX3_lookForSite_0 : decode cX3_lookForSite 0 = .ok (.iload_n 0, 1) := by decide +kernel
theorem dX3_lookForSite_1 : decode cX3_lookForSite 1 = .ok (.iconst 0, 1) := by decide +kernel
theorem dX3_lookForSite_2 : decode cX3_lookForSite 2 = .ok (.iconst 3, 1) := by decide +kernel
theorem dX3_lookForSite_3 : decode cX3_lookForSite 3 = .ok (.invokestatic 41, 3) := by decide +kernel
theorem dX3_lookForSite_6 : decode cX3_lookForSite 6 = .ok (.ifCond .eq 14, 3) := by decide +kernel
theorem dX3_lookForSite_9 : decode cX3_lookForSite 9 = .ok (.new 257, 3) := by decide +kernel
theorem dX3_lookForSite_12 : decode cX3_lookForSite 12 = .ok (.dup, 1) := by decide +kernel
theorem dX3_lookForSite_13 : decode cX3_lookForSite 13 = .ok (.ldc_w 264, 3) := by decide +kernel
theorem dX3_lookForSite_16 : decode cX3_lookForSite 16 = .ok (.invokespecial 261, 3) := by decide +kernel
theorem dX3_lookForSite_19 : decode cX3_lookForSite 19 = .ok (.athrow, 1) := by decide +kernel
theorem dX3_lookForSite_20 : decode cX3_lookForSite 20 = .ok (.return_, 1) := by decide +kernel
theorem dX3_lookForFilter_0 : decode cX3_lookForFilter 0 = .ok (.iload_n 0, 1) := by decide +kernel
theorem dX3_lookForFilter_1 : decode cX3_lookForFilter 1 = .ok (.iconst 0, 1) := by decide +kernel
theorem dX3_lookForFilter_2 : decode cX3_lookForFilter 2 = .ok (.iconst 2, 1) := by decide +kernel
theorem dX3_lookForFilter_3 : decode cX3_lookForFilter 3 = .ok (.invokestatic 41, 3) := by decide +kernel
theorem dX3_lookForFilter_6 : decode cX3_lookForFilter 6 = .ok (.ifCond .eq 14, 3) := by decide +kernel
theorem dX3_lookForFilter_9 : decode cX3_lookForFilter 9 = .ok (.new 257, 3) := by decide +kernel
theorem dX3_lookForFilter_12 : decode cX3_lookForFilter 12 = .ok (.dup, 1) := by decide +kernel
theorem dX3_lookForFilter_13 : decode cX3_lookForFilter 13 = .ok (.ldc_w 266, 3) := by decide +kernel
theorem dX3_lookForFilter_16 : decode cX3_lookForFilter 16 = .ok (.invokespecial 261, 3) := by decide +kernel
theorem dX3_lookForFilter_19 : decode cX3_lookForFilter 19 = .ok (.athrow, 1) := by decide +kernel
theorem dX3_lookForFilter_20 : decode cX3_lookForFilter 20 = .ok (.return_, 1) := by decide +kernel
theorem dX3_lookAtTime_0 : decode cX3_lookAtTime 0 = .ok (.iload_n 0, 1) := by decide +kernel
theorem dX3_lookAtTime_1 : decode cX3_lookAtTime 1 = .ok (.iconst 0, 1) := by decide +kernel
theorem dX3_lookAtTime_2 : decode cX3_lookAtTime 2 = .ok (.sipush 255, 3) := by decide +kernel
theorem dX3_lookAtTime_5 : decode cX3_lookAtTime 5 = .ok (.invokestatic 41, 3) := by decide +kernel
theorem dX3_lookAtTime_8 : decode cX3_lookAtTime 8 = .ok (.ifCond .eq 14, 3) := by decide +kernel
theorem dX3_lookAtTime_11 : decode cX3_lookAtTime 11 = .ok (.new 45, 3) := by decide +kernel
theorem dX3_lookAtTime_14 : decode cX3_lookAtTime 14 = .ok (.dup, 1) := by decide +kernel
theorem dX3_lookAtTime_15 : decode cX3_lookAtTime 15 = .ok (.ldc_w 268, 3) := by decide +kernel
theorem dX3_lookAtTime_18 : decode cX3_lookAtTime 18 = .ok (.invokespecial 49, 3) := by decide +kernel
theorem dX3_lookAtTime_21 : decode cX3_lookAtTime 21 = .ok (.athrow, 1) := by decide +kernel
theorem dX3_lookAtTime_22 : decode cX3_lookAtTime 22 = .ok (.return_, 1) := by decide +kernel
theorem dX3_lookAtLine_0 : decode cX3_lookAtLine 0 = .ok (.iload_n 0, 1) := by decide +kernel
theorem dX3_lookAtLine_1 : decode cX3_lookAtLine 1 = .ok (.iconst 0, 1) := by decide +kernel
theorem dX3_lookAtLine_2 : decode cX3_lookAtLine 2 = .ok (.bipush 31, 2) := by decide +kernel
theorem dX3_lookAtLine_4 : decode cX3_lookAtLine 4 = .ok (.invokestatic 41, 3) := by decide +kernel
theorem dX3_lookAtLine_7 : decode cX3_lookAtLine 7 = .ok (.ifCond .eq 13, 3) := by decide +kernel
theorem dX3_lookAtLine_10 : decode cX3_lookAtLine 10 = .ok (.new 45, 3) := by decide +kernel
theorem dX3_lookAtLine_13 : decode cX3_lookAtLine 13 = .ok (.dup, 1) := by decide +kernel
theorem dX3_lookAtLine_14 : decode cX3_lookAtLine 14 = .ok (.ldc 99, 2) := by decide +kernel
theorem dX3_lookAtLine_16 : decode cX3_lookAtLine 16 = .ok (.invokespecial 49, 3) := by decide +kernel
theorem dX3_lookAtLine_19 : decode cX3_lookAtLine 19 = .ok (.athrow, 1) := by decide +kernel
theorem dX3_lookAtLine_20 : decode cX3_lookAtLine 20 = .ok (.return_, 1) := by decide +kernel
theorem dX3_lookForRoom_0 : decode cX3_lookForRoom 0 = .ok (.aload_n 0, 1) := by decide +kernel
theorem dX3_lookForRoom_1 : decode cX3_lookForRoom 1 = .ok (.getfield 198, 3) := by decide +kernel
theorem dX3_lookForRoom_4 : decode cX3_lookForRoom 4 = .ok (.bipush 40, 2) := by decide +kernel
theorem dX3_lookForRoom_6 : decode cX3_lookForRoom 6 = .ok (.if_icmp .lt 14, 3) := by decide +kernel
theorem dX3_lookForRoom_9 : decode cX3_lookForRoom 9 = .ok (.new 55, 3) := by decide +kernel
theorem dX3_lookForRoom_12 : decode cX3_lookForRoom 12 = .ok (.dup, 1) := by decide +kernel
theorem dX3_lookForRoom_13 : decode cX3_lookForRoom 13 = .ok (.ldc_w 270, 3) := by decide +kernel
theorem dX3_lookForRoom_16 : decode cX3_lookForRoom 16 = .ok (.invokespecial 59, 3) := by decide +kernel
theorem dX3_lookForRoom_19 : decode cX3_lookForRoom 19 = .ok (.athrow, 1) := by decide +kernel
theorem dX3_lookForRoom_20 : decode cX3_lookForRoom 20 = .ok (.return_, 1) := by decide +kernel
theorem dX3_cosine_0 : decode cX3_cosine 0 = .ok (.getstatic 272, 3) := by decide +kernel
theorem dX3_cosine_3 : decode cX3_cosine 3 = .ok (.iload_n 0, 1) := by decide +kernel
theorem dX3_cosine_4 : decode cX3_cosine 4 = .ok (.bipush 63, 2) := by decide +kernel
theorem dX3_cosine_6 : decode cX3_cosine 6 = .ok (.iand, 1) := by decide +kernel
theorem dX3_cosine_7 : decode cX3_cosine 7 = .ok (.iaload, 1) := by decide +kernel
theorem dX3_cosine_8 : decode cX3_cosine 8 = .ok (.ireturn, 1) := by decide +kernel
theorem dX3_sine_0 : decode cX3_sine 0 = .ok (.iload_n 0, 1) := by decide +kernel
theorem dX3_sine_1 : decode cX3_sine 1 = .ok (.bipush 16, 2) := by decide +kernel
theorem dX3_sine_3 : decode cX3_sine 3 = .ok (.isub, 1) := by decide +kernel
theorem dX3_sine_4 : decode cX3_sine 4 = .ok (.invokestatic 275, 3) := by decide +kernel
theorem dX3_sine_7 : decode cX3_sine 7 = .ok (.ireturn, 1) := by decide +kernel
theorem dX3_bit_0 : decode cX3_bit 0 = .ok (.lconst 1, 1) := by decide +kernel
theorem dX3_bit_1 : decode cX3_bit 1 = .ok (.iload_n 0, 1) := by decide +kernel
theorem dX3_bit_2 : decode cX3_bit 2 = .ok (.lshl, 1) := by decide +kernel
theorem dX3_bit_3 : decode cX3_bit 3 = .ok (.lreturn, 1) := by decide +kernel
theorem dX3_standsOut_0 : decode cX3_standsOut 0 = .ok (.iload_n 3, 1) := by decide +kernel
theorem dX3_standsOut_1 : decode cX3_standsOut 1 = .ok (.iconst 1, 1) := by decide +kernel
theorem dX3_standsOut_2 : decode cX3_standsOut 2 = .ok (.bipush 30, 2) := by decide +kernel
theorem dX3_standsOut_4 : decode cX3_standsOut 4 = .ok (.invokestatic 41, 3) := by decide +kernel
theorem dX3_standsOut_7 : decode cX3_standsOut 7 = .ok (.ifCond .eq 5, 3) := by decide +kernel
theorem dX3_standsOut_10 : decode cX3_standsOut 10 = .ok (.iconst 0, 1) := by decide +kernel
theorem dX3_standsOut_11 : decode cX3_standsOut 11 = .ok (.ireturn, 1) := by decide +kernel
theorem dX3_standsOut_12 : decode cX3_standsOut 12 = .ok (.aload_n 0, 1) := by decide +kernel
theorem dX3_standsOut_13 : decode cX3_standsOut 13 = .ok (.getfield 37, 3) := by decide +kernel
theorem dX3_standsOut_16 : decode cX3_standsOut 16 = .ok (.aload_n 1, 1) := by decide +kernel
theorem dX3_standsOut_17 : decode cX3_standsOut 17 = .ok (.aload_n 0, 1) := by decide +kernel
theorem dX3_standsOut_18 : decode cX3_standsOut 18 = .ok (.getfield 20, 3) := by decide +kernel
theorem dX3_standsOut_21 : decode cX3_standsOut 21 = .ok (.iload_n 2, 1) := by decide +kernel
theorem dX3_standsOut_22 : decode cX3_standsOut 22 = .ok (.aload_n 1, 1) := by decide +kernel
theorem dX3_standsOut_23 : decode cX3_standsOut 23 = .ok (.getfield 101, 3) := by decide +kernel
theorem dX3_standsOut_26 : decode cX3_standsOut 26 = .ok (.invokevirtual 240, 3) := by decide +kernel
theorem dX3_standsOut_29 : decode cX3_standsOut 29 = .ok (.aload_n 0, 1) := by decide +kernel
theorem dX3_standsOut_30 : decode cX3_standsOut 30 = .ok (.getfield 37, 3) := by decide +kernel
theorem dX3_standsOut_33 : decode cX3_standsOut 33 = .ok (.iload_n 3, 1) := by decide +kernel
theorem dX3_standsOut_34 : decode cX3_standsOut 34 = .ok (.invokevirtual 127, 3) := by decide +kernel
theorem dX3_standsOut_37 : decode cX3_standsOut 37 = .ok (.lstore 4, 2) := by decide +kernel
theorem dX3_standsOut_39 : decode cX3_standsOut 39 = .ok (.lload 4, 2) := by decide +kernel
theorem dX3_standsOut_41 : decode cX3_standsOut 41 = .ok (.aload_n 0, 1) := by decide +kernel
theorem dX3_standsOut_42 : decode cX3_standsOut 42 = .ok (.getfield 24, 3) := by decide +kernel
theorem dX3_standsOut_45 : decode cX3_standsOut 45 = .ok (.i2l, 1) := by decide +kernel
theorem dX3_standsOut_46 : decode cX3_standsOut 46 = .ok (.lcmp, 1) := by decide +kernel
theorem dX3_standsOut_47 : decode cX3_standsOut 47 = .ok (.ifCond .lt 39, 3) := by decide +kernel
theorem dX3_standsOut_50 : decode cX3_standsOut 50 = .ok (.lload 4, 2) := by decide +kernel
theorem dX3_standsOut_52 : decode cX3_standsOut 52 = .ok (.aload_n 0, 1) := by decide +kernel
theorem dX3_standsOut_53 : decode cX3_standsOut 53 = .ok (.getfield 37, 3) := by decide +kernel
theorem dX3_standsOut_56 : decode cX3_standsOut 56 = .ok (.iload_n 3, 1) := by decide +kernel
theorem dX3_standsOut_57 : decode cX3_standsOut 57 = .ok (.iconst 1, 1) := by decide +kernel
theorem dX3_standsOut_58 : decode cX3_standsOut 58 = .ok (.isub, 1) := by decide +kernel
theorem dX3_standsOut_59 : decode cX3_standsOut 59 = .ok (.invokevirtual 127, 3) := by decide +kernel
theorem dX3_standsOut_62 : decode cX3_standsOut 62 = .ok (.lcmp, 1) := by decide +kernel
theorem dX3_standsOut_63 : decode cX3_standsOut 63 = .ok (.ifCond .le 23, 3) := by decide +kernel
theorem dX3_standsOut_66 : decode cX3_standsOut 66 = .ok (.lload 4, 2) := by decide +kernel
theorem dX3_standsOut_68 : decode cX3_standsOut 68 = .ok (.aload_n 0, 1) := by decide +kernel
theorem dX3_standsOut_69 : decode cX3_standsOut 69 = .ok (.getfield 37, 3) := by decide +kernel
theorem dX3_standsOut_72 : decode cX3_standsOut 72 = .ok (.iload_n 3, 1) := by decide +kernel
theorem dX3_standsOut_73 : decode cX3_standsOut 73 = .ok (.iconst 1, 1) := by decide +kernel
theorem dX3_standsOut_74 : decode cX3_standsOut 74 = .ok (.iadd, 1) := by decide +kernel
theorem dX3_standsOut_75 : decode cX3_standsOut 75 = .ok (.invokevirtual 127, 3) := by decide +kernel
theorem dX3_standsOut_78 : decode cX3_standsOut 78 = .ok (.lcmp, 1) := by decide +kernel
theorem dX3_standsOut_79 : decode cX3_standsOut 79 = .ok (.ifCond .le 7, 3) := by decide +kernel
theorem dX3_standsOut_82 : decode cX3_standsOut 82 = .ok (.iconst 1, 1) := by decide +kernel
theorem dX3_standsOut_83 : decode cX3_standsOut 83 = .ok (.goto 4, 3) := by decide +kernel
theorem dX3_standsOut_86 : decode cX3_standsOut 86 = .ok (.iconst 0, 1) := by decide +kernel
theorem dX3_standsOut_87 : decode cX3_standsOut 87 = .ok (.ireturn, 1) := by decide +kernel
theorem dX3_enter_0 : decode cX3_enter 0 = .ok (.aload_n 0, 1) := by decide +kernel
theorem dX3_enter_1 : decode cX3_enter 1 = .ok (.getfield 198, 3) := by decide +kernel
theorem dX3_enter_4 : decode cX3_enter 4 = .ok (.bipush 40, 2) := by decide +kernel
theorem dX3_enter_6 : decode cX3_enter 6 = .ok (.if_icmp .ge 23, 3) := by decide +kernel
theorem dX3_enter_9 : decode cX3_enter 9 = .ok (.aload_n 0, 1) := by decide +kernel
theorem dX3_enter_10 : decode cX3_enter 10 = .ok (.getfield 30, 3) := by decide +kernel
theorem dX3_enter_13 : decode cX3_enter 13 = .ok (.aload_n 0, 1) := by decide +kernel
theorem dX3_enter_14 : decode cX3_enter 14 = .ok (.getfield 198, 3) := by decide +kernel
theorem dX3_enter_17 : decode cX3_enter 17 = .ok (.aload_n 1, 1) := by decide +kernel
theorem dX3_enter_18 : decode cX3_enter 18 = .ok (.aastore, 1) := by decide +kernel
theorem dX3_enter_19 : decode cX3_enter 19 = .ok (.aload_n 0, 1) := by decide +kernel
theorem dX3_enter_20 : decode cX3_enter 20 = .ok (.dup, 1) := by decide +kernel
theorem dX3_enter_21 : decode cX3_enter 21 = .ok (.getfield 198, 3) := by decide +kernel
theorem dX3_enter_24 : decode cX3_enter 24 = .ok (.iconst 1, 1) := by decide +kernel
theorem dX3_enter_25 : decode cX3_enter 25 = .ok (.iadd, 1) := by decide +kernel
theorem dX3_enter_26 : decode cX3_enter 26 = .ok (.putfield 198, 3) := by decide +kernel
theorem dX3_enter_29 : decode cX3_enter 29 = .ok (.aload_n 0, 1) := by decide +kernel
theorem dX3_enter_30 : decode cX3_enter 30 = .ok (.getfield 198, 3) := by decide +kernel
theorem dX3_enter_33 : decode cX3_enter 33 = .ok (.iconst 1, 1) := by decide +kernel
theorem dX3_enter_34 : decode cX3_enter 34 = .ok (.isub, 1) := by decide +kernel
theorem dX3_enter_35 : decode cX3_enter 35 = .ok (.ireturn, 1) := by decide +kernel
theorem dX3_ageOfNearest_0 : decode cX3_ageOfNearest 0 = .ok (.aconst_null, 1) := by decide +kernel
theorem dX3_ageOfNearest_1 : decode cX3_ageOfNearest 1 = .ok (.astore_n 2, 1) := by decide +kernel
theorem dX3_ageOfNearest_2 : decode cX3_ageOfNearest 2 = .ok (.iconst 0, 1) := by decide +kernel
theorem dX3_ageOfNearest_3 : decode cX3_ageOfNearest 3 = .ok (.istore_n 3, 1) := by decide +kernel
theorem dX3_ageOfNearest_4 : decode cX3_ageOfNearest 4 = .ok (.iload_n 3, 1) := by decide +kernel
theorem dX3_ageOfNearest_5 : decode cX3_ageOfNearest 5 = .ok (.aload_n 0, 1) := by decide +kernel
theorem dX3_ageOfNearest_6 : decode cX3_ageOfNearest 6 = .ok (.getfield 66, 3) := by decide +kernel
theorem dX3_ageOfNearest_9 : decode cX3_ageOfNearest 9 = .ok (.if_icmp .ge 43, 3) := by decide +kernel
theorem dX3_ageOfNearest_12 : decode cX3_ageOfNearest 12 = .ok (.aload_n 0, 1) := by decide +kernel
theorem dX3_ageOfNearest_13 : decode cX3_ageOfNearest 13 = .ok (.getfield 11, 3) := by decide +kernel
theorem dX3_ageOfNearest_16 : decode cX3_ageOfNearest 16 = .ok (.iload_n 3, 1) := by decide +kernel
theorem dX3_ageOfNearest_17 : decode cX3_ageOfNearest 17 = .ok (.aaload, 1) := by decide +kernel
theorem dX3_ageOfNearest_18 : decode cX3_ageOfNearest 18 = .ok (.astore 4, 2) := by decide +kernel
theorem dX3_ageOfNearest_20 : decode cX3_ageOfNearest 20 = .ok (.aload 4, 2) := by decide +kernel
theorem dX3_ageOfNearest_22 : decode cX3_ageOfNearest 22 = .ok (.ifnull 24, 3) := by decide +kernel
theorem dX3_ageOfNearest_25 : decode cX3_ageOfNearest 25 = .ok (.aload_n 2, 1) := by decide +kernel
theorem dX3_ageOfNearest_26 : decode cX3_ageOfNearest 26 = .ok (.ifnull 17, 3) := by decide +kernel
theorem dX3_ageOfNearest_29 : decode cX3_ageOfNearest 29 = .ok (.aload 4, 2) := by decide +kernel
theorem dX3_ageOfNearest_31 : decode cX3_ageOfNearest 31 = .ok (.iload_n 1, 1) := by decide +kernel
theorem dX3_ageOfNearest_32 : decode cX3_ageOfNearest 32 = .ok (.invokevirtual 278, 3) := by decide +kernel
theorem dX3_ageOfNearest_35 : decode cX3_ageOfNearest 35 = .ok (.aload_n 2, 1) := by decide +kernel
theorem dX3_ageOfNearest_36 : decode cX3_ageOfNearest 36 = .ok (.iload_n 1, 1) := by decide +kernel
theorem dX3_ageOfNearest_37 : decode cX3_ageOfNearest 37 = .ok (.invokevirtual 278, 3) := by decide +kernel
theorem dX3_ageOfNearest_40 : decode cX3_ageOfNearest 40 = .ok (.if_icmp .ge 6, 3) := by decide +kernel
theorem dX3_ageOfNearest_43 : decode cX3_ageOfNearest 43 = .ok (.aload 4, 2) := by decide +kernel
theorem dX3_ageOfNearest_45 : decode cX3_ageOfNearest 45 = .ok (.astore_n 2, 1) := by decide +kernel
theorem dX3_ageOfNearest_46 : decode cX3_ageOfNearest 46 = .ok (.iinc 3 1, 3) := by decide +kernel
theorem dX3_ageOfNearest_49 : decode cX3_ageOfNearest 49 = .ok (.goto (-45), 3) := by decide +kernel
theorem dX3_ageOfNearest_52 : decode cX3_ageOfNearest 52 = .ok (.aload_n 2, 1) := by decide +kernel
theorem dX3_ageOfNearest_53 : decode cX3_ageOfNearest 53 = .ok (.ifnonnull 7, 3) := by decide +kernel
theorem dX3_ageOfNearest_56 : decode cX3_ageOfNearest 56 = .ok (.iconst (-1), 1) := by decide +kernel
theorem dX3_ageOfNearest_57 : decode cX3_ageOfNearest 57 = .ok (.goto 7, 3) := by decide +kernel
theorem dX3_ageOfNearest_60 : decode cX3_ageOfNearest 60 = .ok (.aload_n 2, 1) := by decide +kernel
theorem dX3_ageOfNearest_61 : decode cX3_ageOfNearest 61 = .ok (.getfield 205, 3) := by decide +kernel
theorem dX3_ageOfNearest_64 : decode cX3_ageOfNearest 64 = .ok (.ireturn, 1) := by decide +kernel
theorem dX3_withdrawAll_0 : decode cX3_withdrawAll 0 = .ok (.lconst 0, 1) := by decide +kernel
theorem dX3_withdrawAll_1 : decode cX3_withdrawAll 1 = .ok (.lstore_n 3, 1) := by decide +kernel
theorem dX3_withdrawAll_2 : decode cX3_withdrawAll 2 = .ok (.iconst 0, 1) := by decide +kernel
theorem dX3_withdrawAll_3 : decode cX3_withdrawAll 3 = .ok (.istore 5, 2) := by decide +kernel
theorem dX3_withdrawAll_5 : decode cX3_withdrawAll 5 = .ok (.iload 5, 2) := by decide +kernel
theorem dX3_withdrawAll_7 : decode cX3_withdrawAll 7 = .ok (.aload_n 0, 1) := by decide +kernel
theorem dX3_withdrawAll_8 : decode cX3_withdrawAll 8 = .ok (.getfield 198, 3) := by decide +kernel
theorem dX3_withdrawAll_11 : decode cX3_withdrawAll 11 = .ok (.if_icmp .ge 86, 3) := by decide +kernel
theorem dX3_withdrawAll_14 : decode cX3_withdrawAll 14 = .ok (.aload_n 0, 1) := by decide +kernel
theorem dX3_withdrawAll_15 : decode cX3_withdrawAll 15 = .ok (.getfield 30, 3) := by decide +kernel
theorem dX3_withdrawAll_18 : decode cX3_withdrawAll 18 = .ok (.iload 5, 2) := by decide +kernel
theorem dX3_withdrawAll_20 : decode cX3_withdrawAll 20 = .ok (.aaload, 1) := by decide +kernel
theorem dX3_withdrawAll_21 : decode cX3_withdrawAll 21 = .ok (.astore 6, 2) := by decide +kernel
theorem dX3_withdrawAll_23 : decode cX3_withdrawAll 23 = .ok (.lload_n 1, 1) := by decide +kernel
theorem dX3_withdrawAll_24 : decode cX3_withdrawAll 24 = .ok (.iload 5, 2) := by decide +kernel
theorem dX3_withdrawAll_26 : decode cX3_withdrawAll 26 = .ok (.invokestatic 175, 3) := by decide +kernel
theorem dX3_withdrawAll_29 : decode cX3_withdrawAll 29 = .ok (.land, 1) := by decide +kernel
theorem dX3_withdrawAll_30 : decode cX3_withdrawAll 30 = .ok (.lconst 0, 1) := by decide +kernel
theorem dX3_withdrawAll_31 : decode cX3_withdrawAll 31 = .ok (.lcmp, 1) := by decide +kernel
theorem dX3_withdrawAll_32 : decode cX3_withdrawAll 32 = .ok (.ifCond .ne 20, 3) := by decide +kernel
theorem dX3_withdrawAll_35 : decode cX3_withdrawAll 35 = .ok (.aload 6, 2) := by decide +kernel
theorem dX3_withdrawAll_37 : decode cX3_withdrawAll 37 = .ok (.ifnull 19, 3) := by decide +kernel
theorem dX3_withdrawAll_40 : decode cX3_withdrawAll 40 = .ok (.aload 6, 2) := by decide +kernel
theorem dX3_withdrawAll_42 : decode cX3_withdrawAll 42 = .ok (.getfield 178, 3) := by decide +kernel
theorem dX3_withdrawAll_45 : decode cX3_withdrawAll 45 = .ok (.lload_n 3, 1) := by decide +kernel
theorem dX3_withdrawAll_46 : decode cX3_withdrawAll 46 = .ok (.land, 1) := by decide +kernel
theorem dX3_withdrawAll_47 : decode cX3_withdrawAll 47 = .ok (.lconst 0, 1) := by decide +kernel
theorem dX3_withdrawAll_48 : decode cX3_withdrawAll 48 = .ok (.lcmp, 1) := by decide +kernel
theorem dX3_withdrawAll_49 : decode cX3_withdrawAll 49 = .ok (.ifCond .eq 7, 3) := by decide +kernel
theorem dX3_withdrawAll_52 : decode cX3_withdrawAll 52 = .ok (.iconst 1, 1) := by decide +kernel
theorem dX3_withdrawAll_53 : decode cX3_withdrawAll 53 = .ok (.goto 4, 3) := by decide +kernel
theorem dX3_withdrawAll_56 : decode cX3_withdrawAll 56 = .ok (.iconst 0, 1) := by decide +kernel
theorem dX3_withdrawAll_57 : decode cX3_withdrawAll 57 = .ok (.istore 7, 2) := by decide +kernel
theorem dX3_withdrawAll_59 : decode cX3_withdrawAll 59 = .ok (.aload 6, 2) := by decide +kernel
theorem dX3_withdrawAll_61 : decode cX3_withdrawAll 61 = .ok (.ifnull 30, 3) := by decide +kernel
theorem dX3_withdrawAll_64 : decode cX3_withdrawAll 64 = .ok (.aload 6, 2) := by decide +kernel
theorem dX3_withdrawAll_66 : decode cX3_withdrawAll 66 = .ok (.getfield 156, 3) := by decide +kernel
theorem dX3_withdrawAll_69 : decode cX3_withdrawAll 69 = .ok (.ifCond .eq 22, 3) := by decide +kernel
theorem dX3_withdrawAll_72 : decode cX3_withdrawAll 72 = .ok (.iload 7, 2) := by decide +kernel
theorem dX3_withdrawAll_74 : decode cX3_withdrawAll 74 = .ok (.ifCond .eq 17, 3) := by decide +kernel
theorem dX3_withdrawAll_77 : decode cX3_withdrawAll 77 = .ok (.aload 6, 2) := by decide +kernel
theorem dX3_withdrawAll_79 : decode cX3_withdrawAll 79 = .ok (.iconst 0, 1) := by decide +kernel
theorem dX3_withdrawAll_80 : decode cX3_withdrawAll 80 = .ok (.putfield 156, 3) := by decide +kernel
theorem dX3_withdrawAll_83 : decode cX3_withdrawAll 83 = .ok (.lload_n 3, 1) := by decide +kernel
theorem dX3_withdrawAll_84 : decode cX3_withdrawAll 84 = .ok (.iload 5, 2) := by decide +kernel
theorem dX3_withdrawAll_86 : decode cX3_withdrawAll 86 = .ok (.invokestatic 175, 3) := by decide +kernel
theorem dX3_withdrawAll_89 : decode cX3_withdrawAll 89 = .ok (.lor, 1) := by decide +kernel
theorem dX3_withdrawAll_90 : decode cX3_withdrawAll 90 = .ok (.lstore_n 3, 1) := by decide +kernel
theorem dX3_withdrawAll_91 : decode cX3_withdrawAll 91 = .ok (.iinc 5 1, 3) := by decide +kernel
theorem dX3_withdrawAll_94 : decode cX3_withdrawAll 94 = .ok (.goto (-89), 3) := by decide +kernel
theorem dX3_withdrawAll_97 : decode cX3_withdrawAll 97 = .ok (.lload_n 3, 1) := by decide +kernel
theorem dX3_withdrawAll_98 : decode cX3_withdrawAll 98 = .ok (.invokestatic 189, 3) := by decide +kernel
theorem dX3_withdrawAll_101 : decode cX3_withdrawAll 101 = .ok (.ireturn, 1) := by decide +kernel
theorem dX3_holds_0 : decode cX3_holds 0 = .ok (.aload_n 1, 1) := by decide +kernel
theorem dX3_holds_1 : decode cX3_holds 1 = .ok (.getfield 148, 3) := by decide +kernel
theorem dX3_holds_4 : decode cX3_holds 4 = .ok (.ifCond .lt 26, 3) := by decide +kernel
theorem dX3_holds_7 : decode cX3_holds 7 = .ok (.aload_n 1, 1) := by decide +kernel
theorem dX3_holds_8 : decode cX3_holds 8 = .ok (.getfield 148, 3) := by decide +kernel
theorem dX3_holds_11 : decode cX3_holds 11 = .ok (.aload_n 0, 1) := by decide +kernel
theorem dX3_holds_12 : decode cX3_holds 12 = .ok (.getfield 66, 3) := by decide +kernel
theorem dX3_holds_15 : decode cX3_holds 15 = .ok (.if_icmp .ge 15, 3) := by decide +kernel
theorem dX3_holds_18 : decode cX3_holds 18 = .ok (.aload_n 0, 1) := by decide +kernel
theorem dX3_holds_19 : decode cX3_holds 19 = .ok (.getfield 11, 3) := by decide +kernel
theorem dX3_holds_22 : decode cX3_holds 22 = .ok (.aload_n 1, 1) := by decide +kernel
theorem dX3_holds_23 : decode cX3_holds 23 = .ok (.getfield 148, 3) := by decide +kernel
theorem dX3_holds_26 : decode cX3_holds 26 = .ok (.aaload, 1) := by decide +kernel
theorem dX3_holds_27 : decode cX3_holds 27 = .ok (.ifnonnull 5, 3) := by decide +kernel
theorem dX3_holds_30 : decode cX3_holds 30 = .ok (.iconst 0, 1) := by decide +kernel
theorem dX3_holds_31 : decode cX3_holds 31 = .ok (.ireturn, 1) := by decide +kernel
theorem dX3_holds_32 : decode cX3_holds 32 = .ok (.aload_n 0, 1) := by decide +kernel
theorem dX3_holds_33 : decode cX3_holds 33 = .ok (.getfield 11, 3) := by decide +kernel
theorem dX3_holds_36 : decode cX3_holds 36 = .ok (.aload_n 1, 1) := by decide +kernel
theorem dX3_holds_37 : decode cX3_holds 37 = .ok (.getfield 148, 3) := by decide +kernel
theorem dX3_holds_40 : decode cX3_holds 40 = .ok (.aaload, 1) := by decide +kernel
theorem dX3_holds_41 : decode cX3_holds 41 = .ok (.astore_n 2, 1) := by decide +kernel
theorem dX3_holds_42 : decode cX3_holds 42 = .ok (.aload_n 1, 1) := by decide +kernel
theorem dX3_holds_43 : decode cX3_holds 43 = .ok (.getfield 143, 3) := by decide +kernel
theorem dX3_holds_46 : decode cX3_holds 46 = .ok (.ifCond .ne 55, 3) := by decide +kernel
theorem dX3_holds_49 : decode cX3_holds 49 = .ok (.aload_n 0, 1) := by decide +kernel
theorem dX3_holds_50 : decode cX3_holds 50 = .ok (.getfield 37, 3) := by decide +kernel
theorem dX3_holds_53 : decode cX3_holds 53 = .ok (.aload_n 2, 1) := by decide +kernel
theorem dX3_holds_54 : decode cX3_holds 54 = .ok (.aload_n 0, 1) := by decide +kernel
theorem dX3_holds_55 : decode cX3_holds 55 = .ok (.getfield 20, 3) := by decide +kernel
theorem dX3_holds_58 : decode cX3_holds 58 = .ok (.aload_n 1, 1) := by decide +kernel
theorem dX3_holds_59 : decode cX3_holds 59 = .ok (.getfield 123, 3) := by decide +kernel
theorem dX3_holds_62 : decode cX3_holds 62 = .ok (.aload_n 1, 1) := by decide +kernel
theorem dX3_holds_63 : decode cX3_holds 63 = .ok (.getfield 126, 3) := by decide +kernel
theorem dX3_holds_66 : decode cX3_holds 66 = .ok (.aload_n 2, 1) := by decide +kernel
theorem dX3_holds_67 : decode cX3_holds 67 = .ok (.getfield 101, 3) := by decide +kernel
theorem dX3_holds_70 : decode cX3_holds 70 = .ok (.invokestatic 281, 3) := by decide +kernel
theorem dX3_holds_73 : decode cX3_holds 73 = .ok (.invokevirtual 240, 3) := by decide +kernel
theorem dX3_holds_76 : decode cX3_holds 76 = .ok (.aload_n 0, 1) := by decide +kernel
theorem dX3_holds_77 : decode cX3_holds 77 = .ok (.getfield 37, 3) := by decide +kernel
theorem dX3_holds_80 : decode cX3_holds 80 = .ok (.aload_n 1, 1) := by decide +kernel
theorem dX3_holds_81 : decode cX3_holds 81 = .ok (.getfield 151, 3) := by decide +kernel
theorem dX3_holds_84 : decode cX3_holds 84 = .ok (.invokevirtual 127, 3) := by decide +kernel
theorem dX3_holds_87 : decode cX3_holds 87 = .ok (.aload_n 1, 1) := by decide +kernel
theorem dX3_holds_88 : decode cX3_holds 88 = .ok (.getfield 131, 3) := by decide +kernel
theorem dX3_holds_91 : decode cX3_holds 91 = .ok (.lcmp, 1) := by decide +kernel
theorem dX3_holds_92 : decode cX3_holds 92 = .ok (.ifCond .ne 7, 3) := by decide +kernel
theorem dX3_holds_95 : decode cX3_holds 95 = .ok (.iconst 1, 1) := by decide +kernel
theorem dX3_holds_96 : decode cX3_holds 96 = .ok (.goto 4, 3) := by decide +kernel
theorem dX3_holds_99 : decode cX3_holds 99 = .ok (.iconst 0, 1) := by decide +kernel
theorem dX3_holds_100 : decode cX3_holds 100 = .ok (.ireturn, 1) := by decide +kernel
theorem dX3_holds_101 : decode cX3_holds 101 = .ok (.aload_n 1, 1) := by decide +kernel
theorem dX3_holds_102 : decode cX3_holds 102 = .ok (.getfield 143, 3) := by decide +kernel
theorem dX3_holds_105 : decode cX3_holds 105 = .ok (.iconst 2, 1) := by decide +kernel
theorem dX3_holds_106 : decode cX3_holds 106 = .ok (.if_icmp .ne 17, 3) := by decide +kernel
theorem dX3_holds_109 : decode cX3_holds 109 = .ok (.aload_n 2, 1) := by decide +kernel
theorem dX3_holds_110 : decode cX3_holds 110 = .ok (.ldc 162, 2) := by decide +kernel
theorem dX3_holds_112 : decode cX3_holds 112 = .ok (.aload_n 1, 1) := by decide +kernel
theorem dX3_holds_113 : decode cX3_holds 113 = .ok (.getfield 151, 3) := by decide +kernel
theorem dX3_holds_116 : decode cX3_holds 116 = .ok (.imul, 1) := by decide +kernel
theorem dX3_holds_117 : decode cX3_holds 117 = .ok (.invokevirtual 285, 3) := by decide +kernel
theorem dX3_holds_120 : decode cX3_holds 120 = .ok (.ifCond .ne 7, 3) := by decide +kernel
theorem dX3_holds_123 : decode cX3_holds 123 = .ok (.iconst 1, 1) := by decide +kernel
theorem dX3_holds_124 : decode cX3_holds 124 = .ok (.goto 4, 3) := by decide +kernel
theorem dX3_holds_127 : decode cX3_holds 127 = .ok (.iconst 0, 1) := by decide +kernel
theorem dX3_holds_128 : decode cX3_holds 128 = .ok (.ireturn, 1) := by decide +kernel
theorem dX4_init_0 : decode cX4_init 0 = .ok (.aload_n 0, 1) := by decide +kernel
theorem dX4_init_1 : decode cX4_init 1 = .ok (.invokespecial 1, 3) := by decide +kernel
theorem dX4_init_4 : decode cX4_init 4 = .ok (.aload_n 0, 1) := by decide +kernel
theorem dX4_init_5 : decode cX4_init 5 = .ok (.bipush 8, 2) := by decide +kernel
theorem dX4_init_7 : decode cX4_init 7 = .ok (.newarray .int, 2) := by decide +kernel
theorem dX4_init_9 : decode cX4_init 9 = .ok (.putfield 7, 3) := by decide +kernel
theorem dX4_init_12 : decode cX4_init 12 = .ok (.aload_n 0, 1) := by decide +kernel
theorem dX4_init_13 : decode cX4_init 13 = .ok (.bipush 8, 2) := by decide +kernel
theorem dX4_init_15 : decode cX4_init 15 = .ok (.newarray .int, 2) := by decide +kernel
theorem dX4_init_17 : decode cX4_init 17 = .ok (.putfield 13, 3) := by decide +kernel
theorem dX4_init_20 : decode cX4_init 20 = .ok (.aload_n 0, 1) := by decide +kernel
theorem dX4_init_21 : decode cX4_init 21 = .ok (.bipush 8, 2) := by decide +kernel
theorem dX4_init_23 : decode cX4_init 23 = .ok (.newarray .int, 2) := by decide +kernel
theorem dX4_init_25 : decode cX4_init 25 = .ok (.putfield 16, 3) := by decide +kernel
theorem dX4_init_28 : decode cX4_init 28 = .ok (.aload_n 0, 1) := by decide +kernel
theorem dX4_init_29 : decode cX4_init 29 = .ok (.bipush 6, 2) := by decide +kernel
theorem dX4_init_31 : decode cX4_init 31 = .ok (.newarray .int, 2) := by decide +kernel
theorem dX4_init_33 : decode cX4_init 33 = .ok (.putfield 19, 3) := by decide +kernel
theorem dX4_init_36 : decode cX4_init 36 = .ok (.aload_n 0, 1) := by decide +kernel
theorem dX4_init_37 : decode cX4_init 37 = .ok (.bipush 6, 2) := by decide +kernel
theorem dX4_init_39 : decode cX4_init 39 = .ok (.newarray .int, 2) := by decide +kernel
theorem dX4_init_41 : decode cX4_init 41 = .ok (.putfield 22, 3) := by decide +kernel
theorem dX4_init_44 : decode cX4_init 44 = .ok (.aload_n 0, 1) := by decide +kernel
theorem dX4_init_45 : decode cX4_init 45 = .ok (.bipush 6, 2) := by decide +kernel
theorem dX4_init_47 : decode cX4_init 47 = .ok (.newarray .int, 2) := by decide +kernel
theorem dX4_init_49 : decode cX4_init 49 = .ok (.putfield 25, 3) := by decide +kernel
theorem dX4_init_52 : decode cX4_init 52 = .ok (.aload_n 0, 1) := by decide +kernel
theorem dX4_init_53 : decode cX4_init 53 = .ok (.bipush 6, 2) := by decide +kernel
theorem dX4_init_55 : decode cX4_init 55 = .ok (.newarray .int, 2) := by decide +kernel
theorem dX4_init_57 : decode cX4_init 57 = .ok (.putfield 28, 3) := by decide +kernel
theorem dX4_init_60 : decode cX4_init 60 = .ok (.aload_n 0, 1) := by decide +kernel
theorem dX4_init_61 : decode cX4_init 61 = .ok (.bipush 6, 2) := by decide +kernel
theorem dX4_init_63 : decode cX4_init 63 = .ok (.newarray .int, 2) := by decide +kernel
theorem dX4_init_65 : decode cX4_init 65 = .ok (.putfield 31, 3) := by decide +kernel
theorem dX4_init_68 : decode cX4_init 68 = .ok (.aload_n 0, 1) := by decide +kernel
theorem dX4_init_69 : decode cX4_init 69 = .ok (.bipush 6, 2) := by decide +kernel
theorem dX4_init_71 : decode cX4_init 71 = .ok (.newarray .int, 2) := by decide +kernel
theorem dX4_init_73 : decode cX4_init 73 = .ok (.putfield 34, 3) := by decide +kernel
theorem dX4_init_76 : decode cX4_init 76 = .ok (.aload_n 0, 1) := by decide +kernel
theorem dX4_init_77 : decode cX4_init 77 = .ok (.sipush 1536, 3) := by decide +kernel
theorem dX4_init_80 : decode cX4_init 80 = .ok (.newarray .int, 2) := by decide +kernel
theorem dX4_init_82 : decode cX4_init 82 = .ok (.putfield 37, 3) := by decide +kernel
theorem dX4_init_85 : decode cX4_init 85 = .ok (.aload_n 0, 1) := by decide +kernel
theorem dX4_init_86 : decode cX4_init 86 = .ok (.sipush 1536, 3) := by decide +kernel
theorem dX4_init_89 : decode cX4_init 89 = .ok (.newarray .int, 2) := by decide +kernel
theorem dX4_init_91 : decode cX4_init 91 = .ok (.putfield 40, 3) := by decide +kernel
theorem dX4_init_94 : decode cX4_init 94 = .ok (.aload_n 0, 1) := by decide +kernel
theorem dX4_init_95 : decode cX4_init 95 = .ok (.iconst 4, 1) := by decide +kernel
theorem dX4_init_96 : decode cX4_init 96 = .ok (.newarray .boolean, 2) := by decide +kernel
theorem dX4_init_98 : decode cX4_init 98 = .ok (.putfield 43, 3) := by decide +kernel
theorem dX4_init_101 : decode cX4_init 101 = .ok (.aload_n 0, 1) := by decide +kernel
theorem dX4_init_102 : decode cX4_init 102 = .ok (.sipush 1000, 3) := by decide +kernel
theorem dX4_init_105 : decode cX4_init 105 = .ok (.putfield 47, 3) := by decide +kernel
theorem dX4_init_108 : decode cX4_init 108 = .ok (.aload_n 0, 1) := by decide +kernel
theorem dX4_init_109 : decode cX4_init 109 = .ok (.bipush 6, 2) := by decide +kernel
theorem dX4_init_111 : decode cX4_init 111 = .ok (.newarray .int, 2) := by decide +kernel
theorem dX4_init_113 : decode cX4_init 113 = .ok (.putfield 51, 3) := by decide +kernel
theorem dX4_init_116 : decode cX4_init 116 = .ok (.aload_n 0, 1) := by decide +kernel
theorem dX4_init_117 : decode cX4_init 117 = .ok (.bipush 36, 2) := by decide +kernel
theorem dX4_init_119 : decode cX4_init 119 = .ok (.newarray .int, 2) := by decide +kernel
theorem dX4_init_121 : decode cX4_init 121 = .ok (.putfield 54, 3) := by decide +kernel
theorem dX4_init_124 : decode cX4_init 124 = .ok (.aload_n 0, 1) := by decide +kernel
theorem dX4_init_125 : decode cX4_init 125 = .ok (.bipush 64, 2) := by decide +kernel
theorem dX4_init_127 : decode cX4_init 127 = .ok (.newarray .int, 2) := by decide +kernel
theorem dX4_init_129 : decode cX4_init 129 = .ok (.putfield 57, 3) := by decide +kernel
theorem dX4_init_132 : decode cX4_init 132 = .ok (.aload_n 0, 1) := by decide +kernel
theorem dX4_init_133 : decode cX4_init 133 = .ok (.sipush 256, 3) := by decide +kernel
theorem dX4_init_136 : decode cX4_init 136 = .ok (.newarray .long, 2) := by decide +kernel
theorem dX4_init_138 : decode cX4_init 138 = .ok (.putfield 60, 3) := by decide +kernel
theorem dX4_init_141 : decode cX4_init 141 = .ok (.aload_n 0, 1) := by decide +kernel
theorem dX4_init_142 : decode cX4_init 142 = .ok (.sipush 256, 3) := by decide +kernel
theorem dX4_init_145 : decode cX4_init 145 = .ok (.newarray .boolean, 2) := by decide +kernel
theorem dX4_init_147 : decode cX4_init 147 = .ok (.putfield 64, 3) := by decide +kernel
theorem dX4_init_150 : decode cX4_init 150 = .ok (.aload_n 0, 1) := by decide +kernel
theorem dX4_init_151 : decode cX4_init 151 = .ok (.bipush 40, 2) := by decide +kernel
theorem dX4_init_153 : decode cX4_init 153 = .ok (.newarray .int, 2) := by decide +kernel
theorem dX4_init_155 : decode cX4_init 155 = .ok (.putfield 67, 3) := by decide +kernel
theorem dX4_init_158 : decode cX4_init 158 = .ok (.aload_n 0, 1) := by decide +kernel
theorem dX4_init_159 : decode cX4_init 159 = .ok (.bipush 40, 2) := by decide +kernel
theorem dX4_init_161 : decode cX4_init 161 = .ok (.newarray .int, 2) := by decide +kernel
theorem dX4_init_163 : decode cX4_init 163 = .ok (.putfield 70, 3) := by decide +kernel
theorem dX4_init_166 : decode cX4_init 166 = .ok (.aload_n 0, 1) := by decide +kernel
theorem dX4_init_167 : decode cX4_init 167 = .ok (.bipush 40, 2) := by decide +kernel
theorem dX4_init_169 : decode cX4_init 169 = .ok (.newarray .int, 2) := by decide +kernel
theorem dX4_init_171 : decode cX4_init 171 = .ok (.putfield 73, 3) := by decide +kernel
theorem dX4_init_174 : decode cX4_init 174 = .ok (.aload_n 0, 1) := by decide +kernel
theorem dX4_init_175 : decode cX4_init 175 = .ok (.bipush 40, 2) := by decide +kernel
theorem dX4_init_177 : decode cX4_init 177 = .ok (.newarray .int, 2) := by decide +kernel
theorem dX4_init_179 : decode cX4_init 179 = .ok (.putfield 76, 3) := by decide +kernel
theorem dX4_init_182 : decode cX4_init 182 = .ok (.aload_n 0, 1) := by decide +kernel
theorem dX4_init_183 : decode cX4_init 183 = .ok (.bipush 40, 2) := by decide +kernel
theorem dX4_init_185 : decode cX4_init 185 = .ok (.newarray .int, 2) := by decide +kernel
theorem dX4_init_187 : decode cX4_init 187 = .ok (.putfield 79, 3) := by decide +kernel
theorem dX4_init_190 : decode cX4_init 190 = .ok (.aload_n 0, 1) := by decide +kernel
theorem dX4_init_191 : decode cX4_init 191 = .ok (.bipush 40, 2) := by decide +kernel
theorem dX4_init_193 : decode cX4_init 193 = .ok (.newarray .long, 2) := by decide +kernel
theorem dX4_init_195 : decode cX4_init 195 = .ok (.putfield 82, 3) := by decide +kernel
theorem dX4_init_198 : decode cX4_init 198 = .ok (.aload_n 0, 1) := by decide +kernel
theorem dX4_init_199 : decode cX4_init 199 = .ok (.bipush 40, 2) := by decide +kernel
theorem dX4_init_201 : decode cX4_init 201 = .ok (.newarray .int, 2) := by decide +kernel
theorem dX4_init_203 : decode cX4_init 203 = .ok (.putfield 85, 3) := by decide +kernel
theorem dX4_init_206 : decode cX4_init 206 = .ok (.aload_n 0, 1) := by decide +kernel
theorem dX4_init_207 : decode cX4_init 207 = .ok (.bipush 40, 2) := by decide +kernel
theorem dX4_init_209 : decode cX4_init 209 = .ok (.newarray .long, 2) := by decide +kernel
theorem dX4_init_211 : decode cX4_init 211 = .ok (.putfield 88, 3) := by decide +kernel
theorem dX4_init_214 : decode cX4_init 214 = .ok (.aload_n 0, 1) := by decide +kernel
theorem dX4_init_215 : decode cX4_init 215 = .ok (.bipush 40, 2) := by decide +kernel
theorem dX4_init_217 : decode cX4_init 217 = .ok (.newarray .boolean, 2) := by decide +kernel
theorem dX4_init_219 : decode cX4_init 219 = .ok (.putfield 91, 3) := by decide +kernel
theorem dX4_init_222 : decode cX4_init 222 = .ok (.aload_n 0, 1) := by decide +kernel
theorem dX4_init_223 : decode cX4_init 223 = .ok (.iconst 0, 1) := by decide +kernel
theorem dX4_init_224 : decode cX4_init 224 = .ok (.sipush 1000, 3) := by decide +kernel
theorem dX4_init_227 : decode cX4_init 227 = .ok (.sipush 995, 3) := by decide +kernel
theorem dX4_init_230 : decode cX4_init 230 = .ok (.sipush 981, 3) := by decide +kernel
theorem dX4_init_233 : decode cX4_init 233 = .ok (.sipush 957, 3) := by decide +kernel
theorem dX4_init_236 : decode cX4_init 236 = .ok (.invokevirtual 94, 3) := by decide +kernel
theorem dX4_init_239 : decode cX4_init 239 = .ok (.aload_n 0, 1) := by decide +kernel
theorem dX4_init_240 : decode cX4_init 240 = .ok (.iconst 4, 1) := by decide +kernel
theorem dX4_init_241 : decode cX4_init 241 = .ok (.sipush 924, 3) := by decide +kernel
theorem dX4_init_244 : decode cX4_init 244 = .ok (.sipush 882, 3) := by decide +kernel
theorem dX4_init_247 : decode cX4_init 247 = .ok (.sipush 831, 3) := by decide +kernel
theorem dX4_init_250 : decode cX4_init 250 = .ok (.sipush 773, 3) := by decide +kernel
theorem dX4_init_253 : decode cX4_init 253 = .ok (.invokevirtual 94, 3) := by decide +kernel
theorem dX4_init_256 : decode cX4_init 256 = .ok (.aload_n 0, 1) := by decide +kernel
theorem dX4_init_257 : decode cX4_init 257 = .ok (.bipush 8, 2) := by decide +kernel
theorem dX4_init_259 : decode cX4_init 259 = .ok (.sipush 707, 3) := by decide +kernel
theorem dX4_init_262 : decode cX4_init 262 = .ok (.sipush 634, 3) := by decide +kernel
theorem dX4_init_265 : decode cX4_init 265 = .ok (.sipush 556, 3) := by decide +kernel
theorem dX4_init_268 : decode cX4_init 268 = .ok (.sipush 471, 3) := by decide +kernel
theorem dX4_init_271 : decode cX4_init 271 = .ok (.invokevirtual 94, 3) := by decide +kernel
theorem dX4_init_274 : decode cX4_init 274 = .ok (.aload_n 0, 1) := by decide +kernel
theorem dX4_init_275 : decode cX4_init 275 = .ok (.bipush 12, 2) := by decide +kernel
theorem dX4_init_277 : decode cX4_init 277 = .ok (.sipush 383, 3) := by decide +kernel
theorem dX4_init_280 : decode cX4_init 280 = .ok (.sipush 290, 3) := by decide +kernel
theorem dX4_init_283 : decode cX4_init 283 = .ok (.sipush 195, 3) := by decide +kernel
theorem dX4_init_286 : decode cX4_init 286 = .ok (.bipush 98, 2) := by decide +kernel
theorem dX4_init_288 : decode cX4_init 288 = .ok (.invokevirtual 94, 3) := by decide +kernel
theorem dX4_init_291 : decode cX4_init 291 = .ok (.bipush 17, 2) := by decide +kernel
theorem dX4_init_293 : decode cX4_init 293 = .ok (.istore_n 1, 1) := by decide +kernel
theorem dX4_init_294 : decode cX4_init 294 = .ok (.iload_n 1, 1) := by decide +kernel
theorem dX4_init_295 : decode cX4_init 295 = .ok (.bipush 32, 2) := by decide +kernel
theorem dX4_init_297 : decode cX4_init 297 = .ok (.if_icmp .gt 25, 3) := by decide +kernel
theorem dX4_init_300 : decode cX4_init 300 = .ok (.aload_n 0, 1) := by decide +kernel
theorem dX4_init_301 : decode cX4_init 301 = .ok (.getfield 57, 3) := by decide +kernel
theorem dX4_init_304 : decode cX4_init 304 = .ok (.iload_n 1, 1) := by decide +kernel
theorem dX4_init_305 : decode cX4_init 305 = .ok (.aload_n 0, 1) := by decide +kernel
theorem dX4_init_306 : decode cX4_init 306 = .ok (.getfield 57, 3) := by decide +kernel
theorem dX4_init_309 : decode cX4_init 309 = .ok (.bipush 32, 2) := by decide +kernel
theorem dX4_init_311 : decode cX4_init 311 = .ok (.iload_n 1, 1) := by decide +kernel
theorem dX4_init_312 : decode cX4_init 312 = .ok (.isub, 1) := by decide +kernel
theorem dX4_init_313 : decode cX4_init 313 = .ok (.iaload, 1) := by decide +kernel
theorem dX4_init_314 : decode cX4_init 314 = .ok (.ineg, 1) := by decide +kernel
theorem dX4_init_315 : decode cX4_init 315 = .ok (.iastore, 1) := by decide +kernel
theorem dX4_init_316 : decode cX4_init 316 = .ok (.iinc 1 1, 3) := by decide +kernel
theorem dX4_init_319 : decode cX4_init 319 = .ok (.goto (-25), 3) := by decide +kernel
theorem dX4_init_322 : decode cX4_init 322 = .ok (.bipush 33, 2) := by decide +kernel
theorem dX4_init_324 : decode cX4_init 324 = .ok (.istore_n 1, 1) := by decide +kernel
theorem dX4_init_325 : decode cX4_init 325 = .ok (.iload_n 1, 1) := by decide +kernel
theorem dX4_init_326 : decode cX4_init 326 = .ok (.bipush 64, 2) := by decide +kernel
theorem dX4_init_328 : decode cX4_init 328 = .ok (.if_icmp .ge 24, 3) := by decide +kernel
theorem dX4_init_331 : decode cX4_init 331 = .ok (.aload_n 0, 1) := by decide +kernel
theorem dX4_init_332 : decode cX4_init 332 = .ok (.getfield 57, 3) := by decide +kernel
theorem dX4_init_335 : decode cX4_init 335 = .ok (.iload_n 1, 1) := by decide +kernel
theorem dX4_init_336 : decode cX4_init 336 = .ok (.aload_n 0, 1) := by decide +kernel
theorem dX4_init_337 : decode cX4_init 337 = .ok (.getfield 57, 3) := by decide +kernel
theorem dX4_init_340 : decode cX4_init 340 = .ok (.bipush 64, 2) := by decide +kernel
theorem dX4_init_342 : decode cX4_init 342 = .ok (.iload_n 1, 1) := by decide +kernel
theorem dX4_init_343 : decode cX4_init 343 = .ok (.isub, 1) := by decide +kernel
theorem dX4_init_344 : decode cX4_init 344 = .ok (.iaload, 1) := by decide +kernel
theorem dX4_init_345 : decode cX4_init 345 = .ok (.iastore, 1) := by decide +kernel
theorem dX4_init_346 : decode cX4_init 346 = .ok (.iinc 1 1, 3) := by decide +kernel
theorem dX4_init_349 : decode cX4_init 349 = .ok (.goto (-24), 3) := by decide +kernel
theorem dX4_init_352 : decode cX4_init 352 = .ok (.iconst 0, 1) := by decide +kernel
theorem dX4_init_353 : decode cX4_init 353 = .ok (.istore_n 1, 1) := by decide +kernel
theorem dX4_init_354 : decode cX4_init 354 = .ok (.iload_n 1, 1) := by decide +kernel
theorem dX4_init_355 : decode cX4_init 355 = .ok (.sipush 1536, 3) := by decide +kernel
theorem dX4_init_358 : decode cX4_init 358 = .ok (.if_icmp .ge 16, 3) := by decide +kernel
theorem dX4_init_361 : decode cX4_init 361 = .ok (.aload_n 0, 1) := by decide +kernel
theorem dX4_init_362 : decode cX4_init 362 = .ok (.getfield 37, 3) := by decide +kernel
theorem dX4_init_365 : decode cX4_init 365 = .ok (.iload_n 1, 1) := by decide +kernel
theorem dX4_init_366 : decode cX4_init 366 = .ok (.iconst (-1), 1) := by decide +kernel
theorem dX4_init_367 : decode cX4_init 367 = .ok (.iastore, 1) := by decide +kernel
theorem dX4_init_368 : decode cX4_init 368 = .ok (.iinc 1 1, 3) := by decide +kernel
theorem dX4_init_371 : decode cX4_init 371 = .ok (.goto (-17), 3) := by decide +kernel
theorem dX4_init_374 : decode cX4_init 374 = .ok (.return_, 1) := by decide +kernel
theorem dX4_laysRow_0 : decode cX4_laysRow 0 = .ok (.aload_n 0, 1) := by decide +kernel
theorem dX4_laysRow_1 : decode cX4_laysRow 1 = .ok (.getfield 57, 3) := by decide +kernel
theorem dX4_laysRow_4 : decode cX4_laysRow 4 = .ok (.iload_n 1, 1) := by decide +kernel
theorem dX4_laysRow_5 : decode cX4_laysRow 5 = .ok (.iload_n 2, 1) := by decide +kernel
theorem dX4_laysRow_6 : decode cX4_laysRow 6 = .ok (.iastore, 1) := by decide +kernel
theorem dX4_laysRow_7 : decode cX4_laysRow 7 = .ok (.aload_n 0, 1) := by decide +kernel
theorem dX4_laysRow_8 : decode cX4_laysRow 8 = .ok (.getfield 57, 3) := by decide +kernel
theorem dX4_laysRow_11 : decode cX4_laysRow 11 = .ok (.iload_n 1, 1) := by decide +kernel
theorem dX4_laysRow_12 : decode cX4_laysRow 12 = .ok (.iconst 1, 1) := by decide +kernel
theorem dX4_laysRow_13 : decode cX4_laysRow 13 = .ok (.iadd, 1) := by decide +kernel
theorem dX4_laysRow_14 : decode cX4_laysRow 14 = .ok (.iload_n 3, 1) := by decide +kernel
theorem dX4_laysRow_15 : decode cX4_laysRow 15 = .ok (.iastore, 1) := by decide +kernel
theorem dX4_laysRow_16 : decode cX4_laysRow 16 = .ok (.aload_n 0, 1) := by decide +kernel
theorem dX4_laysRow_17 : decode cX4_laysRow 17 = .ok (.getfield 57, 3) := by decide +kernel
theorem dX4_laysRow_20 : decode cX4_laysRow 20 = .ok (.iload_n 1, 1) := by decide +kernel
theorem dX4_laysRow_21 : decode cX4_laysRow 21 = .ok (.iconst 2, 1) := by decide +kernel
theorem dX4_laysRow_22 : decode cX4_laysRow 22 = .ok (.iadd, 1) := by decide +kernel
theorem dX4_laysRow_23 : decode cX4_laysRow 23 = .ok (.iload 4, 2) := by decide +kernel
theorem dX4_laysRow_25 : decode cX4_laysRow 25 = .ok (.iastore, 1) := by decide +kernel
theorem dX4_laysRow_26 : decode cX4_laysRow 26 = .ok (.aload_n 0, 1) := by decide +kernel
theorem dX4_laysRow_27 : decode cX4_laysRow 27 = .ok (.getfield 57, 3) := by decide +kernel
theorem dX4_laysRow_30 : decode cX4_laysRow 30 = .ok (.iload_n 1, 1) := by decide +kernel
theorem dX4_laysRow_31 : decode cX4_laysRow 31 = .ok (.iconst 3, 1) := by decide +kernel
theorem dX4_laysRow_32 : decode cX4_laysRow 32 = .ok (.iadd, 1) := by decide +kernel
theorem dX4_laysRow_33 : decode cX4_laysRow 33 = .ok (.iload 5, 2) := by decide +kernel
theorem dX4_laysRow_35 : decode cX4_laysRow 35 = .ok (.iastore, 1) := by decide +kernel
theorem dX4_laysRow_36 : decode cX4_laysRow 36 = .ok (.return_, 1) := by decide +kernel
theorem dX4_thrown_0 : decode cX4_thrown 0 = .ok (.aload_n 0, 1) := by decide +kernel
theorem dX4_thrown_1 : decode cX4_thrown 1 = .ok (.getfield 98, 3) := by decide +kernel
theorem dX4_thrown_4 : decode cX4_thrown 4 = .ok (.ireturn, 1) := by decide +kernel
theorem dX4_can_0 : decode cX4_can 0 = .ok (.aload_n 0, 1) := by decide +kernel
theorem dX4_can_1 : decode cX4_can 1 = .ok (.iload_n 1, 1) := by decide +kernel
theorem dX4_can_2 : decode cX4_can 2 = .ok (.putfield 98, 3) := by decide +kernel
theorem dX4_can_5 : decode cX4_can 5 = .ok (.iload_n 1, 1) := by decide +kernel
theorem dX4_can_6 : decode cX4_can 6 = .ok (.ifCond .ne 7, 3) := by decide +kernel
theorem dX4_can_9 : decode cX4_can 9 = .ok (.iconst 1, 1) := by decide +kernel
theorem dX4_can_10 : decode cX4_can 10 = .ok (.goto 4, 3) := by decide +kernel
theorem dX4_can_13 : decode cX4_can 13 = .ok (.iconst 0, 1) := by decide +kernel
theorem dX4_can_14 : decode cX4_can 14 = .ok (.ireturn, 1) := by decide +kernel
theorem dX4_isIn_0 : decode cX4_isIn 0 = .ok (.iload_n 0, 1) := by decide +kernel
theorem dX4_isIn_1 : decode cX4_isIn 1 = .ok (.iload_n 1, 1) := by decide +kernel
theorem dX4_isIn_2 : decode cX4_isIn 2 = .ok (.if_icmp .lt 12, 3) := by decide +kernel
theorem dX4_isIn_5 : decode cX4_isIn 5 = .ok (.iload_n 0, 1) := by decide +kernel
theorem dX4_isIn_6 : decode cX4_isIn 6 = .ok (.iload_n 2, 1) := by decide +kernel
theorem dX4_isIn_7 : decode cX4_isIn 7 = .ok (.if_icmp .gt 7, 3) := by decide +kernel
theorem dX4_isIn_10 : decode cX4_isIn 10 = .ok (.iconst 1, 1) := by decide +kernel
theorem dX4_isIn_11 : decode cX4_isIn 11 = .ok (.goto 4, 3) := by decide +kernel
theorem dX4_isIn_14 : decode cX4_isIn 14 = .ok (.iconst 0, 1) := by decide +kernel
theorem dX4_isIn_15 : decode cX4_isIn 15 = .ok (.ireturn, 1) := by decide +kernel
theorem dX4_isStar_0 : decode cX4_isStar 0 = .ok (.iload_n 1, 1) := by decide +kernel
theorem dX4_isStar_1 : decode cX4_isStar 1 = .ok (.iconst 0, 1) := by decide +kernel
theorem dX4_isStar_2 : decode cX4_isStar 2 = .ok (.aload_n 0, 1) := by decide +kernel
theorem dX4_isStar_3 : decode cX4_isStar 3 = .ok (.getfield 101, 3) := by decide +kernel
theorem dX4_isStar_6 : decode cX4_isStar 6 = .ok (.iconst 1, 1) := by decide +kernel
theorem dX4_isStar_7 : decode cX4_isStar 7 = .ok (.isub, 1) := by decide +kernel
theorem dX4_isStar_8 : decode cX4_isStar 8 = .ok (.invokestatic 104, 3) := by decide +kernel
theorem dX4_isStar_11 : decode cX4_isStar 11 = .ok (.ireturn, 1) := by decide +kernel
theorem dX4_isFilter_0 : decode cX4_isFilter 0 = .ok (.iload_n 0, 1) := by decide +kernel
theorem dX4_isFilter_1 : decode cX4_isFilter 1 = .ok (.iconst 0, 1) := by decide +kernel
theorem dX4_isFilter_2 : decode cX4_isFilter 2 = .ok (.iconst 2, 1) := by decide +kernel
theorem dX4_isFilter_3 : decode cX4_isFilter 3 = .ok (.invokestatic 104, 3) := by decide +kernel
theorem dX4_isFilter_6 : decode cX4_isFilter 6 = .ok (.ireturn, 1) := by decide +kernel
theorem dX4_isTime_0 : decode cX4_isTime 0 = .ok (.iload_n 0, 1) := by decide +kernel
theorem dX4_isTime_1 : decode cX4_isTime 1 = .ok (.iconst 0, 1) := by decide +kernel
theorem dX4_isTime_2 : decode cX4_isTime 2 = .ok (.sipush 255, 3) := by decide +kernel
theorem dX4_isTime_5 : decode cX4_isTime 5 = .ok (.invokestatic 104, 3) := by decide +kernel
theorem dX4_isTime_8 : decode cX4_isTime 8 = .ok (.ireturn, 1) := by decide +kernel
theorem dX4_isClaim_0 : decode cX4_isClaim 0 = .ok (.iload_n 1, 1) := by decide +kernel
theorem dX4_isClaim_1 : decode cX4_isClaim 1 = .ok (.iconst 0, 1) := by decide +kernel
theorem dX4_isClaim_2 : decode cX4_isClaim 2 = .ok (.aload_n 0, 1) := by decide +kernel
theorem dX4_isClaim_3 : decode cX4_isClaim 3 = .ok (.getfield 108, 3) := by decide +kernel
theorem dX4_isClaim_6 : decode cX4_isClaim 6 = .ok (.iconst 1, 1) := by decide +kernel
theorem dX4_isClaim_7 : decode cX4_isClaim 7 = .ok (.isub, 1) := by decide +kernel
theorem dX4_isClaim_8 : decode cX4_isClaim 8 = .ok (.invokestatic 104, 3) := by decide +kernel
theorem dX4_isClaim_11 : decode cX4_isClaim 11 = .ok (.ireturn, 1) := by decide +kernel
theorem dX4_size_0 : decode cX4_size 0 = .ok (.lload_n 0, 1) := by decide +kernel
theorem dX4_size_1 : decode cX4_size 1 = .ok (.lconst 0, 1) := by decide +kernel
theorem dX4_size_2 : decode cX4_size 2 = .ok (.lcmp, 1) := by decide +kernel
theorem dX4_size_3 : decode cX4_size 3 = .ok (.ifCond .ge 8, 3) := by decide +kernel
theorem dX4_size_6 : decode cX4_size 6 = .ok (.lload_n 0, 1) := by decide +kernel
theorem dX4_size_7 : decode cX4_size 7 = .ok (.lneg, 1) := by decide +kernel
theorem dX4_size_8 : decode cX4_size 8 = .ok (.goto 4, 3) := by decide +kernel
theorem dX4_size_11 : decode cX4_size 11 = .ok (.lload_n 0, 1) := by decide +kernel
theorem dX4_size_12 : decode cX4_size 12 = .ok (.lreturn, 1) := by decide +kernel
theorem dX4_down_0 : decode cX4_down 0 = .ok (.lload_n 0, 1) := by decide +kernel
theorem dX4_down_1 : decode cX4_down 1 = .ok (.lconst 0, 1) := by decide +kernel
theorem dX4_down_2 : decode cX4_down 2 = .ok (.lcmp, 1) := by decide +kernel
theorem dX4_down_3 : decode cX4_down 3 = .ok (.ifCond .lt 9, 3) := by decide +kernel
theorem dX4_down_6 : decode cX4_down 6 = .ok (.lload_n 0, 1) := by decide +kernel
theorem dX4_down_7 : decode cX4_down 7 = .ok (.lload_n 2, 1) := by decide +kernel
theorem dX4_down_8 : decode cX4_down 8 = .ok (.ldiv, 1) := by decide +kernel
theorem dX4_down_9 : decode cX4_down 9 = .ok (.goto 12, 3) := by decide +kernel
theorem dX4_down_12 : decode cX4_down 12 = .ok (.lload_n 0, 1) := by decide +kernel
theorem dX4_down_13 : decode cX4_down 13 = .ok (.lneg, 1) := by decide +kernel
theorem dX4_down_14 : decode cX4_down 14 = .ok (.lload_n 2, 1) := by decide +kernel
theorem dX4_down_15 : decode cX4_down 15 = .ok (.ladd, 1) := by decide +kernel
theorem dX4_down_16 : decode cX4_down 16 = .ok (.lconst 1, 1) := by decide +kernel
theorem dX4_down_17 : decode cX4_down 17 = .ok (.lsub, 1) := by decide +kernel
theorem dX4_down_18 : decode cX4_down 18 = .ok (.lload_n 2, 1) := by decide +kernel
theorem dX4_down_19 : decode cX4_down 19 = .ok (.ldiv, 1) := by decide +kernel
theorem dX4_down_20 : decode cX4_down 20 = .ok (.lneg, 1) := by decide +kernel
theorem dX4_down_21 : decode cX4_down 21 = .ok (.lreturn, 1) := by decide +kernel
theorem dX4_shell_0 : decode cX4_shell 0 = .ok (.iload_n 1, 1) := by decide +kernel
theorem dX4_shell_1 : decode cX4_shell 1 = .ok (.iconst 1, 1) := by decide +kernel
theorem dX4_shell_2 : decode cX4_shell 2 = .ok (.bipush 99, 2) := by decide +kernel
theorem dX4_shell_4 : decode cX4_shell 4 = .ok (.invokestatic 104, 3) := by decide +kernel
theorem dX4_shell_7 : decode cX4_shell 7 = .ok (.ifCond .eq 27, 3) := by decide +kernel
theorem dX4_shell_10 : decode cX4_shell 10 = .ok (.iload_n 2, 1) := by decide +kernel
theorem dX4_shell_11 : decode cX4_shell 11 = .ok (.iconst 1, 1) := by decide +kernel
theorem dX4_shell_12 : decode cX4_shell 12 = .ok (.bipush 99, 2) := by decide +kernel
theorem dX4_shell_14 : decode cX4_shell 14 = .ok (.invokestatic 104, 3) := by decide +kernel
theorem dX4_shell_17 : decode cX4_shell 17 = .ok (.ifCond .eq 17, 3) := by decide +kernel
theorem dX4_shell_20 : decode cX4_shell 20 = .ok (.iload_n 3, 1) := by decide +kernel
theorem dX4_shell_21 : decode cX4_shell 21 = .ok (.iconst 0, 1) := by decide +kernel
theorem dX4_shell_22 : decode cX4_shell 22 = .ok (.bipush 9, 2) := by decide +kernel
theorem dX4_shell_24 : decode cX4_shell 24 = .ok (.invokestatic 104, 3) := by decide +kernel
theorem dX4_shell_27 : decode cX4_shell 27 = .ok (.ifCond .eq 7, 3) := by decide +kernel
theorem dX4_shell_30 : decode cX4_shell 30 = .ok (.iconst 1, 1) := by decide +kernel
theorem dX4_shell_31 : decode cX4_shell 31 = .ok (.goto 4, 3) := by decide +kernel
theorem dX4_shell_34 : decode cX4_shell 34 = .ok (.iconst 0, 1) := by decide +kernel
theorem dX4_shell_35 : decode cX4_shell 35 = .ok (.istore 4, 2) := by decide +kernel
theorem dX4_shell_37 : decode cX4_shell 37 = .ok (.aload_n 0, 1) := by decide +kernel
theorem dX4_shell_38 : decode cX4_shell 38 = .ok (.iload 4, 2) := by decide +kernel
theorem dX4_shell_40 : decode cX4_shell 40 = .ok (.ifCond .ne 7, 3) := by decide +kernel
theorem dX4_shell_43 : decode cX4_shell 43 = .ok (.iconst 1, 1) := by decide +kernel
theorem dX4_shell_44 : decode cX4_shell 44 = .ok (.goto 17, 3) := by decide +kernel
theorem dX4_shell_47 : decode cX4_shell 47 = .ok (.aload_n 0, 1) := by decide +kernel
theorem dX4_shell_48 : decode cX4_shell 48 = .ok (.getfield 111, 3) := by decide +kernel
theorem dX4_shell_51 : decode cX4_shell 51 = .ok (.bipush 8, 2) := by decide +kernel
theorem dX4_shell_53 : decode cX4_shell 53 = .ok (.if_icmp .ne 7, 3) := by decide +kernel
theorem dX4_shell_56 : decode cX4_shell 56 = .ok (.iconst 2, 1) := by decide +kernel
theorem dX4_shell_57 : decode cX4_shell 57 = .ok (.goto 4, 3) := by decide +kernel
theorem dX4_shell_60 : decode cX4_shell 60 = .ok (.iconst 0, 1) := by decide +kernel
theorem dX4_shell_61 : decode cX4_shell 61 = .ok (.invokevirtual 114, 3) := by decide +kernel
theorem dX4_shell_64 : decode cX4_shell 64 = .ok (.ifCond .ne 5, 3) := by decide +kernel
theorem dX4_shell_67 : decode cX4_shell 67 = .ok (.iconst 0, 1) := by decide +kernel
theorem dX4_shell_68 : decode cX4_shell 68 = .ok (.ireturn, 1) := by decide +kernel
theorem dX4_shell_69 : decode cX4_shell 69 = .ok (.aload_n 0, 1) := by decide +kernel
theorem dX4_shell_70 : decode cX4_shell 70 = .ok (.getfield 7, 3) := by decide +kernel
theorem dX4_shell_73 : decode cX4_shell 73 = .ok (.aload_n 0, 1) := by decide +kernel
theorem dX4_shell_74 : decode cX4_shell 74 = .ok (.getfield 111, 3) := by decide +kernel
theorem dX4_shell_77 : decode cX4_shell 77 = .ok (.iload_n 1, 1) := by decide +kernel
theorem dX4_shell_78 : decode cX4_shell 78 = .ok (.iastore, 1) := by decide +kernel
theorem dX4_shell_79 : decode cX4_shell 79 = .ok (.aload_n 0, 1) := by decide +kernel
theorem dX4_shell_80 : decode cX4_shell 80 = .ok (.getfield 13, 3) := by decide +kernel
theorem dX4_shell_83 : decode cX4_shell 83 = .ok (.aload_n 0, 1) := by decide +kernel
theorem dX4_shell_84 : decode cX4_shell 84 = .ok (.getfield 111, 3) := by decide +kernel
theorem dX4_shell_87 : decode cX4_shell 87 = .ok (.iload_n 2, 1) := by decide +kernel
theorem dX4_shell_88 : decode cX4_shell 88 = .ok (.iastore, 1) := by decide +kernel
theorem dX4_shell_89 : decode cX4_shell 89 = .ok (.aload_n 0, 1) := by decide +kernel
theorem dX4_shell_90 : decode cX4_shell 90 = .ok (.getfield 16, 3) := by decide +kernel
theorem dX4_shell_93 : decode cX4_shell 93 = .ok (.aload_n 0, 1) := by decide +kernel
theorem dX4_shell_94 : decode cX4_shell 94 = .ok (.getfield 111, 3) := by decide +kernel
theorem dX4_shell_97 : decode cX4_shell 97 = .ok (.iload_n 3, 1) := by decide +kernel
theorem dX4_shell_98 : decode cX4_shell 98 = .ok (.iastore, 1) := by decide +kernel
theorem dX4_shell_99 : decode cX4_shell 99 = .ok (.aload_n 0, 1) := by decide +kernel
theorem dX4_shell_100 : decode cX4_shell 100 = .ok (.dup, 1) := by decide +kernel
theorem dX4_shell_101 : decode cX4_shell 101 = .ok (.getfield 111, 3) := by decide +kernel
theorem dX4_shell_104 : decode cX4_shell 104 = .ok (.iconst 1, 1) := by decide +kernel
theorem dX4_shell_105 : decode cX4_shell 105 = .ok (.iadd, 1) := by decide +kernel
theorem dX4_shell_106 : decode cX4_shell 106 = .ok (.putfield 111, 3) := by decide +kernel
theorem dX4_shell_109 : decode cX4_shell 109 = .ok (.aload_n 0, 1) := by decide +kernel
theorem dX4_shell_110 : decode cX4_shell 110 = .ok (.getfield 111, 3) := by decide +kernel
theorem dX4_shell_113 : decode cX4_shell 113 = .ok (.ireturn, 1) := by decide +kernel
theorem dX4_star_0 : decode cX4_star 0 = .ok (.aload_n 0, 1) := by decide +kernel
theorem dX4_star_1 : decode cX4_star 1 = .ok (.iload_n 1, 1) := by decide +kernel
theorem dX4_star_2 : decode cX4_star 2 = .ok (.iconst 0, 1) := by decide +kernel
theorem dX4_star_3 : decode cX4_star 3 = .ok (.bipush 99, 2) := by decide +kernel
theorem dX4_star_5 : decode cX4_star 5 = .ok (.invokestatic 104, 3) := by decide +kernel
theorem dX4_star_8 : decode cX4_star 8 = .ok (.ifCond .ne 7, 3) := by decide +kernel
theorem dX4_star_11 : decode cX4_star 11 = .ok (.iconst 1, 1) := by decide +kernel
theorem dX4_star_12 : decode cX4_star 12 = .ok (.goto 24, 3) := by decide +kernel
theorem dX4_star_15 : decode cX4_star 15 = .ok (.aload_n 0, 1) := by decide +kernel
theorem dX4_star_16 : decode cX4_star 16 = .ok (.getfield 111, 3) := by decide +kernel
theorem dX4_star_19 : decode cX4_star 19 = .ok (.ifCond .eq 12, 3) := by decide +kernel
theorem dX4_star_22 : decode cX4_star 22 = .ok (.aload_n 0, 1) := by decide +kernel
theorem dX4_star_23 : decode cX4_star 23 = .ok (.getfield 101, 3) := by decide +kernel
theorem dX4_star_26 : decode cX4_star 26 = .ok (.bipush 6, 2) := by decide +kernel
theorem dX4_star_28 : decode cX4_star 28 = .ok (.if_icmp .ne 7, 3) := by decide +kernel
theorem dX4_star_31 : decode cX4_star 31 = .ok (.iconst 2, 1) := by decide +kernel
theorem dX4_star_32 : decode cX4_star 32 = .ok (.goto 4, 3) := by decide +kernel
theorem dX4_star_35 : decode cX4_star 35 = .ok (.iconst 0, 1) := by decide +kernel
theorem dX4_star_36 : decode cX4_star 36 = .ok (.invokevirtual 114, 3) := by decide +kernel
theorem dX4_star_39 : decode cX4_star 39 = .ok (.ifCond .ne 5, 3) := by decide +kernel
theorem dX4_star_42 : decode cX4_star 42 = .ok (.iconst 0, 1) := by decide +kernel
theorem dX4_star_43 : decode cX4_star 43 = .ok (.ireturn, 1) := by decide +kernel
theorem dX4_star_44 : decode cX4_star 44 = .ok (.iconst 0, 1) := by decide +kernel
theorem dX4_star_45 : decode cX4_star 45 = .ok (.istore_n 2, 1) := by decide +kernel
theorem dX4_star_46 : decode cX4_star 46 = .ok (.iconst 0, 1) := by decide +kernel
theorem dX4_star_47 : decode cX4_star 47 = .ok (.istore_n 3, 1) := by decide +kernel
theorem dX4_star_48 : decode cX4_star 48 = .ok (.iconst 0, 1) := by decide +kernel
theorem dX4_star_49 : decode cX4_star 49 = .ok (.istore 4, 2) := by decide +kernel
theorem dX4_star_51 : decode cX4_star 51 = .ok (.iconst 0, 1) := by decide +kernel
theorem dX4_star_52 : decode cX4_star 52 = .ok (.istore 5, 2) := by decide +kernel
theorem dX4_star_54 : decode cX4_star 54 = .ok (.iconst 0, 1) := by decide +kernel
theorem dX4_star_55 : decode cX4_star 55 = .ok (.istore 6, 2) := by decide +kernel
theorem dX4_star_57 : decode cX4_star 57 = .ok (.iload 6, 2) := by decide +kernel
theorem dX4_star_59 : decode cX4_star 59 = .ok (.aload_n 0, 1) := by decide +kernel
theorem dX4_star_60 : decode cX4_star 60 = .ok (.getfield 111, 3) := by decide +kernel
theorem dX4_star_63 : decode cX4_star 63 = .ok (.if_icmp .ge 117, 3) := by decide +kernel
theorem dX4_star_66 : decode cX4_star 66 = .ok (.iload_n 2, 1) := by decide +kernel
theorem dX4_star_67 : decode cX4_star 67 = .ok (.sipush 1000, 3) := by decide +kernel
theorem dX4_star_70 : decode cX4_star 70 = .ok (.aload_n 0, 1) := by decide +kernel
theorem dX4_star_71 : decode cX4_star 71 = .ok (.getfield 7, 3) := by decide +kernel
theorem dX4_star_74 : decode cX4_star 74 = .ok (.iload 6, 2) := by decide +kernel
theorem dX4_star_76 : decode cX4_star 76 = .ok (.iaload, 1) := by decide +kernel
theorem dX4_star_77 : decode cX4_star 77 = .ok (.imul, 1) := by decide +kernel
theorem dX4_star_78 : decode cX4_star 78 = .ok (.aload_n 0, 1) := by decide +kernel
theorem dX4_star_79 : decode cX4_star 79 = .ok (.getfield 13, 3) := by decide +kernel
theorem dX4_star_82 : decode cX4_star 82 = .ok (.iload 6, 2) := by decide +kernel
theorem dX4_star_84 : decode cX4_star 84 = .ok (.iaload, 1) := by decide +kernel
theorem dX4_star_85 : decode cX4_star 85 = .ok (.idiv, 1) := by decide +kernel
theorem dX4_star_86 : decode cX4_star 86 = .ok (.iadd, 1) := by decide +kernel
theorem dX4_star_87 : decode cX4_star 87 = .ok (.istore_n 2, 1) := by decide +kernel
theorem dX4_star_88 : decode cX4_star 88 = .ok (.iload_n 3, 1) := by decide +kernel
theorem dX4_star_89 : decode cX4_star 89 = .ok (.iload 6, 2) := by decide +kernel
theorem dX4_star_91 : decode cX4_star 91 = .ok (.iconst 1, 1) := by decide +kernel
theorem dX4_star_92 : decode cX4_star 92 = .ok (.iadd, 1) := by decide +kernel
theorem dX4_star_93 : decode cX4_star 93 = .ok (.aload_n 0, 1) := by decide +kernel
theorem dX4_star_94 : decode cX4_star 94 = .ok (.getfield 111, 3) := by decide +kernel
theorem dX4_star_97 : decode cX4_star 97 = .ok (.if_icmp .ge 42, 3) := by decide +kernel
theorem dX4_star_100 : decode cX4_star 100 = .ok (.aload_n 0, 1) := by decide +kernel
theorem dX4_star_101 : decode cX4_star 101 = .ok (.getfield 13, 3) := by decide +kernel
theorem dX4_star_104 : decode cX4_star 104 = .ok (.iload 6, 2) := by decide +kernel
theorem dX4_star_106 : decode cX4_star 106 = .ok (.iaload, 1) := by decide +kernel
theorem dX4_star_107 : decode cX4_star 107 = .ok (.aload_n 0, 1) := by decide +kernel
theorem dX4_star_108 : decode cX4_star 108 = .ok (.getfield 13, 3) := by decide +kernel
theorem dX4_star_111 : decode cX4_star 111 = .ok (.iload 6, 2) := by decide +kernel
theorem dX4_star_113 : decode cX4_star 113 = .ok (.iconst 1, 1) := by decide +kernel
theorem dX4_star_114 : decode cX4_star 114 = .ok (.iadd, 1) := by decide +kernel
theorem dX4_star_115 : decode cX4_star 115 = .ok (.iaload, 1) := by decide +kernel
theorem dX4_star_116 : decode cX4_star 116 = .ok (.if_icmp .le 23, 3) := by decide +kernel
theorem dX4_star_119 : decode cX4_star 119 = .ok (.aload_n 0, 1) := by decide +kernel
theorem dX4_star_120 : decode cX4_star 120 = .ok (.getfield 13, 3) := by decide +kernel
theorem dX4_star_123 : decode cX4_star 123 = .ok (.iload 6, 2) := by decide +kernel
theorem dX4_star_125 : decode cX4_star 125 = .ok (.iaload, 1) := by decide +kernel
theorem dX4_star_126 : decode cX4_star 126 = .ok (.aload_n 0, 1) := by decide +kernel
theorem dX4_star_127 : decode cX4_star 127 = .ok (.getfield 13, 3) := by decide +kernel
theorem dX4_star_130 : decode cX4_star 130 = .ok (.iload 6, 2) := by decide +kernel
theorem dX4_star_132 : decode cX4_star 132 = .ok (.iconst 1, 1) := by decide +kernel
theorem dX4_star_133 : decode cX4_star 133 = .ok (.iadd, 1) := by decide +kernel
theorem dX4_star_134 : decode cX4_star 134 = .ok (.iaload, 1) := by decide +kernel
theorem dX4_star_135 : decode cX4_star 135 = .ok (.isub, 1) := by decide +kernel
theorem dX4_star_136 : decode cX4_star 136 = .ok (.goto 4, 3) := by decide +kernel
theorem dX4_star_139 : decode cX4_star 139 = .ok (.iconst 0, 1) := by decide +kernel
theorem dX4_star_140 : decode cX4_star 140 = .ok (.iadd, 1) := by decide +kernel
theorem dX4_star_141 : decode cX4_star 141 = .ok (.istore_n 3, 1) := by decide +kernel
theorem dX4_star_142 : decode cX4_star 142 = .ok (.iload 4, 2) := by decide +kernel
theorem dX4_star_144 : decode cX4_star 144 = .ok (.aload_n 0, 1) := by decide +kernel
theorem dX4_star_145 : decode cX4_star 145 = .ok (.getfield 7, 3) := by decide +kernel
theorem dX4_star_148 : decode cX4_star 148 = .ok (.iload 6, 2) := by decide +kernel
theorem dX4_star_150 : decode cX4_star 150 = .ok (.iaload, 1) := by decide +kernel
theorem dX4_star_151 : decode cX4_star 151 = .ok (.iadd, 1) := by decide +kernel
theorem dX4_star_152 : decode cX4_star 152 = .ok (.istore 4, 2) := by decide +kernel
theorem dX4_star_154 : decode cX4_star 154 = .ok (.iload 5, 2) := by decide +kernel
theorem dX4_star_156 : decode cX4_star 156 = .ok (.aload_n 0, 1) := by decide +kernel
theorem dX4_star_157 : decode cX4_star 157 = .ok (.getfield 7, 3) := by decide +kernel
theorem dX4_star_160 : decode cX4_star 160 = .ok (.iload 6, 2) := by decide +kernel
theorem dX4_star_162 : decode cX4_star 162 = .ok (.iaload, 1) := by decide +kernel
theorem dX4_star_163 : decode cX4_star 163 = .ok (.aload_n 0, 1) := by decide +kernel
theorem dX4_star_164 : decode cX4_star 164 = .ok (.getfield 16, 3) := by decide +kernel
theorem dX4_star_167 : decode cX4_star 167 = .ok (.iload 6, 2) := by decide +kernel
theorem dX4_star_169 : decode cX4_star 169 = .ok (.iaload, 1) := by decide +kernel
theorem dX4_star_170 : decode cX4_star 170 = .ok (.imul, 1) := by decide +kernel
theorem dX4_star_171 : decode cX4_star 171 = .ok (.iadd, 1) := by decide +kernel
theorem dX4_star_172 : decode cX4_star 172 = .ok (.istore 5, 2) := by decide +kernel
theorem dX4_star_174 : decode cX4_star 174 = .ok (.iinc 6 1, 3) := by decide +kernel
theorem dX4_star_177 : decode cX4_star 177 = .ok (.goto (-120), 3) := by decide +kernel
theorem dX4_star_180 : decode cX4_star 180 = .ok (.aload_n 0, 1) := by decide +kernel
theorem dX4_star_181 : decode cX4_star 181 = .ok (.getfield 19, 3) := by decide +kernel
theorem dX4_star_184 : decode cX4_star 184 = .ok (.aload_n 0, 1) := by decide +kernel
theorem dX4_star_185 : decode cX4_star 185 = .ok (.getfield 101, 3) := by decide +kernel
theorem dX4_star_188 : decode cX4_star 188 = .ok (.iload_n 1, 1) := by decide +kernel
theorem dX4_star_189 : decode cX4_star 189 = .ok (.iastore, 1) := by decide +kernel
theorem dX4_star_190 : decode cX4_star 190 = .ok (.aload_n 0, 1) := by decide +kernel
theorem dX4_star_191 : decode cX4_star 191 = .ok (.getfield 22, 3) := by decide +kernel
theorem dX4_star_194 : decode cX4_star 194 = .ok (.aload_n 0, 1) := by decide +kernel
theorem dX4_star_195 : decode cX4_star 195 = .ok (.getfield 101, 3) := by decide +kernel
theorem dX4_star_198 : decode cX4_star 198 = .ok (.iload_n 2, 1) := by decide +kernel
theorem dX4_star_199 : decode cX4_star 199 = .ok (.iastore, 1) := by decide +kernel
theorem dX4_star_200 : decode cX4_star 200 = .ok (.aload_n 0, 1) := by decide +kernel
theorem dX4_star_201 : decode cX4_star 201 = .ok (.getfield 25, 3) := by decide +kernel
theorem dX4_star_204 : decode cX4_star 204 = .ok (.aload_n 0, 1) := by decide +kernel
theorem dX4_star_205 : decode cX4_star 205 = .ok (.getfield 101, 3) := by decide +kernel
theorem dX4_star_208 : decode cX4_star 208 = .ok (.ldc 118, 2) := by decide +kernel
theorem dX4_star_210 : decode cX4_star 210 = .ok (.iload_n 2, 1) := by decide +kernel
theorem dX4_star_211 : decode cX4_star 211 = .ok (.idiv, 1) := by decide +kernel
theorem dX4_star_212 : decode cX4_star 212 = .ok (.iastore, 1) := by decide +kernel
theorem dX4_star_213 : decode cX4_star 213 = .ok (.aload_n 0, 1) := by decide +kernel
theorem dX4_star_214 : decode cX4_star 214 = .ok (.getfield 28, 3) := by decide +kernel
theorem dX4_star_217 : decode cX4_star 217 = .ok (.aload_n 0, 1) := by decide +kernel
theorem dX4_star_218 : decode cX4_star 218 = .ok (.getfield 101, 3) := by decide +kernel
theorem dX4_star_221 : decode cX4_star 221 = .ok (.iload_n 3, 1) := by decide +kernel
theorem dX4_star_222 : decode cX4_star 222 = .ok (.iastore, 1) := by decide +kernel
theorem dX4_star_223 : decode cX4_star 223 = .ok (.aload_n 0, 1) := by decide +kernel
theorem dX4_star_224 : decode cX4_star 224 = .ok (.getfield 31, 3) := by decide +kernel
theorem dX4_star_227 : decode cX4_star 227 = .ok (.aload_n 0, 1) := by decide +kernel
theorem dX4_star_228 : decode cX4_star 228 = .ok (.getfield 101, 3) := by decide +kernel
theorem dX4_star_231 : decode cX4_star 231 = .ok (.iload 5, 2) := by decide +kernel
theorem dX4_star_233 : decode cX4_star 233 = .ok (.iload 4, 2) := by decide +kernel
theorem dX4_star_235 : decode cX4_star 235 = .ok (.idiv, 1) := by decide +kernel
theorem dX4_star_236 : decode cX4_star 236 = .ok (.iastore, 1) := by decide +kernel
theorem dX4_star_237 : decode cX4_star 237 = .ok (.aload_n 0, 1) := by decide +kernel
theorem dX4_star_238 : decode cX4_star 238 = .ok (.getfield 34, 3) := by decide +kernel
theorem dX4_star_241 : decode cX4_star 241 = .ok (.aload_n 0, 1) := by decide +kernel
theorem dX4_star_242 : decode cX4_star 242 = .ok (.getfield 101, 3) := by decide +kernel
theorem dX4_star_245 : decode cX4_star 245 = .ok (.iconst 3, 1) := by decide +kernel
theorem dX4_star_246 : decode cX4_star 246 = .ok (.aload_n 0, 1) := by decide +kernel
theorem dX4_star_247 : decode cX4_star 247 = .ok (.getfield 25, 3) := by decide +kernel
theorem dX4_star_250 : decode cX4_star 250 = .ok (.aload_n 0, 1) := by decide +kernel
theorem dX4_star_251 : decode cX4_star 251 = .ok (.getfield 101, 3) := by decide +kernel
theorem dX4_star_254 : decode cX4_star 254 = .ok (.iaload, 1) := by decide +kernel
theorem dX4_star_255 : decode cX4_star 255 = .ok (.imul, 1) := by decide +kernel
theorem dX4_star_256 : decode cX4_star 256 = .ok (.bipush 100, 2) := by decide +kernel
theorem dX4_star_258 : decode cX4_star 258 = .ok (.aload_n 0, 1) := by decide +kernel
theorem dX4_star_259 : decode cX4_star 259 = .ok (.getfield 13, 3) := by decide +kernel
theorem dX4_star_262 : decode cX4_star 262 = .ok (.iconst 0, 1) := by decide +kernel
theorem dX4_star_263 : decode cX4_star 263 = .ok (.iaload, 1) := by decide +kernel
theorem dX4_star_264 : decode cX4_star 264 = .ok (.imul, 1) := by decide +kernel
theorem dX4_star_265 : decode cX4_star 265 = .ok (.iadd, 1) := by decide +kernel
theorem dX4_star_266 : decode cX4_star 266 = .ok (.iastore, 1) := by decide +kernel
theorem dX4_star_267 : decode cX4_star 267 = .ok (.aload_n 0, 1) := by decide +kernel
theorem dX4_star_268 : decode cX4_star 268 = .ok (.iconst 0, 1) := by decide +kernel
theorem dX4_star_269 : decode cX4_star 269 = .ok (.putfield 111, 3) := by decide +kernel
theorem dX4_star_272 : decode cX4_star 272 = .ok (.aload_n 0, 1) := by decide +kernel
theorem dX4_star_273 : decode cX4_star 273 = .ok (.dup, 1) := by decide +kernel
theorem dX4_star_274 : decode cX4_star 274 = .ok (.getfield 101, 3) := by decide +kernel
theorem dX4_star_277 : decode cX4_star 277 = .ok (.iconst 1, 1) := by decide +kernel
theorem dX4_star_278 : decode cX4_star 278 = .ok (.iadd, 1) := by decide +kernel
theorem dX4_star_279 : decode cX4_star 279 = .ok (.putfield 101, 3) := by decide +kernel
theorem dX4_star_282 : decode cX4_star 282 = .ok (.aload_n 0, 1) := by decide +kernel
theorem dX4_star_283 : decode cX4_star 283 = .ok (.getfield 101, 3) := by decide +kernel
theorem dX4_star_286 : decode cX4_star 286 = .ok (.iconst 1, 1) := by decide +kernel
theorem dX4_star_287 : decode cX4_star 287 = .ok (.isub, 1) := by decide +kernel
theorem dX4_star_288 : decode cX4_star 288 = .ok (.ireturn, 1) := by decide +kernel
theorem dX4_toneOf_0 : decode cX4_toneOf 0 = .ok (.aload_n 0, 1) := by decide +kernel
theorem dX4_toneOf_1 : decode cX4_toneOf 1 = .ok (.getfield 25, 3) := by decide +kernel
theorem dX4_toneOf_4 : decode cX4_toneOf 4 = .ok (.iload_n 1, 1) := by decide +kernel
theorem dX4_toneOf_5 : decode cX4_toneOf 5 = .ok (.iaload, 1) := by decide +kernel
theorem dX4_toneOf_6 : decode cX4_toneOf 6 = .ok (.iconst 2, 1) := by decide +kernel
theorem dX4_toneOf_7 : decode cX4_toneOf 7 = .ok (.iload_n 2, 1) := by decide +kernel
theorem dX4_toneOf_8 : decode cX4_toneOf 8 = .ok (.imul, 1) := by decide +kernel
theorem dX4_toneOf_9 : decode cX4_toneOf 9 = .ok (.iload_n 3, 1) := by decide +kernel
theorem dX4_toneOf_10 : decode cX4_toneOf 10 = .ok (.iadd, 1) := by decide +kernel
theorem dX4_toneOf_11 : decode cX4_toneOf 11 = .ok (.iconst 3, 1) := by decide +kernel
theorem dX4_toneOf_12 : decode cX4_toneOf 12 = .ok (.iadd, 1) := by decide +kernel
theorem dX4_toneOf_13 : decode cX4_toneOf 13 = .ok (.imul, 1) := by decide +kernel
theorem dX4_toneOf_14 : decode cX4_toneOf 14 = .ok (.iconst 2, 1) := by decide +kernel
theorem dX4_toneOf_15 : decode cX4_toneOf 15 = .ok (.idiv, 1) := by decide +kernel
theorem dX4_toneOf_16 : decode cX4_toneOf 16 = .ok (.aload_n 0, 1) := by decide +kernel
theorem dX4_toneOf_17 : decode cX4_toneOf 17 = .ok (.getfield 28, 3) := by decide +kernel
theorem dX4_toneOf_20 : decode cX4_toneOf 20 = .ok (.iload_n 1, 1) := by decide +kernel
theorem dX4_toneOf_21 : decode cX4_toneOf 21 = .ok (.iaload, 1) := by decide +kernel
theorem dX4_toneOf_22 : decode cX4_toneOf 22 = .ok (.iload_n 3, 1) := by decide +kernel
theorem dX4_toneOf_23 : decode cX4_toneOf 23 = .ok (.imul, 1) := by decide +kernel
theorem dX4_toneOf_24 : decode cX4_toneOf 24 = .ok (.iload_n 3, 1) := by decide +kernel
theorem dX4_toneOf_25 : decode cX4_toneOf 25 = .ok (.iconst 1, 1) := by decide +kernel
theorem dX4_toneOf_26 : decode cX4_toneOf 26 = .ok (.iadd, 1) := by decide +kernel
theorem dX4_toneOf_27 : decode cX4_toneOf 27 = .ok (.imul, 1) := by decide +kernel
theorem dX4_toneOf_28 : decode cX4_toneOf 28 = .ok (.isub, 1) := by decide +kernel
theorem dX4_toneOf_29 : decode cX4_toneOf 29 = .ok (.istore 5, 2) := by decide +kernel
theorem dX4_toneOf_31 : decode cX4_toneOf 31 = .ok (.iload 5, 2) := by decide +kernel
theorem dX4_toneOf_33 : decode cX4_toneOf 33 = .ok (.aload_n 0, 1) := by decide +kernel
theorem dX4_toneOf_34 : decode cX4_toneOf 34 = .ok (.getfield 34, 3) := by decide +kernel
theorem dX4_toneOf_37 : decode cX4_toneOf 37 = .ok (.iload_n 1, 1) := by decide +kernel
theorem dX4_toneOf_38 : decode cX4_toneOf 38 = .ok (.iaload, 1) := by decide +kernel
theorem dX4_toneOf_39 : decode cX4_toneOf 39 = .ok (.isub, 1) := by decide +kernel
theorem dX4_toneOf_40 : decode cX4_toneOf 40 = .ok (.istore 6, 2) := by decide +kernel
theorem dX4_toneOf_42 : decode cX4_toneOf 42 = .ok (.sipush 500, 3) := by decide +kernel
theorem dX4_toneOf_45 : decode cX4_toneOf 45 = .ok (.iload 6, 2) := by decide +kernel
theorem dX4_toneOf_47 : decode cX4_toneOf 47 = .ok (.ifCond .ge 9, 3) := by decide +kernel
theorem dX4_toneOf_50 : decode cX4_toneOf 50 = .ok (.iload 6, 2) := by decide +kernel
theorem dX4_toneOf_52 : decode cX4_toneOf 52 = .ok (.ineg, 1) := by decide +kernel
theorem dX4_toneOf_53 : decode cX4_toneOf 53 = .ok (.goto 5, 3) := by decide +kernel
theorem dX4_toneOf_56 : decode cX4_toneOf 56 = .ok (.iload 6, 2) := by decide +kernel
theorem dX4_toneOf_58 : decode cX4_toneOf 58 = .ok (.isub, 1) := by decide +kernel
theorem dX4_toneOf_59 : decode cX4_toneOf 59 = .ok (.istore 7, 2) := by decide +kernel
theorem dX4_toneOf_61 : decode cX4_toneOf 61 = .ok (.iload_n 3, 1) := by decide +kernel
theorem dX4_toneOf_62 : decode cX4_toneOf 62 = .ok (.iconst 1, 1) := by decide +kernel
theorem dX4_toneOf_63 : decode cX4_toneOf 63 = .ok (.if_icmp .ne 30, 3) := by decide +kernel
theorem dX4_toneOf_66 : decode cX4_toneOf 66 = .ok (.iload 7, 2) := by decide +kernel
theorem dX4_toneOf_68 : decode cX4_toneOf 68 = .ok (.ifCond .le 25, 3) := by decide +kernel
theorem dX4_toneOf_71 : decode cX4_toneOf 71 = .ok (.iload 5, 2) := by decide +kernel
theorem dX4_toneOf_73 : decode cX4_toneOf 73 = .ok (.iload 6, 2) := by decide +kernel
theorem dX4_toneOf_75 : decode cX4_toneOf 75 = .ok (.ifCond .ge 11, 3) := by decide +kernel
theorem dX4_toneOf_78 : decode cX4_toneOf 78 = .ok (.iload 7, 2) := by decide +kernel
theorem dX4_toneOf_80 : decode cX4_toneOf 80 = .ok (.iconst 2, 1) := by decide +kernel
theorem dX4_toneOf_81 : decode cX4_toneOf 81 = .ok (.idiv, 1) := by decide +kernel
theorem dX4_toneOf_82 : decode cX4_toneOf 82 = .ok (.ineg, 1) := by decide +kernel
theorem dX4_toneOf_83 : decode cX4_toneOf 83 = .ok (.goto 7, 3) := by decide +kernel
theorem dX4_toneOf_86 : decode cX4_toneOf 86 = .ok (.iload 7, 2) := by decide +kernel
theorem dX4_toneOf_88 : decode cX4_toneOf 88 = .ok (.iconst 2, 1) := by decide +kernel
theorem dX4_toneOf_89 : decode cX4_toneOf 89 = .ok (.idiv, 1) := by decide +kernel
theorem dX4_toneOf_90 : decode cX4_toneOf 90 = .ok (.iadd, 1) := by decide +kernel
theorem dX4_toneOf_91 : decode cX4_toneOf 91 = .ok (.istore 5, 2) := by decide +kernel
theorem dX4_toneOf_93 : decode cX4_toneOf 93 = .ok (.iload 5, 2) := by decide +kernel
theorem dX4_toneOf_95 : decode cX4_toneOf 95 = .ok (.bipush 10, 2) := by decide +kernel
theorem dX4_toneOf_97 : decode cX4_toneOf 97 = .ok (.aload_n 0, 1) := by decide +kernel
theorem dX4_toneOf_98 : decode cX4_toneOf 98 = .ok (.getfield 31, 3) := by decide +kernel
theorem dX4_toneOf_101 : decode cX4_toneOf 101 = .ok (.iload_n 1, 1) := by decide +kernel
theorem dX4_toneOf_102 : decode cX4_toneOf 102 = .ok (.iaload, 1) := by decide +kernel
theorem dX4_toneOf_103 : decode cX4_toneOf 103 = .ok (.imul, 1) := by decide +kernel
theorem dX4_toneOf_104 : decode cX4_toneOf 104 = .ok (.iload 4, 2) := by decide +kernel
theorem dX4_toneOf_106 : decode cX4_toneOf 106 = .ok (.imul, 1) := by decide +kernel
theorem dX4_toneOf_107 : decode cX4_toneOf 107 = .ok (.iadd, 1) := by decide +kernel
theorem dX4_toneOf_108 : decode cX4_toneOf 108 = .ok (.ireturn, 1) := by decide +kernel
theorem dX4_ofStar_0 : decode cX4_ofStar 0 = .ok (.aload_n 0, 1) := by decide +kernel
theorem dX4_ofStar_1 : decode cX4_ofStar 1 = .ok (.aload_n 0, 1) := by decide +kernel
theorem dX4_ofStar_2 : decode cX4_ofStar 2 = .ok (.iload_n 1, 1) := by decide +kernel
theorem dX4_ofStar_3 : decode cX4_ofStar 3 = .ok (.invokevirtual 119, 3) := by decide +kernel
theorem dX4_ofStar_6 : decode cX4_ofStar 6 = .ok (.ifCond .ne 7, 3) := by decide +kernel
theorem dX4_ofStar_9 : decode cX4_ofStar 9 = .ok (.iconst 1, 1) := by decide +kernel
theorem dX4_ofStar_10 : decode cX4_ofStar 10 = .ok (.goto 17, 3) := by decide +kernel
theorem dX4_ofStar_13 : decode cX4_ofStar 13 = .ok (.iload_n 2, 1) := by decide +kernel
theorem dX4_ofStar_14 : decode cX4_ofStar 14 = .ok (.iconst 0, 1) := by decide +kernel
theorem dX4_ofStar_15 : decode cX4_ofStar 15 = .ok (.iconst 5, 1) := by decide +kernel
theorem dX4_ofStar_16 : decode cX4_ofStar 16 = .ok (.invokestatic 104, 3) := by decide +kernel
theorem dX4_ofStar_19 : decode cX4_ofStar 19 = .ok (.ifCond .eq 7, 3) := by decide +kernel
theorem dX4_ofStar_22 : decode cX4_ofStar 22 = .ok (.iconst 0, 1) := by decide +kernel
theorem dX4_ofStar_23 : decode cX4_ofStar 23 = .ok (.goto 4, 3) := by decide +kernel
theorem dX4_ofStar_26 : decode cX4_ofStar 26 = .ok (.iconst 2, 1) := by decide +kernel
theorem dX4_ofStar_27 : decode cX4_ofStar 27 = .ok (.invokevirtual 114, 3) := by decide +kernel
theorem dX4_ofStar_30 : decode cX4_ofStar 30 = .ok (.ifCond .ne 5, 3) := by decide +kernel
theorem dX4_ofStar_33 : decode cX4_ofStar 33 = .ok (.iconst 0, 1) := by decide +kernel
theorem dX4_ofStar_34 : decode cX4_ofStar 34 = .ok (.ireturn, 1) := by decide +kernel
theorem dX4_ofStar_35 : decode cX4_ofStar 35 = .ok (.iload_n 2, 1) := by decide +kernel
theorem dX4_ofStar_36 : decode cX4_ofStar 36 = .ok (.tableswitch 71 0 4 #[36, 43, 50, 57, 64], 36) := by decide +kernel
theorem dX4_ofStar_72 : decode cX4_ofStar 72 = .ok (.aload_n 0, 1) := by decide +kernel
theorem dX4_ofStar_73 : decode cX4_ofStar 73 = .ok (.getfield 19, 3) := by decide +kernel
theorem dX4_ofStar_76 : decode cX4_ofStar 76 = .ok (.iload_n 1, 1) := by decide +kernel
theorem dX4_ofStar_77 : decode cX4_ofStar 77 = .ok (.iaload, 1) := by decide +kernel
theorem dX4_ofStar_78 : decode cX4_ofStar 78 = .ok (.ireturn, 1) := by decide +kernel
theorem dX4_ofStar_79 : decode cX4_ofStar 79 = .ok (.aload_n 0, 1) := by decide +kernel
theorem dX4_ofStar_80 : decode cX4_ofStar 80 = .ok (.getfield 22, 3) := by decide +kernel
theorem dX4_ofStar_83 : decode cX4_ofStar 83 = .ok (.iload_n 1, 1) := by decide +kernel
theorem dX4_ofStar_84 : decode cX4_ofStar 84 = .ok (.iaload, 1) := by decide +kernel
theorem dX4_ofStar_85 : decode cX4_ofStar 85 = .ok (.ireturn, 1) := by decide +kernel
theorem dX4_ofStar_86 : decode cX4_ofStar 86 = .ok (.aload_n 0, 1) := by decide +kernel
theorem dX4_ofStar_87 : decode cX4_ofStar 87 = .ok (.getfield 25, 3) := by decide +kernel
theorem dX4_ofStar_90 : decode cX4_ofStar 90 = .ok (.iload_n 1, 1) := by decide +kernel
theorem dX4_ofStar_91 : decode cX4_ofStar 91 = .ok (.iaload, 1) := by decide +kernel
theorem dX4_ofStar_92 : decode cX4_ofStar 92 = .ok (.ireturn, 1) := by decide +kernel
theorem dX4_ofStar_93 : decode cX4_ofStar 93 = .ok (.aload_n 0, 1) := by decide +kernel
theorem dX4_ofStar_94 : decode cX4_ofStar 94 = .ok (.getfield 28, 3) := by decide +kernel
theorem dX4_ofStar_97 : decode cX4_ofStar 97 = .ok (.iload_n 1, 1) := by decide +kernel
theorem dX4_ofStar_98 : decode cX4_ofStar 98 = .ok (.iaload, 1) := by decide +kernel
theorem dX4_ofStar_99 : decode cX4_ofStar 99 = .ok (.ireturn, 1) := by decide +kernel
theorem dX4_ofStar_100 : decode cX4_ofStar 100 = .ok (.aload_n 0, 1) := by decide +kernel
theorem dX4_ofStar_101 : decode cX4_ofStar 101 = .ok (.getfield 31, 3) := by decide +kernel
theorem dX4_ofStar_104 : decode cX4_ofStar 104 = .ok (.iload_n 1, 1) := by decide +kernel
theorem dX4_ofStar_105 : decode cX4_ofStar 105 = .ok (.iaload, 1) := by decide +kernel
theorem dX4_ofStar_106 : decode cX4_ofStar 106 = .ok (.ireturn, 1) := by decide +kernel
theorem dX4_ofStar_107 : decode cX4_ofStar 107 = .ok (.aload_n 0, 1) := by decide +kernel
theorem dX4_ofStar_108 : decode cX4_ofStar 108 = .ok (.getfield 34, 3) := by decide +kernel
theorem dX4_ofStar_111 : decode cX4_ofStar 111 = .ok (.iload_n 1, 1) := by decide +kernel
theorem dX4_ofStar_112 : decode cX4_ofStar 112 = .ok (.iaload, 1) := by decide +kernel
theorem dX4_ofStar_113 : decode cX4_ofStar 113 = .ok (.ireturn, 1) := by decide +kernel
theorem dX4_crossingAnew_0 : decode cX4_crossingAnew 0 = .ok (.aload_n 0, 1) := by decide +kernel
theorem dX4_crossingAnew_1 : decode cX4_crossingAnew 1 = .ok (.aload_n 0, 1) := by decide +kernel
theorem dX4_crossingAnew_2 : decode cX4_crossingAnew 2 = .ok (.iload_n 1, 1) := by decide +kernel
theorem dX4_crossingAnew_3 : decode cX4_crossingAnew 3 = .ok (.invokevirtual 119, 3) := by decide +kernel
theorem dX4_crossingAnew_6 : decode cX4_crossingAnew 6 = .ok (.ifCond .eq 7, 3) := by decide +kernel
theorem dX4_crossingAnew_9 : decode cX4_crossingAnew 9 = .ok (.iconst 0, 1) := by decide +kernel
theorem dX4_crossingAnew_10 : decode cX4_crossingAnew 10 = .ok (.goto 4, 3) := by decide +kernel
theorem dX4_crossingAnew_13 : decode cX4_crossingAnew 13 = .ok (.iconst 1, 1) := by decide +kernel
theorem dX4_crossingAnew_14 : decode cX4_crossingAnew 14 = .ok (.invokevirtual 114, 3) := by decide +kernel
theorem dX4_crossingAnew_17 : decode cX4_crossingAnew 17 = .ok (.ifCond .eq 12, 3) := by decide +kernel
theorem dX4_crossingAnew_20 : decode cX4_crossingAnew 20 = .ok (.aload_n 0, 1) := by decide +kernel
theorem dX4_crossingAnew_21 : decode cX4_crossingAnew 21 = .ok (.getfield 22, 3) := by decide +kernel
theorem dX4_crossingAnew_24 : decode cX4_crossingAnew 24 = .ok (.iload_n 1, 1) := by decide +kernel
theorem dX4_crossingAnew_25 : decode cX4_crossingAnew 25 = .ok (.iaload, 1) := by decide +kernel
theorem dX4_crossingAnew_26 : decode cX4_crossingAnew 26 = .ok (.goto 4, 3) := by decide +kernel
theorem dX4_crossingAnew_29 : decode cX4_crossingAnew 29 = .ok (.iconst 0, 1) := by decide +kernel
theorem dX4_crossingAnew_30 : decode cX4_crossingAnew 30 = .ok (.ireturn, 1) := by decide +kernel
theorem dX4_tone_0 : decode cX4_tone 0 = .ok (.iload_n 2, 1) := by decide +kernel
theorem dX4_tone_1 : decode cX4_tone 1 = .ok (.iconst 1, 1) := by decide +kernel
theorem dX4_tone_2 : decode cX4_tone 2 = .ok (.bipush 12, 2) := by decide +kernel
theorem dX4_tone_4 : decode cX4_tone 4 = .ok (.invokestatic 104, 3) := by decide +kernel
theorem dX4_tone_7 : decode cX4_tone 7 = .ok (.ifCond .eq 27, 3) := by decide +kernel
theorem dX4_tone_10 : decode cX4_tone 10 = .ok (.iload_n 3, 1) := by decide +kernel
theorem dX4_tone_11 : decode cX4_tone 11 = .ok (.iconst 0, 1) := by decide +kernel
theorem dX4_tone_12 : decode cX4_tone 12 = .ok (.iconst 3, 1) := by decide +kernel
theorem dX4_tone_13 : decode cX4_tone 13 = .ok (.invokestatic 104, 3) := by decide +kernel
theorem dX4_tone_16 : decode cX4_tone 16 = .ok (.ifCond .eq 18, 3) := by decide +kernel
theorem dX4_tone_19 : decode cX4_tone 19 = .ok (.iload 4, 2) := by decide +kernel
theorem dX4_tone_21 : decode cX4_tone 21 = .ok (.iload_n 3, 1) := by decide +kernel
theorem dX4_tone_22 : decode cX4_tone 22 = .ok (.ineg, 1) := by decide +kernel
theorem dX4_tone_23 : decode cX4_tone 23 = .ok (.iload_n 3, 1) := by decide +kernel
theorem dX4_tone_24 : decode cX4_tone 24 = .ok (.invokestatic 104, 3) := by decide +kernel
theorem dX4_tone_27 : decode cX4_tone 27 = .ok (.ifCond .eq 7, 3) := by decide +kernel
theorem dX4_tone_30 : decode cX4_tone 30 = .ok (.iconst 1, 1) := by decide +kernel
theorem dX4_tone_31 : decode cX4_tone 31 = .ok (.goto 4, 3) := by decide +kernel
theorem dX4_tone_34 : decode cX4_tone 34 = .ok (.iconst 0, 1) := by decide +kernel
theorem dX4_tone_35 : decode cX4_tone 35 = .ok (.istore 5, 2) := by decide +kernel
theorem dX4_tone_37 : decode cX4_tone 37 = .ok (.aload_n 0, 1) := by decide +kernel
theorem dX4_tone_38 : decode cX4_tone 38 = .ok (.aload_n 0, 1) := by decide +kernel
theorem dX4_tone_39 : decode cX4_tone 39 = .ok (.iload_n 1, 1) := by decide +kernel
theorem dX4_tone_40 : decode cX4_tone 40 = .ok (.invokevirtual 119, 3) := by decide +kernel
theorem dX4_tone_43 : decode cX4_tone 43 = .ok (.ifCond .ne 7, 3) := by decide +kernel
theorem dX4_tone_46 : decode cX4_tone 46 = .ok (.iconst 1, 1) := by decide +kernel
theorem dX4_tone_47 : decode cX4_tone 47 = .ok (.goto 13, 3) := by decide +kernel
theorem dX4_tone_50 : decode cX4_tone 50 = .ok (.iload 5, 2) := by decide +kernel
theorem dX4_tone_52 : decode cX4_tone 52 = .ok (.ifCond .eq 7, 3) := by decide +kernel
theorem dX4_tone_55 : decode cX4_tone 55 = .ok (.iconst 0, 1) := by decide +kernel
theorem dX4_tone_56 : decode cX4_tone 56 = .ok (.goto 4, 3) := by decide +kernel
theorem dX4_tone_59 : decode cX4_tone 59 = .ok (.iconst 2, 1) := by decide +kernel
theorem dX4_tone_60 : decode cX4_tone 60 = .ok (.invokevirtual 114, 3) := by decide +kernel
theorem dX4_tone_63 : decode cX4_tone 63 = .ok (.ifCond .eq 15, 3) := by decide +kernel
theorem dX4_tone_66 : decode cX4_tone 66 = .ok (.aload_n 0, 1) := by decide +kernel
theorem dX4_tone_67 : decode cX4_tone 67 = .ok (.iload_n 1, 1) := by decide +kernel
theorem dX4_tone_68 : decode cX4_tone 68 = .ok (.iload_n 2, 1) := by decide +kernel
theorem dX4_tone_69 : decode cX4_tone 69 = .ok (.iload_n 3, 1) := by decide +kernel
theorem dX4_tone_70 : decode cX4_tone 70 = .ok (.iload 4, 2) := by decide +kernel
theorem dX4_tone_72 : decode cX4_tone 72 = .ok (.invokevirtual 122, 3) := by decide +kernel
theorem dX4_tone_75 : decode cX4_tone 75 = .ok (.goto 4, 3) := by decide +kernel
theorem dX4_tone_78 : decode cX4_tone 78 = .ok (.iconst 0, 1) := by decide +kernel
theorem dX4_tone_79 : decode cX4_tone 79 = .ok (.ireturn, 1) := by decide +kernel
theorem dX4_frame_0 : decode cX4_frame 0 = .ok (.aload_n 0, 1) := by decide +kernel
theorem dX4_frame_1 : decode cX4_frame 1 = .ok (.iload_n 1, 1) := by decide +kernel
theorem dX4_frame_2 : decode cX4_frame 2 = .ok (.invokevirtual 119, 3) := by decide +kernel
theorem dX4_frame_5 : decode cX4_frame 5 = .ok (.ifCond .eq 16, 3) := by decide +kernel
theorem dX4_frame_8 : decode cX4_frame 8 = .ok (.iload_n 2, 1) := by decide +kernel
theorem dX4_frame_9 : decode cX4_frame 9 = .ok (.iconst 0, 1) := by decide +kernel
theorem dX4_frame_10 : decode cX4_frame 10 = .ok (.iconst 3, 1) := by decide +kernel
theorem dX4_frame_11 : decode cX4_frame 11 = .ok (.invokestatic 104, 3) := by decide +kernel
theorem dX4_frame_14 : decode cX4_frame 14 = .ok (.ifCond .eq 7, 3) := by decide +kernel
theorem dX4_frame_17 : decode cX4_frame 17 = .ok (.iconst 1, 1) := by decide +kernel
theorem dX4_frame_18 : decode cX4_frame 18 = .ok (.goto 4, 3) := by decide +kernel
theorem dX4_frame_21 : decode cX4_frame 21 = .ok (.iconst 0, 1) := by decide +kernel
theorem dX4_frame_22 : decode cX4_frame 22 = .ok (.istore 5, 2) := by decide +kernel
theorem dX4_frame_24 : decode cX4_frame 24 = .ok (.iload_n 3, 1) := by decide +kernel
theorem dX4_frame_25 : decode cX4_frame 25 = .ok (.invokestatic 126, 3) := by decide +kernel
theorem dX4_frame_28 : decode cX4_frame 28 = .ok (.ifCond .eq 19, 3) := by decide +kernel
theorem dX4_frame_31 : decode cX4_frame 31 = .ok (.iload 4, 2) := by decide +kernel
theorem dX4_frame_33 : decode cX4_frame 33 = .ok (.iconst 0, 1) := by decide +kernel
theorem dX4_frame_34 : decode cX4_frame 34 = .ok (.sipush 9999, 3) := by decide +kernel
theorem dX4_frame_37 : decode cX4_frame 37 = .ok (.invokestatic 104, 3) := by decide +kernel
theorem dX4_frame_40 : decode cX4_frame 40 = .ok (.ifCond .eq 7, 3) := by decide +kernel
theorem dX4_frame_43 : decode cX4_frame 43 = .ok (.iconst 1, 1) := by decide +kernel
theorem dX4_frame_44 : decode cX4_frame 44 = .ok (.goto 4, 3) := by decide +kernel
theorem dX4_frame_47 : decode cX4_frame 47 = .ok (.iconst 0, 1) := by decide +kernel
theorem dX4_frame_48 : decode cX4_frame 48 = .ok (.istore 6, 2) := by decide +kernel
theorem dX4_frame_50 : decode cX4_frame 50 = .ok (.aload_n 0, 1) := by decide +kernel
theorem dX4_frame_51 : decode cX4_frame 51 = .ok (.iload 5, 2) := by decide +kernel
theorem dX4_frame_53 : decode cX4_frame 53 = .ok (.ifCond .ne 7, 3) := by decide +kernel
theorem dX4_frame_56 : decode cX4_frame 56 = .ok (.iconst 1, 1) := by decide +kernel
theorem dX4_frame_57 : decode cX4_frame 57 = .ok (.goto 13, 3) := by decide +kernel
theorem dX4_frame_60 : decode cX4_frame 60 = .ok (.iload 6, 2) := by decide +kernel
theorem dX4_frame_62 : decode cX4_frame 62 = .ok (.ifCond .eq 7, 3) := by decide +kernel
theorem dX4_frame_65 : decode cX4_frame 65 = .ok (.iconst 0, 1) := by decide +kernel
theorem dX4_frame_66 : decode cX4_frame 66 = .ok (.goto 4, 3) := by decide +kernel
theorem dX4_frame_69 : decode cX4_frame 69 = .ok (.iconst 2, 1) := by decide +kernel
theorem dX4_frame_70 : decode cX4_frame 70 = .ok (.invokevirtual 114, 3) := by decide +kernel
theorem dX4_frame_73 : decode cX4_frame 73 = .ok (.ifCond .ne 5, 3) := by decide +kernel
theorem dX4_frame_76 : decode cX4_frame 76 = .ok (.iconst 0, 1) := by decide +kernel
theorem dX4_frame_77 : decode cX4_frame 77 = .ok (.ireturn, 1) := by decide +kernel
theorem dX4_frame_78 : decode cX4_frame 78 = .ok (.aload_n 0, 1) := by decide +kernel
theorem dX4_frame_79 : decode cX4_frame 79 = .ok (.getfield 37, 3) := by decide +kernel
theorem dX4_frame_82 : decode cX4_frame 82 = .ok (.sipush 256, 3) := by decide +kernel
theorem dX4_frame_85 : decode cX4_frame 85 = .ok (.iload_n 1, 1) := by decide +kernel
theorem dX4_frame_86 : decode cX4_frame 86 = .ok (.imul, 1) := by decide +kernel
theorem dX4_frame_87 : decode cX4_frame 87 = .ok (.iload_n 3, 1) := by decide +kernel
theorem dX4_frame_88 : decode cX4_frame 88 = .ok (.iadd, 1) := by decide +kernel
theorem dX4_frame_89 : decode cX4_frame 89 = .ok (.iaload, 1) := by decide +kernel
theorem dX4_frame_90 : decode cX4_frame 90 = .ok (.istore 7, 2) := by decide +kernel
theorem dX4_frame_92 : decode cX4_frame 92 = .ok (.aload_n 0, 1) := by decide +kernel
theorem dX4_frame_93 : decode cX4_frame 93 = .ok (.getfield 37, 3) := by decide +kernel
theorem dX4_frame_96 : decode cX4_frame 96 = .ok (.sipush 256, 3) := by decide +kernel
theorem dX4_frame_99 : decode cX4_frame 99 = .ok (.iload_n 1, 1) := by decide +kernel
theorem dX4_frame_100 : decode cX4_frame 100 = .ok (.imul, 1) := by decide +kernel
theorem dX4_frame_101 : decode cX4_frame 101 = .ok (.iload_n 3, 1) := by decide +kernel
theorem dX4_frame_102 : decode cX4_frame 102 = .ok (.iadd, 1) := by decide +kernel
theorem dX4_frame_103 : decode cX4_frame 103 = .ok (.iload 4, 2) := by decide +kernel
theorem dX4_frame_105 : decode cX4_frame 105 = .ok (.iastore, 1) := by decide +kernel
theorem dX4_frame_106 : decode cX4_frame 106 = .ok (.aload_n 0, 1) := by decide +kernel
theorem dX4_frame_107 : decode cX4_frame 107 = .ok (.getfield 40, 3) := by decide +kernel
theorem dX4_frame_110 : decode cX4_frame 110 = .ok (.sipush 256, 3) := by decide +kernel
theorem dX4_frame_113 : decode cX4_frame 113 = .ok (.iload_n 1, 1) := by decide +kernel
theorem dX4_frame_114 : decode cX4_frame 114 = .ok (.imul, 1) := by decide +kernel
theorem dX4_frame_115 : decode cX4_frame 115 = .ok (.iload_n 3, 1) := by decide +kernel
theorem dX4_frame_116 : decode cX4_frame 116 = .ok (.iadd, 1) := by decide +kernel
theorem dX4_frame_117 : decode cX4_frame 117 = .ok (.iload_n 2, 1) := by decide +kernel
theorem dX4_frame_118 : decode cX4_frame 118 = .ok (.iastore, 1) := by decide +kernel
theorem dX4_frame_119 : decode cX4_frame 119 = .ok (.iload 7, 2) := by decide +kernel
theorem dX4_frame_121 : decode cX4_frame 121 = .ok (.ireturn, 1) := by decide +kernel
theorem dX4_drop_0 : decode cX4_drop 0 = .ok (.iload_n 2, 1) := by decide +kernel
theorem dX4_drop_1 : decode cX4_drop 1 = .ok (.invokestatic 126, 3) := by decide +kernel
theorem dX4_drop_4 : decode cX4_drop 4 = .ok (.istore_n 3, 1) := by decide +kernel
theorem dX4_drop_5 : decode cX4_drop 5 = .ok (.aload_n 0, 1) := by decide +kernel
theorem dX4_drop_6 : decode cX4_drop 6 = .ok (.aload_n 0, 1) := by decide +kernel
theorem dX4_drop_7 : decode cX4_drop 7 = .ok (.iload_n 1, 1) := by decide +kernel
theorem dX4_drop_8 : decode cX4_drop 8 = .ok (.invokevirtual 119, 3) := by decide +kernel
theorem dX4_drop_11 : decode cX4_drop 11 = .ok (.ifCond .ne 7, 3) := by decide +kernel
theorem dX4_drop_14 : decode cX4_drop 14 = .ok (.iconst 1, 1) := by decide +kernel
theorem dX4_drop_15 : decode cX4_drop 15 = .ok (.goto 32, 3) := by decide +kernel
theorem dX4_drop_18 : decode cX4_drop 18 = .ok (.iload_n 3, 1) := by decide +kernel
theorem dX4_drop_19 : decode cX4_drop 19 = .ok (.ifCond .ne 7, 3) := by decide +kernel
theorem dX4_drop_22 : decode cX4_drop 22 = .ok (.iconst 2, 1) := by decide +kernel
theorem dX4_drop_23 : decode cX4_drop 23 = .ok (.goto 24, 3) := by decide +kernel
theorem dX4_drop_26 : decode cX4_drop 26 = .ok (.aload_n 0, 1) := by decide +kernel
theorem dX4_drop_27 : decode cX4_drop 27 = .ok (.getfield 37, 3) := by decide +kernel
theorem dX4_drop_30 : decode cX4_drop 30 = .ok (.sipush 256, 3) := by decide +kernel
theorem dX4_drop_33 : decode cX4_drop 33 = .ok (.iload_n 1, 1) := by decide +kernel
theorem dX4_drop_34 : decode cX4_drop 34 = .ok (.imul, 1) := by decide +kernel
theorem dX4_drop_35 : decode cX4_drop 35 = .ok (.iload_n 2, 1) := by decide +kernel
theorem dX4_drop_36 : decode cX4_drop 36 = .ok (.iadd, 1) := by decide +kernel
theorem dX4_drop_37 : decode cX4_drop 37 = .ok (.iaload, 1) := by decide +kernel
theorem dX4_drop_38 : decode cX4_drop 38 = .ok (.iconst (-1), 1) := by decide +kernel
theorem dX4_drop_39 : decode cX4_drop 39 = .ok (.if_icmp .ne 7, 3) := by decide +kernel
theorem dX4_drop_42 : decode cX4_drop 42 = .ok (.iconst 3, 1) := by decide +kernel
theorem dX4_drop_43 : decode cX4_drop 43 = .ok (.goto 4, 3) := by decide +kernel
theorem dX4_drop_46 : decode cX4_drop 46 = .ok (.iconst 0, 1) := by decide +kernel
theorem dX4_drop_47 : decode cX4_drop 47 = .ok (.invokevirtual 114, 3) := by decide +kernel
theorem dX4_drop_50 : decode cX4_drop 50 = .ok (.ifCond .ne 5, 3) := by decide +kernel
theorem dX4_drop_53 : decode cX4_drop 53 = .ok (.iconst 0, 1) := by decide +kernel
theorem dX4_drop_54 : decode cX4_drop 54 = .ok (.ireturn, 1) := by decide +kernel
theorem dX4_drop_55 : decode cX4_drop 55 = .ok (.aload_n 0, 1) := by decide +kernel
theorem dX4_drop_56 : decode cX4_drop 56 = .ok (.getfield 37, 3) := by decide +kernel
theorem dX4_drop_59 : decode cX4_drop 59 = .ok (.sipush 256, 3) := by decide +kernel
theorem dX4_drop_62 : decode cX4_drop 62 = .ok (.iload_n 1, 1) := by decide +kernel
theorem dX4_drop_63 : decode cX4_drop 63 = .ok (.imul, 1) := by decide +kernel
theorem dX4_drop_64 : decode cX4_drop 64 = .ok (.iload_n 2, 1) := by decide +kernel
theorem dX4_drop_65 : decode cX4_drop 65 = .ok (.iadd, 1) := by decide +kernel
theorem dX4_drop_66 : decode cX4_drop 66 = .ok (.iaload, 1) := by decide +kernel
theorem dX4_drop_67 : decode cX4_drop 67 = .ok (.istore 4, 2) := by decide +kernel
theorem dX4_drop_69 : decode cX4_drop 69 = .ok (.aload_n 0, 1) := by decide +kernel
theorem dX4_drop_70 : decode cX4_drop 70 = .ok (.getfield 37, 3) := by decide +kernel
theorem dX4_drop_73 : decode cX4_drop 73 = .ok (.sipush 256, 3) := by decide +kernel
theorem dX4_drop_76 : decode cX4_drop 76 = .ok (.iload_n 1, 1) := by decide +kernel
theorem dX4_drop_77 : decode cX4_drop 77 = .ok (.imul, 1) := by decide +kernel
theorem dX4_drop_78 : decode cX4_drop 78 = .ok (.iload_n 2, 1) := by decide +kernel
theorem dX4_drop_79 : decode cX4_drop 79 = .ok (.iadd, 1) := by decide +kernel
theorem dX4_drop_80 : decode cX4_drop 80 = .ok (.iconst (-1), 1) := by decide +kernel
theorem dX4_drop_81 : decode cX4_drop 81 = .ok (.iastore, 1) := by decide +kernel
theorem dX4_drop_82 : decode cX4_drop 82 = .ok (.iload 4, 2) := by decide +kernel
theorem dX4_drop_84 : decode cX4_drop 84 = .ok (.ireturn, 1) := by decide +kernel
theorem dX4_mask_0 : decode cX4_mask 0 = .ok (.aload_n 0, 1) := by decide +kernel
theorem dX4_mask_1 : decode cX4_mask 1 = .ok (.iload_n 1, 1) := by decide +kernel
theorem dX4_mask_2 : decode cX4_mask 2 = .ok (.iconst 0, 1) := by decide +kernel
theorem dX4_mask_3 : decode cX4_mask 3 = .ok (.iconst 3, 1) := by decide +kernel
theorem dX4_mask_4 : decode cX4_mask 4 = .ok (.invokestatic 104, 3) := by decide +kernel
theorem dX4_mask_7 : decode cX4_mask 7 = .ok (.ifCond .eq 7, 3) := by decide +kernel
theorem dX4_mask_10 : decode cX4_mask 10 = .ok (.iconst 0, 1) := by decide +kernel
theorem dX4_mask_11 : decode cX4_mask 11 = .ok (.goto 4, 3) := by decide +kernel
theorem dX4_mask_14 : decode cX4_mask 14 = .ok (.iconst 1, 1) := by decide +kernel
theorem dX4_mask_15 : decode cX4_mask 15 = .ok (.invokevirtual 114, 3) := by decide +kernel
theorem dX4_mask_18 : decode cX4_mask 18 = .ok (.ifCond .ne 5, 3) := by decide +kernel
theorem dX4_mask_21 : decode cX4_mask 21 = .ok (.iconst 0, 1) := by decide +kernel
theorem dX4_mask_22 : decode cX4_mask 22 = .ok (.ireturn, 1) := by decide +kernel
theorem dX4_mask_23 : decode cX4_mask 23 = .ok (.aload_n 0, 1) := by decide +kernel
theorem dX4_mask_24 : decode cX4_mask 24 = .ok (.getfield 43, 3) := by decide +kernel
theorem dX4_mask_27 : decode cX4_mask 27 = .ok (.iload_n 1, 1) := by decide +kernel
theorem dX4_mask_28 : decode cX4_mask 28 = .ok (.baload, 1) := by decide +kernel
theorem dX4_mask_29 : decode cX4_mask 29 = .ok (.istore_n 3, 1) := by decide +kernel
theorem dX4_mask_30 : decode cX4_mask 30 = .ok (.aload_n 0, 1) := by decide +kernel
theorem dX4_mask_31 : decode cX4_mask 31 = .ok (.getfield 43, 3) := by decide +kernel
theorem dX4_mask_34 : decode cX4_mask 34 = .ok (.iload_n 1, 1) := by decide +kernel
theorem dX4_mask_35 : decode cX4_mask 35 = .ok (.iload_n 2, 1) := by decide +kernel
theorem dX4_mask_36 : decode cX4_mask 36 = .ok (.bastore, 1) := by decide +kernel
theorem dX4_mask_37 : decode cX4_mask 37 = .ok (.iload_n 3, 1) := by decide +kernel
theorem dX4_mask_38 : decode cX4_mask 38 = .ok (.ireturn, 1) := by decide +kernel
theorem dX4_threshold_0 : decode cX4_threshold 0 = .ok (.aload_n 0, 1) := by decide +kernel
theorem dX4_threshold_1 : decode cX4_threshold 1 = .ok (.iload_n 1, 1) := by decide +kernel
theorem dX4_threshold_2 : decode cX4_threshold 2 = .ok (.iconst 1, 1) := by decide +kernel
theorem dX4_threshold_3 : decode cX4_threshold 3 = .ok (.ldc 129, 2) := by decide +kernel
theorem dX4_threshold_5 : decode cX4_threshold 5 = .ok (.invokestatic 104, 3) := by decide +kernel
theorem dX4_threshold_8 : decode cX4_threshold 8 = .ok (.ifCond .eq 7, 3) := by decide +kernel
theorem dX4_threshold_11 : decode cX4_threshold 11 = .ok (.iconst 0, 1) := by decide +kernel
theorem dX4_threshold_12 : decode cX4_threshold 12 = .ok (.goto 4, 3) := by decide +kernel
theorem dX4_threshold_15 : decode cX4_threshold 15 = .ok (.iconst 1, 1) := by decide +kernel
theorem dX4_threshold_16 : decode cX4_threshold 16 = .ok (.invokevirtual 114, 3) := by decide +kernel
theorem dX4_threshold_19 : decode cX4_threshold 19 = .ok (.ifCond .ne 5, 3) := by decide +kernel
theorem dX4_threshold_22 : decode cX4_threshold 22 = .ok (.iconst 0, 1) := by decide +kernel
theorem dX4_threshold_23 : decode cX4_threshold 23 = .ok (.ireturn, 1) := by decide +kernel
theorem dX4_threshold_24 : decode cX4_threshold 24 = .ok (.aload_n 0, 1) := by decide +kernel
theorem dX4_threshold_25 : decode cX4_threshold 25 = .ok (.getfield 47, 3) := by decide +kernel
theorem dX4_threshold_28 : decode cX4_threshold 28 = .ok (.istore_n 2, 1) := by decide +kernel
theorem dX4_threshold_29 : decode cX4_threshold 29 = .ok (.aload_n 0, 1) := by decide +kernel
theorem dX4_threshold_30 : decode cX4_threshold 30 = .ok (.iload_n 1, 1) := by decide +kernel
theorem dX4_threshold_31 : decode cX4_threshold 31 = .ok (.putfield 47, 3) := by decide +kernel
theorem dX4_threshold_34 : decode cX4_threshold 34 = .ok (.iload_n 2, 1) := by decide +kernel
theorem dX4_threshold_35 : decode cX4_threshold 35 = .ok (.ireturn, 1) := by decide +kernel
theorem dX4_takeOut_0 : decode cX4_takeOut 0 = .ok (.iload_n 2, 1) := by decide +kernel
theorem dX4_takeOut_1 : decode cX4_takeOut 1 = .ok (.iconst 1, 1) := by decide +kernel
theorem dX4_takeOut_2 : decode cX4_takeOut 2 = .ok (.bipush 31, 2) := by decide +kernel
theorem dX4_takeOut_4 : decode cX4_takeOut 4 = .ok (.invokestatic 104, 3) := by decide +kernel
theorem dX4_takeOut_7 : decode cX4_takeOut 7 = .ok (.istore_n 3, 1) := by decide +kernel
theorem dX4_takeOut_8 : decode cX4_takeOut 8 = .ok (.aload_n 0, 1) := by decide +kernel
theorem dX4_takeOut_9 : decode cX4_takeOut 9 = .ok (.aload_n 0, 1) := by decide +kernel
theorem dX4_takeOut_10 : decode cX4_takeOut 10 = .ok (.iload_n 1, 1) := by decide +kernel
theorem dX4_takeOut_11 : decode cX4_takeOut 11 = .ok (.invokevirtual 119, 3) := by decide +kernel
theorem dX4_takeOut_14 : decode cX4_takeOut 14 = .ok (.ifCond .ne 7, 3) := by decide +kernel
theorem dX4_takeOut_17 : decode cX4_takeOut 17 = .ok (.iconst 1, 1) := by decide +kernel
theorem dX4_takeOut_18 : decode cX4_takeOut 18 = .ok (.goto 27, 3) := by decide +kernel
theorem dX4_takeOut_21 : decode cX4_takeOut 21 = .ok (.iload_n 3, 1) := by decide +kernel
theorem dX4_takeOut_22 : decode cX4_takeOut 22 = .ok (.ifCond .ne 7, 3) := by decide +kernel
theorem dX4_takeOut_25 : decode cX4_takeOut 25 = .ok (.iconst 2, 1) := by decide +kernel
theorem dX4_takeOut_26 : decode cX4_takeOut 26 = .ok (.goto 19, 3) := by decide +kernel
theorem dX4_takeOut_29 : decode cX4_takeOut 29 = .ok (.aload_n 0, 1) := by decide +kernel
theorem dX4_takeOut_30 : decode cX4_takeOut 30 = .ok (.getfield 51, 3) := by decide +kernel
theorem dX4_takeOut_33 : decode cX4_takeOut 33 = .ok (.iload_n 1, 1) := by decide +kernel
theorem dX4_takeOut_34 : decode cX4_takeOut 34 = .ok (.iaload, 1) := by decide +kernel
theorem dX4_takeOut_35 : decode cX4_takeOut 35 = .ok (.bipush 6, 2) := by decide +kernel
theorem dX4_takeOut_37 : decode cX4_takeOut 37 = .ok (.if_icmp .ne 7, 3) := by decide +kernel
theorem dX4_takeOut_40 : decode cX4_takeOut 40 = .ok (.iconst 3, 1) := by decide +kernel
theorem dX4_takeOut_41 : decode cX4_takeOut 41 = .ok (.goto 4, 3) := by decide +kernel
theorem dX4_takeOut_44 : decode cX4_takeOut 44 = .ok (.iconst 0, 1) := by decide +kernel
theorem dX4_takeOut_45 : decode cX4_takeOut 45 = .ok (.invokevirtual 114, 3) := by decide +kernel
theorem dX4_takeOut_48 : decode cX4_takeOut 48 = .ok (.ifCond .ne 5, 3) := by decide +kernel
theorem dX4_takeOut_51 : decode cX4_takeOut 51 = .ok (.iconst 0, 1) := by decide +kernel
theorem dX4_takeOut_52 : decode cX4_takeOut 52 = .ok (.ireturn, 1) := by decide +kernel
theorem dX4_takeOut_53 : decode cX4_takeOut 53 = .ok (.aload_n 0, 1) := by decide +kernel
theorem dX4_takeOut_54 : decode cX4_takeOut 54 = .ok (.getfield 54, 3) := by decide +kernel
theorem dX4_takeOut_57 : decode cX4_takeOut 57 = .ok (.bipush 6, 2) := by decide +kernel
theorem dX4_takeOut_59 : decode cX4_takeOut 59 = .ok (.iload_n 1, 1) := by decide +kernel
theorem dX4_takeOut_60 : decode cX4_takeOut 60 = .ok (.imul, 1) := by decide +kernel
theorem dX4_takeOut_61 : decode cX4_takeOut 61 = .ok (.aload_n 0, 1) := by decide +kernel
theorem dX4_takeOut_62 : decode cX4_takeOut 62 = .ok (.getfield 51, 3) := by decide +kernel
theorem dX4_takeOut_65 : decode cX4_takeOut 65 = .ok (.iload_n 1, 1) := by decide +kernel
theorem dX4_takeOut_66 : decode cX4_takeOut 66 = .ok (.iaload, 1) := by decide +kernel
theorem dX4_takeOut_67 : decode cX4_takeOut 67 = .ok (.iadd, 1) := by decide +kernel
theorem dX4_takeOut_68 : decode cX4_takeOut 68 = .ok (.iload_n 2, 1) := by decide +kernel
theorem dX4_takeOut_69 : decode cX4_takeOut 69 = .ok (.iastore, 1) := by decide +kernel
theorem dX4_takeOut_70 : decode cX4_takeOut 70 = .ok (.aload_n 0, 1) := by decide +kernel
theorem dX4_takeOut_71 : decode cX4_takeOut 71 = .ok (.getfield 51, 3) := by decide +kernel
theorem dX4_takeOut_74 : decode cX4_takeOut 74 = .ok (.iload_n 1, 1) := by decide +kernel
theorem dX4_takeOut_75 : decode cX4_takeOut 75 = .ok (.dup2, 1) := by decide +kernel
theorem dX4_takeOut_76 : decode cX4_takeOut 76 = .ok (.iaload, 1) := by decide +kernel
theorem dX4_takeOut_77 : decode cX4_takeOut 77 = .ok (.iconst 1, 1) := by decide +kernel
theorem dX4_takeOut_78 : decode cX4_takeOut 78 = .ok (.iadd, 1) := by decide +kernel
theorem dX4_takeOut_79 : decode cX4_takeOut 79 = .ok (.iastore, 1) := by decide +kernel
theorem dX4_takeOut_80 : decode cX4_takeOut 80 = .ok (.aload_n 0, 1) := by decide +kernel
theorem dX4_takeOut_81 : decode cX4_takeOut 81 = .ok (.getfield 51, 3) := by decide +kernel
theorem dX4_takeOut_84 : decode cX4_takeOut 84 = .ok (.iload_n 1, 1) := by decide +kernel
theorem dX4_takeOut_85 : decode cX4_takeOut 85 = .ok (.iaload, 1) := by decide +kernel
theorem dX4_takeOut_86 : decode cX4_takeOut 86 = .ok (.ireturn, 1) := by decide +kernel
theorem dX4_putBack_0 : decode cX4_putBack 0 = .ok (.aload_n 0, 1) := by decide +kernel
theorem dX4_putBack_1 : decode cX4_putBack 1 = .ok (.aload_n 0, 1) := by decide +kernel
theorem dX4_putBack_2 : decode cX4_putBack 2 = .ok (.iload_n 1, 1) := by decide +kernel
theorem dX4_putBack_3 : decode cX4_putBack 3 = .ok (.invokevirtual 119, 3) := by decide +kernel
theorem dX4_putBack_6 : decode cX4_putBack 6 = .ok (.ifCond .eq 7, 3) := by decide +kernel
theorem dX4_putBack_9 : decode cX4_putBack 9 = .ok (.iconst 0, 1) := by decide +kernel
theorem dX4_putBack_10 : decode cX4_putBack 10 = .ok (.goto 4, 3) := by decide +kernel
theorem dX4_putBack_13 : decode cX4_putBack 13 = .ok (.iconst 1, 1) := by decide +kernel
theorem dX4_putBack_14 : decode cX4_putBack 14 = .ok (.invokevirtual 114, 3) := by decide +kernel
theorem dX4_putBack_17 : decode cX4_putBack 17 = .ok (.ifCond .ne 5, 3) := by decide +kernel
theorem dX4_putBack_20 : decode cX4_putBack 20 = .ok (.iconst 0, 1) := by decide +kernel
theorem dX4_putBack_21 : decode cX4_putBack 21 = .ok (.ireturn, 1) := by decide +kernel
theorem dX4_putBack_22 : decode cX4_putBack 22 = .ok (.aload_n 0, 1) := by decide +kernel
theorem dX4_putBack_23 : decode cX4_putBack 23 = .ok (.getfield 51, 3) := by decide +kernel
theorem dX4_putBack_26 : decode cX4_putBack 26 = .ok (.iload_n 1, 1) := by decide +kernel
theorem dX4_putBack_27 : decode cX4_putBack 27 = .ok (.iaload, 1) := by decide +kernel
theorem dX4_putBack_28 : decode cX4_putBack 28 = .ok (.istore_n 2, 1) := by decide +kernel
theorem dX4_putBack_29 : decode cX4_putBack 29 = .ok (.aload_n 0, 1) := by decide +kernel
theorem dX4_putBack_30 : decode cX4_putBack 30 = .ok (.getfield 51, 3) := by decide +kernel
theorem dX4_putBack_33 : decode cX4_putBack 33 = .ok (.iload_n 1, 1) := by decide +kernel
theorem dX4_putBack_34 : decode cX4_putBack 34 = .ok (.iconst 0, 1) := by decide +kernel
theorem dX4_putBack_35 : decode cX4_putBack 35 = .ok (.iastore, 1) := by decide +kernel
theorem dX4_putBack_36 : decode cX4_putBack 36 = .ok (.iload_n 2, 1) := by decide +kernel
theorem dX4_putBack_37 : decode cX4_putBack 37 = .ok (.ireturn, 1) := by decide +kernel
theorem dX4_cosine_0 : decode cX4_cosine 0 = .ok (.aload_n 0, 1) := by decide +kernel
theorem dX4_cosine_1 : decode cX4_cosine 1 = .ok (.getfield 57, 3) := by decide +kernel
theorem dX4_cosine_4 : decode cX4_cosine 4 = .ok (.iload_n 1, 1) := by decide +kernel
theorem dX4_cosine_5 : decode cX4_cosine 5 = .ok (.bipush 64, 2) := by decide +kernel
theorem dX4_cosine_7 : decode cX4_cosine 7 = .ok (.irem, 1) := by decide +kernel
theorem dX4_cosine_8 : decode cX4_cosine 8 = .ok (.iaload, 1) := by decide +kernel
theorem dX4_cosine_9 : decode cX4_cosine 9 = .ok (.i2l, 1) := by decide +kernel
theorem dX4_cosine_10 : decode cX4_cosine 10 = .ok (.lreturn, 1) := by decide +kernel
theorem dX4_sine_0 : decode cX4_sine 0 = .ok (.aload_n 0, 1) := by decide +kernel
theorem dX4_sine_1 : decode cX4_sine 1 = .ok (.getfield 57, 3) := by decide +kernel
theorem dX4_sine_4 : decode cX4_sine 4 = .ok (.iload_n 1, 1) := by decide +kernel
theorem dX4_sine_5 : decode cX4_sine 5 = .ok (.bipush 48, 2) := by decide +kernel
theorem dX4_sine_7 : decode cX4_sine 7 = .ok (.iadd, 1) := by decide +kernel
theorem dX4_sine_8 : decode cX4_sine 8 = .ok (.bipush 64, 2) := by decide +kernel
theorem dX4_sine_10 : decode cX4_sine 10 = .ok (.irem, 1) := by decide +kernel
theorem dX4_sine_11 : decode cX4_sine 11 = .ok (.iaload, 1) := by decide +kernel
theorem dX4_sine_12 : decode cX4_sine 12 = .ok (.i2l, 1) := by decide +kernel
theorem dX4_sine_13 : decode cX4_sine 13 = .ok (.lreturn, 1) := by decide +kernel
theorem dX4_sum_0 : decode cX4_sum 0 = .ok (.lconst 0, 1) := by decide +kernel
theorem dX4_sum_1 : decode cX4_sum 1 = .ok (.lstore_n 3, 1) := by decide +kernel
theorem dX4_sum_2 : decode cX4_sum 2 = .ok (.iconst 0, 1) := by decide +kernel
theorem dX4_sum_3 : decode cX4_sum 3 = .ok (.istore 5, 2) := by decide +kernel
theorem dX4_sum_5 : decode cX4_sum 5 = .ok (.iload 5, 2) := by decide +kernel
theorem dX4_sum_7 : decode cX4_sum 7 = .ok (.sipush 256, 3) := by decide +kernel
theorem dX4_sum_10 : decode cX4_sum 10 = .ok (.if_icmp .ge 57, 3) := by decide +kernel
theorem dX4_sum_13 : decode cX4_sum 13 = .ok (.lload_n 3, 1) := by decide +kernel
theorem dX4_sum_14 : decode cX4_sum 14 = .ok (.aload_n 0, 1) := by decide +kernel
theorem dX4_sum_15 : decode cX4_sum 15 = .ok (.getfield 64, 3) := by decide +kernel
theorem dX4_sum_18 : decode cX4_sum 18 = .ok (.iload 5, 2) := by decide +kernel
theorem dX4_sum_20 : decode cX4_sum 20 = .ok (.baload, 1) := by decide +kernel
theorem dX4_sum_21 : decode cX4_sum 21 = .ok (.ifCond .eq 37, 3) := by decide +kernel
theorem dX4_sum_24 : decode cX4_sum 24 = .ok (.aload_n 0, 1) := by decide +kernel
theorem dX4_sum_25 : decode cX4_sum 25 = .ok (.getfield 60, 3) := by decide +kernel
theorem dX4_sum_28 : decode cX4_sum 28 = .ok (.iload 5, 2) := by decide +kernel
theorem dX4_sum_30 : decode cX4_sum 30 = .ok (.laload, 1) := by decide +kernel
theorem dX4_sum_31 : decode cX4_sum 31 = .ok (.iload_n 2, 1) := by decide +kernel
theorem dX4_sum_32 : decode cX4_sum 32 = .ok (.ifCond .eq 14, 3) := by decide +kernel
theorem dX4_sum_35 : decode cX4_sum 35 = .ok (.aload_n 0, 1) := by decide +kernel
theorem dX4_sum_36 : decode cX4_sum 36 = .ok (.iload_n 1, 1) := by decide +kernel
theorem dX4_sum_37 : decode cX4_sum 37 = .ok (.iload 5, 2) := by decide +kernel
theorem dX4_sum_39 : decode cX4_sum 39 = .ok (.imul, 1) := by decide +kernel
theorem dX4_sum_40 : decode cX4_sum 40 = .ok (.invokevirtual 130, 3) := by decide +kernel
theorem dX4_sum_43 : decode cX4_sum 43 = .ok (.goto 11, 3) := by decide +kernel
theorem dX4_sum_46 : decode cX4_sum 46 = .ok (.aload_n 0, 1) := by decide +kernel
theorem dX4_sum_47 : decode cX4_sum 47 = .ok (.iload_n 1, 1) := by decide +kernel
theorem dX4_sum_48 : decode cX4_sum 48 = .ok (.iload 5, 2) := by decide +kernel
theorem dX4_sum_50 : decode cX4_sum 50 = .ok (.imul, 1) := by decide +kernel
theorem dX4_sum_51 : decode cX4_sum 51 = .ok (.invokevirtual 134, 3) := by decide +kernel
theorem dX4_sum_54 : decode cX4_sum 54 = .ok (.lmul, 1) := by decide +kernel
theorem dX4_sum_55 : decode cX4_sum 55 = .ok (.goto 4, 3) := by decide +kernel
theorem dX4_sum_58 : decode cX4_sum 58 = .ok (.lconst 0, 1) := by decide +kernel
theorem dX4_sum_59 : decode cX4_sum 59 = .ok (.ladd, 1) := by decide +kernel
theorem dX4_sum_60 : decode cX4_sum 60 = .ok (.lstore_n 3, 1) := by decide +kernel
theorem dX4_sum_61 : decode cX4_sum 61 = .ok (.iinc 5 1, 3) := by decide +kernel
theorem dX4_sum_64 : decode cX4_sum 64 = .ok (.goto (-59), 3) := by decide +kernel
theorem dX4_sum_67 : decode cX4_sum 67 = .ok (.lload_n 3, 1) := by decide +kernel
theorem dX4_sum_68 : decode cX4_sum 68 = .ok (.lreturn, 1) := by decide +kernel
theorem dX4_powerOf_0 : decode cX4_powerOf 0 = .ok (.aload_n 0, 1) := by decide +kernel
theorem dX4_powerOf_1 : decode cX4_powerOf 1 = .ok (.iload_n 1, 1) := by decide +kernel
theorem dX4_powerOf_2 : decode cX4_powerOf 2 = .ok (.iconst 0, 1) := by decide +kernel
theorem dX4_powerOf_3 : decode cX4_powerOf 3 = .ok (.invokevirtual 137, 3) := by decide +kernel
theorem dX4_powerOf_6 : decode cX4_powerOf 6 = .ok (.ldc2_w 141, 3) := by decide +kernel
theorem dX4_powerOf_9 : decode cX4_powerOf 9 = .ok (.ldiv, 1) := by decide +kernel
theorem dX4_powerOf_10 : decode cX4_powerOf 10 = .ok (.lstore_n 2, 1) := by decide +kernel
theorem dX4_powerOf_11 : decode cX4_powerOf 11 = .ok (.aload_n 0, 1) := by decide +kernel
theorem dX4_powerOf_12 : decode cX4_powerOf 12 = .ok (.iload_n 1, 1) := by decide +kernel
theorem dX4_powerOf_13 : decode cX4_powerOf 13 = .ok (.iconst 1, 1) := by decide +kernel
theorem dX4_powerOf_14 : decode cX4_powerOf 14 = .ok (.invokevirtual 137, 3) := by decide +kernel
theorem dX4_powerOf_17 : decode cX4_powerOf 17 = .ok (.ldc2_w 141, 3) := by decide +kernel
theorem dX4_powerOf_20 : decode cX4_powerOf 20 = .ok (.ldiv, 1) := by decide +kernel
theorem dX4_powerOf_21 : decode cX4_powerOf 21 = .ok (.lstore 4, 2) := by decide +kernel
theorem dX4_powerOf_23 : decode cX4_powerOf 23 = .ok (.lload_n 2, 1) := by decide +kernel
theorem dX4_powerOf_24 : decode cX4_powerOf 24 = .ok (.lload_n 2, 1) := by decide +kernel
theorem dX4_powerOf_25 : decode cX4_powerOf 25 = .ok (.lmul, 1) := by decide +kernel
theorem dX4_powerOf_26 : decode cX4_powerOf 26 = .ok (.lload 4, 2) := by decide +kernel
theorem dX4_powerOf_28 : decode cX4_powerOf 28 = .ok (.lload 4, 2) := by decide +kernel
theorem dX4_powerOf_30 : decode cX4_powerOf 30 = .ok (.lmul, 1) := by decide +kernel
theorem dX4_powerOf_31 : decode cX4_powerOf 31 = .ok (.ladd, 1) := by decide +kernel
theorem dX4_powerOf_32 : decode cX4_powerOf 32 = .ok (.lreturn, 1) := by decide +kernel
theorem dX4_lays_0 : decode cX4_lays 0 = .ok (.aload_n 0, 1) := by decide +kernel
theorem dX4_lays_1 : decode cX4_lays 1 = .ok (.iconst 0, 1) := by decide +kernel
theorem dX4_lays_2 : decode cX4_lays 2 = .ok (.putfield 143, 3) := by decide +kernel
theorem dX4_lays_5 : decode cX4_lays 5 = .ok (.iconst 0, 1) := by decide +kernel
theorem dX4_lays_6 : decode cX4_lays 6 = .ok (.istore_n 3, 1) := by decide +kernel
theorem dX4_lays_7 : decode cX4_lays 7 = .ok (.iload_n 3, 1) := by decide +kernel
theorem dX4_lays_8 : decode cX4_lays 8 = .ok (.sipush 256, 3) := by decide +kernel
theorem dX4_lays_11 : decode cX4_lays 11 = .ok (.if_icmp .ge 113, 3) := by decide +kernel
theorem dX4_lays_14 : decode cX4_lays 14 = .ok (.aload_n 0, 1) := by decide +kernel
theorem dX4_lays_15 : decode cX4_lays 15 = .ok (.getfield 37, 3) := by decide +kernel
theorem dX4_lays_18 : decode cX4_lays 18 = .ok (.sipush 256, 3) := by decide +kernel
theorem dX4_lays_21 : decode cX4_lays 21 = .ok (.iload_n 1, 1) := by decide +kernel
theorem dX4_lays_22 : decode cX4_lays 22 = .ok (.imul, 1) := by decide +kernel
theorem dX4_lays_23 : decode cX4_lays 23 = .ok (.iload_n 3, 1) := by decide +kernel
theorem dX4_lays_24 : decode cX4_lays 24 = .ok (.iadd, 1) := by decide +kernel
theorem dX4_lays_25 : decode cX4_lays 25 = .ok (.iaload, 1) := by decide +kernel
theorem dX4_lays_26 : decode cX4_lays 26 = .ok (.istore 4, 2) := by decide +kernel
theorem dX4_lays_28 : decode cX4_lays 28 = .ok (.aload_n 0, 1) := by decide +kernel
theorem dX4_lays_29 : decode cX4_lays 29 = .ok (.getfield 64, 3) := by decide +kernel
theorem dX4_lays_32 : decode cX4_lays 32 = .ok (.iload_n 3, 1) := by decide +kernel
theorem dX4_lays_33 : decode cX4_lays 33 = .ok (.iload 4, 2) := by decide +kernel
theorem dX4_lays_35 : decode cX4_lays 35 = .ok (.iconst (-1), 1) := by decide +kernel
theorem dX4_lays_36 : decode cX4_lays 36 = .ok (.if_icmp .eq 27, 3) := by decide +kernel
theorem dX4_lays_39 : decode cX4_lays 39 = .ok (.aload_n 0, 1) := by decide +kernel
theorem dX4_lays_40 : decode cX4_lays 40 = .ok (.getfield 43, 3) := by decide +kernel
theorem dX4_lays_43 : decode cX4_lays 43 = .ok (.aload_n 0, 1) := by decide +kernel
theorem dX4_lays_44 : decode cX4_lays 44 = .ok (.getfield 40, 3) := by decide +kernel
theorem dX4_lays_47 : decode cX4_lays 47 = .ok (.sipush 256, 3) := by decide +kernel
theorem dX4_lays_50 : decode cX4_lays 50 = .ok (.iload_n 1, 1) := by decide +kernel
theorem dX4_lays_51 : decode cX4_lays 51 = .ok (.imul, 1) := by decide +kernel
theorem dX4_lays_52 : decode cX4_lays 52 = .ok (.iload_n 3, 1) := by decide +kernel
theorem dX4_lays_53 : decode cX4_lays 53 = .ok (.iadd, 1) := by decide +kernel
theorem dX4_lays_54 : decode cX4_lays 54 = .ok (.iaload, 1) := by decide +kernel
theorem dX4_lays_55 : decode cX4_lays 55 = .ok (.baload, 1) := by decide +kernel
theorem dX4_lays_56 : decode cX4_lays 56 = .ok (.ifCond .ne 7, 3) := by decide +kernel
theorem dX4_lays_59 : decode cX4_lays 59 = .ok (.iconst 1, 1) := by decide +kernel
theorem dX4_lays_60 : decode cX4_lays 60 = .ok (.goto 4, 3) := by decide +kernel
theorem dX4_lays_63 : decode cX4_lays 63 = .ok (.iconst 0, 1) := by decide +kernel
theorem dX4_lays_64 : decode cX4_lays 64 = .ok (.bastore, 1) := by decide +kernel
theorem dX4_lays_65 : decode cX4_lays 65 = .ok (.aload_n 0, 1) := by decide +kernel
theorem dX4_lays_66 : decode cX4_lays 66 = .ok (.getfield 60, 3) := by decide +kernel
theorem dX4_lays_69 : decode cX4_lays 69 = .ok (.iload_n 3, 1) := by decide +kernel
theorem dX4_lays_70 : decode cX4_lays 70 = .ok (.aload_n 0, 1) := by decide +kernel
theorem dX4_lays_71 : decode cX4_lays 71 = .ok (.getfield 64, 3) := by decide +kernel
theorem dX4_lays_74 : decode cX4_lays 74 = .ok (.iload_n 3, 1) := by decide +kernel
theorem dX4_lays_75 : decode cX4_lays 75 = .ok (.baload, 1) := by decide +kernel
theorem dX4_lays_76 : decode cX4_lays 76 = .ok (.ifCond .ne 7, 3) := by decide +kernel
theorem dX4_lays_79 : decode cX4_lays 79 = .ok (.lconst 0, 1) := by decide +kernel
theorem dX4_lays_80 : decode cX4_lays 80 = .ok (.goto 14, 3) := by decide +kernel
theorem dX4_lays_83 : decode cX4_lays 83 = .ok (.iload_n 2, 1) := by decide +kernel
theorem dX4_lays_84 : decode cX4_lays 84 = .ok (.ifCond .eq 7, 3) := by decide +kernel
theorem dX4_lays_87 : decode cX4_lays 87 = .ok (.lconst 1, 1) := by decide +kernel
theorem dX4_lays_88 : decode cX4_lays 88 = .ok (.goto 6, 3) := by decide +kernel
theorem dX4_lays_91 : decode cX4_lays 91 = .ok (.iload 4, 2) := by decide +kernel
theorem dX4_lays_93 : decode cX4_lays 93 = .ok (.i2l, 1) := by decide +kernel
theorem dX4_lays_94 : decode cX4_lays 94 = .ok (.lastore, 1) := by decide +kernel
theorem dX4_lays_95 : decode cX4_lays 95 = .ok (.aload_n 0, 1) := by decide +kernel
theorem dX4_lays_96 : decode cX4_lays 96 = .ok (.dup, 1) := by decide +kernel
theorem dX4_lays_97 : decode cX4_lays 97 = .ok (.getfield 143, 3) := by decide +kernel
theorem dX4_lays_100 : decode cX4_lays 100 = .ok (.aload_n 0, 1) := by decide +kernel
theorem dX4_lays_101 : decode cX4_lays 101 = .ok (.getfield 64, 3) := by decide +kernel
theorem dX4_lays_104 : decode cX4_lays 104 = .ok (.iload_n 3, 1) := by decide +kernel
theorem dX4_lays_105 : decode cX4_lays 105 = .ok (.baload, 1) := by decide +kernel
theorem dX4_lays_106 : decode cX4_lays 106 = .ok (.ifCond .eq 7, 3) := by decide +kernel
theorem dX4_lays_109 : decode cX4_lays 109 = .ok (.iconst 1, 1) := by decide +kernel
theorem dX4_lays_110 : decode cX4_lays 110 = .ok (.goto 4, 3) := by decide +kernel
theorem dX4_lays_113 : decode cX4_lays 113 = .ok (.iconst 0, 1) := by decide +kernel
theorem dX4_lays_114 : decode cX4_lays 114 = .ok (.iadd, 1) := by decide +kernel
theorem dX4_lays_115 : decode cX4_lays 115 = .ok (.putfield 143, 3) := by decide +kernel
theorem dX4_lays_118 : decode cX4_lays 118 = .ok (.iinc 3 1, 3) := by decide +kernel
theorem dX4_lays_121 : decode cX4_lays 121 = .ok (.goto (-114), 3) := by decide +kernel
theorem dX4_lays_124 : decode cX4_lays 124 = .ok (.return_, 1) := by decide +kernel
theorem dX4_filters_0 : decode cX4_filters 0 = .ok (.iconst (-1), 1) := by decide +kernel
theorem dX4_filters_1 : decode cX4_filters 1 = .ok (.istore_n 2, 1) := by decide +kernel
theorem dX4_filters_2 : decode cX4_filters 2 = .ok (.iconst (-1), 1) := by decide +kernel
theorem dX4_filters_3 : decode cX4_filters 3 = .ok (.istore_n 3, 1) := by decide +kernel
theorem dX4_filters_4 : decode cX4_filters 4 = .ok (.lconst 0, 1) := by decide +kernel
theorem dX4_filters_5 : decode cX4_filters 5 = .ok (.lstore 4, 2) := by decide +kernel
theorem dX4_filters_7 : decode cX4_filters 7 = .ok (.iconst 0, 1) := by decide +kernel
theorem dX4_filters_8 : decode cX4_filters 8 = .ok (.istore 6, 2) := by decide +kernel
theorem dX4_filters_10 : decode cX4_filters 10 = .ok (.iload 6, 2) := by decide +kernel
theorem dX4_filters_12 : decode cX4_filters 12 = .ok (.sipush 256, 3) := by decide +kernel
theorem dX4_filters_15 : decode cX4_filters 15 = .ok (.if_icmp .ge 60, 3) := by decide +kernel
theorem dX4_filters_18 : decode cX4_filters 18 = .ok (.aload_n 0, 1) := by decide +kernel
theorem dX4_filters_19 : decode cX4_filters 19 = .ok (.getfield 64, 3) := by decide +kernel
theorem dX4_filters_22 : decode cX4_filters 22 = .ok (.iload 6, 2) := by decide +kernel
theorem dX4_filters_24 : decode cX4_filters 24 = .ok (.baload, 1) := by decide +kernel
theorem dX4_filters_25 : decode cX4_filters 25 = .ok (.ifCond .eq 13, 3) := by decide +kernel
theorem dX4_filters_28 : decode cX4_filters 28 = .ok (.iload_n 2, 1) := by decide +kernel
theorem dX4_filters_29 : decode cX4_filters 29 = .ok (.iconst (-1), 1) := by decide +kernel
theorem dX4_filters_30 : decode cX4_filters 30 = .ok (.if_icmp .ne 8, 3) := by decide +kernel
theorem dX4_filters_33 : decode cX4_filters 33 = .ok (.iload 6, 2) := by decide +kernel
theorem dX4_filters_35 : decode cX4_filters 35 = .ok (.goto 4, 3) := by decide +kernel
theorem dX4_filters_38 : decode cX4_filters 38 = .ok (.iload_n 2, 1) := by decide +kernel
theorem dX4_filters_39 : decode cX4_filters 39 = .ok (.istore_n 2, 1) := by decide +kernel
theorem dX4_filters_40 : decode cX4_filters 40 = .ok (.aload_n 0, 1) := by decide +kernel
theorem dX4_filters_41 : decode cX4_filters 41 = .ok (.getfield 64, 3) := by decide +kernel
theorem dX4_filters_44 : decode cX4_filters 44 = .ok (.iload 6, 2) := by decide +kernel
theorem dX4_filters_46 : decode cX4_filters 46 = .ok (.baload, 1) := by decide +kernel
theorem dX4_filters_47 : decode cX4_filters 47 = .ok (.ifCond .eq 8, 3) := by decide +kernel
theorem dX4_filters_50 : decode cX4_filters 50 = .ok (.iload 6, 2) := by decide +kernel
theorem dX4_filters_52 : decode cX4_filters 52 = .ok (.goto 4, 3) := by decide +kernel
theorem dX4_filters_55 : decode cX4_filters 55 = .ok (.iload_n 3, 1) := by decide +kernel
theorem dX4_filters_56 : decode cX4_filters 56 = .ok (.istore_n 3, 1) := by decide +kernel
theorem dX4_filters_57 : decode cX4_filters 57 = .ok (.lload 4, 2) := by decide +kernel
theorem dX4_filters_59 : decode cX4_filters 59 = .ok (.aload_n 0, 1) := by decide +kernel
theorem dX4_filters_60 : decode cX4_filters 60 = .ok (.getfield 60, 3) := by decide +kernel
theorem dX4_filters_63 : decode cX4_filters 63 = .ok (.iload 6, 2) := by decide +kernel
theorem dX4_filters_65 : decode cX4_filters 65 = .ok (.laload, 1) := by decide +kernel
theorem dX4_filters_66 : decode cX4_filters 66 = .ok (.ladd, 1) := by decide +kernel
theorem dX4_filters_67 : decode cX4_filters 67 = .ok (.lstore 4, 2) := by decide +kernel
theorem dX4_filters_69 : decode cX4_filters 69 = .ok (.iinc 6 1, 3) := by decide +kernel
theorem dX4_filters_72 : decode cX4_filters 72 = .ok (.goto (-62), 3) := by decide +kernel
theorem dX4_filters_75 : decode cX4_filters 75 = .ok (.aload_n 0, 1) := by decide +kernel
theorem dX4_filters_76 : decode cX4_filters 76 = .ok (.getfield 143, 3) := by decide +kernel
theorem dX4_filters_79 : decode cX4_filters 79 = .ok (.ifCond .ne 7, 3) := by decide +kernel
theorem dX4_filters_82 : decode cX4_filters 82 = .ok (.lconst 0, 1) := by decide +kernel
theorem dX4_filters_83 : decode cX4_filters 83 = .ok (.goto 9, 3) := by decide +kernel
theorem dX4_filters_86 : decode cX4_filters 86 = .ok (.aload_n 0, 1) := by decide +kernel
theorem dX4_filters_87 : decode cX4_filters 87 = .ok (.getfield 60, 3) := by decide +kernel
theorem dX4_filters_90 : decode cX4_filters 90 = .ok (.iload_n 2, 1) := by decide +kernel
theorem dX4_filters_91 : decode cX4_filters 91 = .ok (.laload, 1) := by decide +kernel
theorem dX4_filters_92 : decode cX4_filters 92 = .ok (.lstore 6, 2) := by decide +kernel
theorem dX4_filters_94 : decode cX4_filters 94 = .ok (.aload_n 0, 1) := by decide +kernel
theorem dX4_filters_95 : decode cX4_filters 95 = .ok (.getfield 143, 3) := by decide +kernel
theorem dX4_filters_98 : decode cX4_filters 98 = .ok (.ifCond .ne 7, 3) := by decide +kernel
theorem dX4_filters_101 : decode cX4_filters 101 = .ok (.lconst 0, 1) := by decide +kernel
theorem dX4_filters_102 : decode cX4_filters 102 = .ok (.goto 12, 3) := by decide +kernel
theorem dX4_filters_105 : decode cX4_filters 105 = .ok (.aload_n 0, 1) := by decide +kernel
theorem dX4_filters_106 : decode cX4_filters 106 = .ok (.getfield 60, 3) := by decide +kernel
theorem dX4_filters_109 : decode cX4_filters 109 = .ok (.iload_n 3, 1) := by decide +kernel
theorem dX4_filters_110 : decode cX4_filters 110 = .ok (.laload, 1) := by decide +kernel
theorem dX4_filters_111 : decode cX4_filters 111 = .ok (.lload 6, 2) := by decide +kernel
theorem dX4_filters_113 : decode cX4_filters 113 = .ok (.lsub, 1) := by decide +kernel
theorem dX4_filters_114 : decode cX4_filters 114 = .ok (.lstore 8, 2) := by decide +kernel
theorem dX4_filters_116 : decode cX4_filters 116 = .ok (.iconst 0, 1) := by decide +kernel
theorem dX4_filters_117 : decode cX4_filters 117 = .ok (.istore 10, 2) := by decide +kernel
theorem dX4_filters_119 : decode cX4_filters 119 = .ok (.iload 10, 2) := by decide +kernel
theorem dX4_filters_121 : decode cX4_filters 121 = .ok (.sipush 256, 3) := by decide +kernel
theorem dX4_filters_124 : decode cX4_filters 124 = .ok (.if_icmp .ge 85, 3) := by decide +kernel
theorem dX4_filters_127 : decode cX4_filters 127 = .ok (.iload_n 2, 1) := by decide +kernel
theorem dX4_filters_128 : decode cX4_filters 128 = .ok (.iload_n 3, 1) := by decide +kernel
theorem dX4_filters_129 : decode cX4_filters 129 = .ok (.if_icmp .ne 8, 3) := by decide +kernel
theorem dX4_filters_132 : decode cX4_filters 132 = .ok (.lload 6, 2) := by decide +kernel
theorem dX4_filters_134 : decode cX4_filters 134 = .ok (.goto 21, 3) := by decide +kernel
theorem dX4_filters_137 : decode cX4_filters 137 = .ok (.lload 6, 2) := by decide +kernel
theorem dX4_filters_139 : decode cX4_filters 139 = .ok (.lload 8, 2) := by decide +kernel
theorem dX4_filters_141 : decode cX4_filters 141 = .ok (.iload 10, 2) := by decide +kernel
theorem dX4_filters_143 : decode cX4_filters 143 = .ok (.iload_n 2, 1) := by decide +kernel
theorem dX4_filters_144 : decode cX4_filters 144 = .ok (.isub, 1) := by decide +kernel
theorem dX4_filters_145 : decode cX4_filters 145 = .ok (.i2l, 1) := by decide +kernel
theorem dX4_filters_146 : decode cX4_filters 146 = .ok (.lmul, 1) := by decide +kernel
theorem dX4_filters_147 : decode cX4_filters 147 = .ok (.iload_n 3, 1) := by decide +kernel
theorem dX4_filters_148 : decode cX4_filters 148 = .ok (.iload_n 2, 1) := by decide +kernel
theorem dX4_filters_149 : decode cX4_filters 149 = .ok (.isub, 1) := by decide +kernel
theorem dX4_filters_150 : decode cX4_filters 150 = .ok (.i2l, 1) := by decide +kernel
theorem dX4_filters_151 : decode cX4_filters 151 = .ok (.invokestatic 146, 3) := by decide +kernel
theorem dX4_filters_154 : decode cX4_filters 154 = .ok (.ladd, 1) := by decide +kernel
theorem dX4_filters_155 : decode cX4_filters 155 = .ok (.lstore 11, 2) := by decide +kernel
theorem dX4_filters_157 : decode cX4_filters 157 = .ok (.aload_n 0, 1) := by decide +kernel
theorem dX4_filters_158 : decode cX4_filters 158 = .ok (.getfield 60, 3) := by decide +kernel
theorem dX4_filters_161 : decode cX4_filters 161 = .ok (.iload 10, 2) := by decide +kernel
theorem dX4_filters_163 : decode cX4_filters 163 = .ok (.dup2, 1) := by decide +kernel
theorem dX4_filters_164 : decode cX4_filters 164 = .ok (.laload, 1) := by decide +kernel
theorem dX4_filters_165 : decode cX4_filters 165 = .ok (.aload_n 0, 1) := by decide +kernel
theorem dX4_filters_166 : decode cX4_filters 166 = .ok (.getfield 64, 3) := by decide +kernel
theorem dX4_filters_169 : decode cX4_filters 169 = .ok (.iload 10, 2) := by decide +kernel
theorem dX4_filters_171 : decode cX4_filters 171 = .ok (.baload, 1) := by decide +kernel
theorem dX4_filters_172 : decode cX4_filters 172 = .ok (.ifCond .eq 7, 3) := by decide +kernel
theorem dX4_filters_175 : decode cX4_filters 175 = .ok (.iload_n 1, 1) := by decide +kernel
theorem dX4_filters_176 : decode cX4_filters 176 = .ok (.ifCond .ne 7, 3) := by decide +kernel
theorem dX4_filters_179 : decode cX4_filters 179 = .ok (.lconst 0, 1) := by decide +kernel
theorem dX4_filters_180 : decode cX4_filters 180 = .ok (.goto 21, 3) := by decide +kernel
theorem dX4_filters_183 : decode cX4_filters 183 = .ok (.iload_n 1, 1) := by decide +kernel
theorem dX4_filters_184 : decode cX4_filters 184 = .ok (.iconst 1, 1) := by decide +kernel
theorem dX4_filters_185 : decode cX4_filters 185 = .ok (.if_icmp .ne 14, 3) := by decide +kernel
theorem dX4_filters_188 : decode cX4_filters 188 = .ok (.lload 4, 2) := by decide +kernel
theorem dX4_filters_190 : decode cX4_filters 190 = .ok (.aload_n 0, 1) := by decide +kernel
theorem dX4_filters_191 : decode cX4_filters 191 = .ok (.getfield 143, 3) := by decide +kernel
theorem dX4_filters_194 : decode cX4_filters 194 = .ok (.i2l, 1) := by decide +kernel
theorem dX4_filters_195 : decode cX4_filters 195 = .ok (.ldiv, 1) := by decide +kernel
theorem dX4_filters_196 : decode cX4_filters 196 = .ok (.goto 5, 3) := by decide +kernel
theorem dX4_filters_199 : decode cX4_filters 199 = .ok (.lload 11, 2) := by decide +kernel
theorem dX4_filters_201 : decode cX4_filters 201 = .ok (.lsub, 1) := by decide +kernel
theorem dX4_filters_202 : decode cX4_filters 202 = .ok (.lastore, 1) := by decide +kernel
theorem dX4_filters_203 : decode cX4_filters 203 = .ok (.iinc 10 1, 3) := by decide +kernel
theorem dX4_filters_206 : decode cX4_filters 206 = .ok (.goto (-87), 3) := by decide +kernel
theorem dX4_filters_209 : decode cX4_filters 209 = .ok (.return_, 1) := by decide +kernel
theorem dX4_takes_0 : decode cX4_takes 0 = .ok (.aload_n 0, 1) := by decide +kernel
theorem dX4_takes_1 : decode cX4_takes 1 = .ok (.getfield 143, 3) := by decide +kernel
theorem dX4_takes_4 : decode cX4_takes 4 = .ok (.ifCond .ne 7, 3) := by decide +kernel
theorem dX4_takes_7 : decode cX4_takes 7 = .ok (.lconst 0, 1) := by decide +kernel
theorem dX4_takes_8 : decode cX4_takes 8 = .ok (.goto 23, 3) := by decide +kernel
theorem dX4_takes_11 : decode cX4_takes 11 = .ok (.ldc2_w 150, 3) := by decide +kernel
theorem dX4_takes_14 : decode cX4_takes 14 = .ok (.aload_n 0, 1) := by decide +kernel
theorem dX4_takes_15 : decode cX4_takes 15 = .ok (.iload_n 1, 1) := by decide +kernel
theorem dX4_takes_16 : decode cX4_takes 16 = .ok (.iconst 0, 1) := by decide +kernel
theorem dX4_takes_17 : decode cX4_takes 17 = .ok (.invokevirtual 137, 3) := by decide +kernel
theorem dX4_takes_20 : decode cX4_takes 20 = .ok (.lmul, 1) := by decide +kernel
theorem dX4_takes_21 : decode cX4_takes 21 = .ok (.ldc2_w 141, 3) := by decide +kernel
theorem dX4_takes_24 : decode cX4_takes 24 = .ok (.aload_n 0, 1) := by decide +kernel
theorem dX4_takes_25 : decode cX4_takes 25 = .ok (.getfield 143, 3) := by decide +kernel
theorem dX4_takes_28 : decode cX4_takes 28 = .ok (.i2l, 1) := by decide +kernel
theorem dX4_takes_29 : decode cX4_takes 29 = .ok (.lmul, 1) := by decide +kernel
theorem dX4_takes_30 : decode cX4_takes 30 = .ok (.ldiv, 1) := by decide +kernel
theorem dX4_takes_31 : decode cX4_takes 31 = .ok (.lstore_n 2, 1) := by decide +kernel
theorem dX4_takes_32 : decode cX4_takes 32 = .ok (.aload_n 0, 1) := by decide +kernel
theorem dX4_takes_33 : decode cX4_takes 33 = .ok (.getfield 143, 3) := by decide +kernel
theorem dX4_takes_36 : decode cX4_takes 36 = .ok (.ifCond .ne 7, 3) := by decide +kernel
theorem dX4_takes_39 : decode cX4_takes 39 = .ok (.lconst 0, 1) := by decide +kernel
theorem dX4_takes_40 : decode cX4_takes 40 = .ok (.goto 23, 3) := by decide +kernel
theorem dX4_takes_43 : decode cX4_takes 43 = .ok (.ldc2_w 150, 3) := by decide +kernel
theorem dX4_takes_46 : decode cX4_takes 46 = .ok (.aload_n 0, 1) := by decide +kernel
theorem dX4_takes_47 : decode cX4_takes 47 = .ok (.iload_n 1, 1) := by decide +kernel
theorem dX4_takes_48 : decode cX4_takes 48 = .ok (.iconst 1, 1) := by decide +kernel
theorem dX4_takes_49 : decode cX4_takes 49 = .ok (.invokevirtual 137, 3) := by decide +kernel
theorem dX4_takes_52 : decode cX4_takes 52 = .ok (.lmul, 1) := by decide +kernel
theorem dX4_takes_53 : decode cX4_takes 53 = .ok (.ldc2_w 141, 3) := by decide +kernel
theorem dX4_takes_56 : decode cX4_takes 56 = .ok (.aload_n 0, 1) := by decide +kernel
theorem dX4_takes_57 : decode cX4_takes 57 = .ok (.getfield 143, 3) := by decide +kernel
theorem dX4_takes_60 : decode cX4_takes 60 = .ok (.i2l, 1) := by decide +kernel
theorem dX4_takes_61 : decode cX4_takes 61 = .ok (.lmul, 1) := by decide +kernel
theorem dX4_takes_62 : decode cX4_takes 62 = .ok (.ldiv, 1) := by decide +kernel
theorem dX4_takes_63 : decode cX4_takes 63 = .ok (.lstore 4, 2) := by decide +kernel
theorem dX4_takes_65 : decode cX4_takes 65 = .ok (.iconst 0, 1) := by decide +kernel
theorem dX4_takes_66 : decode cX4_takes 66 = .ok (.istore 6, 2) := by decide +kernel
theorem dX4_takes_68 : decode cX4_takes 68 = .ok (.iload 6, 2) := by decide +kernel
theorem dX4_takes_70 : decode cX4_takes 70 = .ok (.sipush 256, 3) := by decide +kernel
theorem dX4_takes_73 : decode cX4_takes 73 = .ok (.if_icmp .ge 59, 3) := by decide +kernel
theorem dX4_takes_76 : decode cX4_takes 76 = .ok (.aload_n 0, 1) := by decide +kernel
theorem dX4_takes_77 : decode cX4_takes 77 = .ok (.getfield 60, 3) := by decide +kernel
theorem dX4_takes_80 : decode cX4_takes 80 = .ok (.iload 6, 2) := by decide +kernel
theorem dX4_takes_82 : decode cX4_takes 82 = .ok (.dup2, 1) := by decide +kernel
theorem dX4_takes_83 : decode cX4_takes 83 = .ok (.laload, 1) := by decide +kernel
theorem dX4_takes_84 : decode cX4_takes 84 = .ok (.aload_n 0, 1) := by decide +kernel
theorem dX4_takes_85 : decode cX4_takes 85 = .ok (.getfield 64, 3) := by decide +kernel
theorem dX4_takes_88 : decode cX4_takes 88 = .ok (.iload 6, 2) := by decide +kernel
theorem dX4_takes_90 : decode cX4_takes 90 = .ok (.baload, 1) := by decide +kernel
theorem dX4_takes_91 : decode cX4_takes 91 = .ok (.ifCond .eq 32, 3) := by decide +kernel
theorem dX4_takes_94 : decode cX4_takes 94 = .ok (.lload_n 2, 1) := by decide +kernel
theorem dX4_takes_95 : decode cX4_takes 95 = .ok (.aload_n 0, 1) := by decide +kernel
theorem dX4_takes_96 : decode cX4_takes 96 = .ok (.iload_n 1, 1) := by decide +kernel
theorem dX4_takes_97 : decode cX4_takes 97 = .ok (.iload 6, 2) := by decide +kernel
theorem dX4_takes_99 : decode cX4_takes 99 = .ok (.imul, 1) := by decide +kernel
theorem dX4_takes_100 : decode cX4_takes 100 = .ok (.invokevirtual 134, 3) := by decide +kernel
theorem dX4_takes_103 : decode cX4_takes 103 = .ok (.lmul, 1) := by decide +kernel
theorem dX4_takes_104 : decode cX4_takes 104 = .ok (.lload 4, 2) := by decide +kernel
theorem dX4_takes_106 : decode cX4_takes 106 = .ok (.aload_n 0, 1) := by decide +kernel
theorem dX4_takes_107 : decode cX4_takes 107 = .ok (.iload_n 1, 1) := by decide +kernel
theorem dX4_takes_108 : decode cX4_takes 108 = .ok (.iload 6, 2) := by decide +kernel
theorem dX4_takes_110 : decode cX4_takes 110 = .ok (.imul, 1) := by decide +kernel
theorem dX4_takes_111 : decode cX4_takes 111 = .ok (.invokevirtual 130, 3) := by decide +kernel
theorem dX4_takes_114 : decode cX4_takes 114 = .ok (.lmul, 1) := by decide +kernel
theorem dX4_takes_115 : decode cX4_takes 115 = .ok (.ladd, 1) := by decide +kernel
theorem dX4_takes_116 : decode cX4_takes 116 = .ok (.ldc2_w 141, 3) := by decide +kernel
theorem dX4_takes_119 : decode cX4_takes 119 = .ok (.ldiv, 1) := by decide +kernel
theorem dX4_takes_120 : decode cX4_takes 120 = .ok (.goto 4, 3) := by decide +kernel
theorem dX4_takes_123 : decode cX4_takes 123 = .ok (.lconst 0, 1) := by decide +kernel
theorem dX4_takes_124 : decode cX4_takes 124 = .ok (.lsub, 1) := by decide +kernel
theorem dX4_takes_125 : decode cX4_takes 125 = .ok (.lastore, 1) := by decide +kernel
theorem dX4_takes_126 : decode cX4_takes 126 = .ok (.iinc 6 1, 3) := by decide +kernel
theorem dX4_takes_129 : decode cX4_takes 129 = .ok (.goto (-61), 3) := by decide +kernel
theorem dX4_takes_132 : decode cX4_takes 132 = .ok (.return_, 1) := by decide +kernel
theorem dX4_laysAll_0 : decode cX4_laysAll 0 = .ok (.aload_n 0, 1) := by decide +kernel
theorem dX4_laysAll_1 : decode cX4_laysAll 1 = .ok (.iload_n 1, 1) := by decide +kernel
theorem dX4_laysAll_2 : decode cX4_laysAll 2 = .ok (.iconst 0, 1) := by decide +kernel
theorem dX4_laysAll_3 : decode cX4_laysAll 3 = .ok (.invokevirtual 152, 3) := by decide +kernel
theorem dX4_laysAll_6 : decode cX4_laysAll 6 = .ok (.aload_n 0, 1) := by decide +kernel
theorem dX4_laysAll_7 : decode cX4_laysAll 7 = .ok (.iload_n 2, 1) := by decide +kernel
theorem dX4_laysAll_8 : decode cX4_laysAll 8 = .ok (.invokevirtual 156, 3) := by decide +kernel
theorem dX4_laysAll_11 : decode cX4_laysAll 11 = .ok (.iconst 0, 1) := by decide +kernel
theorem dX4_laysAll_12 : decode cX4_laysAll 12 = .ok (.istore 4, 2) := by decide +kernel
theorem dX4_laysAll_14 : decode cX4_laysAll 14 = .ok (.iload 4, 2) := by decide +kernel
theorem dX4_laysAll_16 : decode cX4_laysAll 16 = .ok (.iload_n 3, 1) := by decide +kernel
theorem dX4_laysAll_17 : decode cX4_laysAll 17 = .ok (.if_icmp .ge 25, 3) := by decide +kernel
theorem dX4_laysAll_20 : decode cX4_laysAll 20 = .ok (.aload_n 0, 1) := by decide +kernel
theorem dX4_laysAll_21 : decode cX4_laysAll 21 = .ok (.aload_n 0, 1) := by decide +kernel
theorem dX4_laysAll_22 : decode cX4_laysAll 22 = .ok (.getfield 54, 3) := by decide +kernel
theorem dX4_laysAll_25 : decode cX4_laysAll 25 = .ok (.bipush 6, 2) := by decide +kernel
theorem dX4_laysAll_27 : decode cX4_laysAll 27 = .ok (.iload_n 1, 1) := by decide +kernel
theorem dX4_laysAll_28 : decode cX4_laysAll 28 = .ok (.imul, 1) := by decide +kernel
theorem dX4_laysAll_29 : decode cX4_laysAll 29 = .ok (.iload 4, 2) := by decide +kernel
theorem dX4_laysAll_31 : decode cX4_laysAll 31 = .ok (.iadd, 1) := by decide +kernel
theorem dX4_laysAll_32 : decode cX4_laysAll 32 = .ok (.iaload, 1) := by decide +kernel
theorem dX4_laysAll_33 : decode cX4_laysAll 33 = .ok (.invokevirtual 160, 3) := by decide +kernel
theorem dX4_laysAll_36 : decode cX4_laysAll 36 = .ok (.iinc 4 1, 3) := by decide +kernel
theorem dX4_laysAll_39 : decode cX4_laysAll 39 = .ok (.goto (-25), 3) := by decide +kernel
theorem dX4_laysAll_42 : decode cX4_laysAll 42 = .ok (.return_, 1) := by decide +kernel
theorem dX4_frames_0 : decode cX4_frames 0 = .ok (.aload_n 0, 1) := by decide +kernel
theorem dX4_frames_1 : decode cX4_frames 1 = .ok (.aload_n 0, 1) := by decide +kernel
theorem dX4_frames_2 : decode cX4_frames 2 = .ok (.iload_n 1, 1) := by decide +kernel
theorem dX4_frames_3 : decode cX4_frames 3 = .ok (.invokevirtual 119, 3) := by decide +kernel
theorem dX4_frames_6 : decode cX4_frames 6 = .ok (.ifCond .eq 7, 3) := by decide +kernel
theorem dX4_frames_9 : decode cX4_frames 9 = .ok (.iconst 0, 1) := by decide +kernel
theorem dX4_frames_10 : decode cX4_frames 10 = .ok (.goto 4, 3) := by decide +kernel
theorem dX4_frames_13 : decode cX4_frames 13 = .ok (.iconst 1, 1) := by decide +kernel
theorem dX4_frames_14 : decode cX4_frames 14 = .ok (.invokevirtual 114, 3) := by decide +kernel
theorem dX4_frames_17 : decode cX4_frames 17 = .ok (.ifCond .ne 5, 3) := by decide +kernel
theorem dX4_frames_20 : decode cX4_frames 20 = .ok (.iconst 0, 1) := by decide +kernel
theorem dX4_frames_21 : decode cX4_frames 21 = .ok (.ireturn, 1) := by decide +kernel
theorem dX4_frames_22 : decode cX4_frames 22 = .ok (.aload_n 0, 1) := by decide +kernel
theorem dX4_frames_23 : decode cX4_frames 23 = .ok (.iload_n 1, 1) := by decide +kernel
theorem dX4_frames_24 : decode cX4_frames 24 = .ok (.iconst 1, 1) := by decide +kernel
theorem dX4_frames_25 : decode cX4_frames 25 = .ok (.invokevirtual 152, 3) := by decide +kernel
theorem dX4_frames_28 : decode cX4_frames 28 = .ok (.aload_n 0, 1) := by decide +kernel
theorem dX4_frames_29 : decode cX4_frames 29 = .ok (.getfield 143, 3) := by decide +kernel
theorem dX4_frames_32 : decode cX4_frames 32 = .ok (.ireturn, 1) := by decide +kernel
theorem dX4_value_0 : decode cX4_value 0 = .ok (.aload_n 0, 1) := by decide +kernel
theorem dX4_value_1 : decode cX4_value 1 = .ok (.iload_n 1, 1) := by decide +kernel
theorem dX4_value_2 : decode cX4_value 2 = .ok (.invokevirtual 119, 3) := by decide +kernel
theorem dX4_value_5 : decode cX4_value 5 = .ok (.ifCond .eq 14, 3) := by decide +kernel
theorem dX4_value_8 : decode cX4_value 8 = .ok (.iload_n 2, 1) := by decide +kernel
theorem dX4_value_9 : decode cX4_value 9 = .ok (.invokestatic 163, 3) := by decide +kernel
theorem dX4_value_12 : decode cX4_value 12 = .ok (.ifCond .eq 7, 3) := by decide +kernel
theorem dX4_value_15 : decode cX4_value 15 = .ok (.iconst 1, 1) := by decide +kernel
theorem dX4_value_16 : decode cX4_value 16 = .ok (.goto 4, 3) := by decide +kernel
theorem dX4_value_19 : decode cX4_value 19 = .ok (.iconst 0, 1) := by decide +kernel
theorem dX4_value_20 : decode cX4_value 20 = .ok (.istore 4, 2) := by decide +kernel
theorem dX4_value_22 : decode cX4_value 22 = .ok (.aload_n 0, 1) := by decide +kernel
theorem dX4_value_23 : decode cX4_value 23 = .ok (.iload 4, 2) := by decide +kernel
theorem dX4_value_25 : decode cX4_value 25 = .ok (.ifCond .ne 7, 3) := by decide +kernel
theorem dX4_value_28 : decode cX4_value 28 = .ok (.iconst 1, 1) := by decide +kernel
theorem dX4_value_29 : decode cX4_value 29 = .ok (.goto 15, 3) := by decide +kernel
theorem dX4_value_32 : decode cX4_value 32 = .ok (.iload_n 3, 1) := by decide +kernel
theorem dX4_value_33 : decode cX4_value 33 = .ok (.invokestatic 126, 3) := by decide +kernel
theorem dX4_value_36 : decode cX4_value 36 = .ok (.ifCond .eq 7, 3) := by decide +kernel
theorem dX4_value_39 : decode cX4_value 39 = .ok (.iconst 0, 1) := by decide +kernel
theorem dX4_value_40 : decode cX4_value 40 = .ok (.goto 4, 3) := by decide +kernel
theorem dX4_value_43 : decode cX4_value 43 = .ok (.iconst 2, 1) := by decide +kernel
theorem dX4_value_44 : decode cX4_value 44 = .ok (.invokevirtual 114, 3) := by decide +kernel
theorem dX4_value_47 : decode cX4_value 47 = .ok (.ifCond .ne 5, 3) := by decide +kernel
theorem dX4_value_50 : decode cX4_value 50 = .ok (.iconst 0, 1) := by decide +kernel
theorem dX4_value_51 : decode cX4_value 51 = .ok (.ireturn, 1) := by decide +kernel
theorem dX4_value_52 : decode cX4_value 52 = .ok (.aload_n 0, 1) := by decide +kernel
theorem dX4_value_53 : decode cX4_value 53 = .ok (.iload_n 1, 1) := by decide +kernel
theorem dX4_value_54 : decode cX4_value 54 = .ok (.iload_n 2, 1) := by decide +kernel
theorem dX4_value_55 : decode cX4_value 55 = .ok (.aload_n 0, 1) := by decide +kernel
theorem dX4_value_56 : decode cX4_value 56 = .ok (.getfield 51, 3) := by decide +kernel
theorem dX4_value_59 : decode cX4_value 59 = .ok (.iload_n 1, 1) := by decide +kernel
theorem dX4_value_60 : decode cX4_value 60 = .ok (.iaload, 1) := by decide +kernel
theorem dX4_value_61 : decode cX4_value 61 = .ok (.invokevirtual 166, 3) := by decide +kernel
theorem dX4_value_64 : decode cX4_value 64 = .ok (.aload_n 0, 1) := by decide +kernel
theorem dX4_value_65 : decode cX4_value 65 = .ok (.getfield 60, 3) := by decide +kernel
theorem dX4_value_68 : decode cX4_value 68 = .ok (.iload_n 3, 1) := by decide +kernel
theorem dX4_value_69 : decode cX4_value 69 = .ok (.laload, 1) := by decide +kernel
theorem dX4_value_70 : decode cX4_value 70 = .ok (.l2i, 1) := by decide +kernel
theorem dX4_value_71 : decode cX4_value 71 = .ok (.ireturn, 1) := by decide +kernel
theorem dX4_isLine_0 : decode cX4_isLine 0 = .ok (.iload_n 0, 1) := by decide +kernel
theorem dX4_isLine_1 : decode cX4_isLine 1 = .ok (.iconst 0, 1) := by decide +kernel
theorem dX4_isLine_2 : decode cX4_isLine 2 = .ok (.bipush 31, 2) := by decide +kernel
theorem dX4_isLine_4 : decode cX4_isLine 4 = .ok (.invokestatic 104, 3) := by decide +kernel
theorem dX4_isLine_7 : decode cX4_isLine 7 = .ok (.ireturn, 1) := by decide +kernel
theorem dX4_power_0 : decode cX4_power 0 = .ok (.aload_n 0, 1) := by decide +kernel
theorem dX4_power_1 : decode cX4_power 1 = .ok (.iload_n 1, 1) := by decide +kernel
theorem dX4_power_2 : decode cX4_power 2 = .ok (.invokevirtual 119, 3) := by decide +kernel
theorem dX4_power_5 : decode cX4_power 5 = .ok (.ifCond .eq 14, 3) := by decide +kernel
theorem dX4_power_8 : decode cX4_power 8 = .ok (.iload_n 2, 1) := by decide +kernel
theorem dX4_power_9 : decode cX4_power 9 = .ok (.invokestatic 163, 3) := by decide +kernel
theorem dX4_power_12 : decode cX4_power 12 = .ok (.ifCond .eq 7, 3) := by decide +kernel
theorem dX4_power_15 : decode cX4_power 15 = .ok (.iconst 1, 1) := by decide +kernel
theorem dX4_power_16 : decode cX4_power 16 = .ok (.goto 4, 3) := by decide +kernel
theorem dX4_power_19 : decode cX4_power 19 = .ok (.iconst 0, 1) := by decide +kernel
theorem dX4_power_20 : decode cX4_power 20 = .ok (.istore 4, 2) := by decide +kernel
theorem dX4_power_22 : decode cX4_power 22 = .ok (.aload_n 0, 1) := by decide +kernel
theorem dX4_power_23 : decode cX4_power 23 = .ok (.iload 4, 2) := by decide +kernel
theorem dX4_power_25 : decode cX4_power 25 = .ok (.ifCond .ne 7, 3) := by decide +kernel
theorem dX4_power_28 : decode cX4_power 28 = .ok (.iconst 1, 1) := by decide +kernel
theorem dX4_power_29 : decode cX4_power 29 = .ok (.goto 15, 3) := by decide +kernel
theorem dX4_power_32 : decode cX4_power 32 = .ok (.iload_n 3, 1) := by decide +kernel
theorem dX4_power_33 : decode cX4_power 33 = .ok (.invokestatic 170, 3) := by decide +kernel
theorem dX4_power_36 : decode cX4_power 36 = .ok (.ifCond .eq 7, 3) := by decide +kernel
theorem dX4_power_39 : decode cX4_power 39 = .ok (.iconst 0, 1) := by decide +kernel
theorem dX4_power_40 : decode cX4_power 40 = .ok (.goto 4, 3) := by decide +kernel
theorem dX4_power_43 : decode cX4_power 43 = .ok (.iconst 2, 1) := by decide +kernel
theorem dX4_power_44 : decode cX4_power 44 = .ok (.invokevirtual 114, 3) := by decide +kernel
theorem dX4_power_47 : decode cX4_power 47 = .ok (.ifCond .ne 5, 3) := by decide +kernel
theorem dX4_power_50 : decode cX4_power 50 = .ok (.lconst 0, 1) := by decide +kernel
theorem dX4_power_51 : decode cX4_power 51 = .ok (.lreturn, 1) := by decide +kernel
theorem dX4_power_52 : decode cX4_power 52 = .ok (.aload_n 0, 1) := by decide +kernel
theorem dX4_power_53 : decode cX4_power 53 = .ok (.iload_n 1, 1) := by decide +kernel
theorem dX4_power_54 : decode cX4_power 54 = .ok (.iload_n 2, 1) := by decide +kernel
theorem dX4_power_55 : decode cX4_power 55 = .ok (.aload_n 0, 1) := by decide +kernel
theorem dX4_power_56 : decode cX4_power 56 = .ok (.getfield 51, 3) := by decide +kernel
theorem dX4_power_59 : decode cX4_power 59 = .ok (.iload_n 1, 1) := by decide +kernel
theorem dX4_power_60 : decode cX4_power 60 = .ok (.iaload, 1) := by decide +kernel
theorem dX4_power_61 : decode cX4_power 61 = .ok (.invokevirtual 166, 3) := by decide +kernel
theorem dX4_power_64 : decode cX4_power 64 = .ok (.aload_n 0, 1) := by decide +kernel
theorem dX4_power_65 : decode cX4_power 65 = .ok (.iload_n 3, 1) := by decide +kernel
theorem dX4_power_66 : decode cX4_power 66 = .ok (.invokevirtual 173, 3) := by decide +kernel
theorem dX4_power_69 : decode cX4_power 69 = .ok (.lreturn, 1) := by decide +kernel
theorem dX4_windowOf_0 : decode cX4_windowOf 0 = .ok (.aload_n 0, 1) := by decide +kernel
theorem dX4_windowOf_1 : decode cX4_windowOf 1 = .ok (.iload_n 1, 1) := by decide +kernel
theorem dX4_windowOf_2 : decode cX4_windowOf 2 = .ok (.iconst 1, 1) := by decide +kernel
theorem dX4_windowOf_3 : decode cX4_windowOf 3 = .ok (.invokevirtual 152, 3) := by decide +kernel
theorem dX4_windowOf_6 : decode cX4_windowOf 6 = .ok (.aload_n 0, 1) := by decide +kernel
theorem dX4_windowOf_7 : decode cX4_windowOf 7 = .ok (.iload_n 2, 1) := by decide +kernel
theorem dX4_windowOf_8 : decode cX4_windowOf 8 = .ok (.invokevirtual 173, 3) := by decide +kernel
theorem dX4_windowOf_11 : decode cX4_windowOf 11 = .ok (.lreturn, 1) := by decide +kernel
theorem dX4_window_0 : decode cX4_window 0 = .ok (.aload_n 0, 1) := by decide +kernel
theorem dX4_window_1 : decode cX4_window 1 = .ok (.aload_n 0, 1) := by decide +kernel
theorem dX4_window_2 : decode cX4_window 2 = .ok (.iload_n 1, 1) := by decide +kernel
theorem dX4_window_3 : decode cX4_window 3 = .ok (.invokevirtual 119, 3) := by decide +kernel
theorem dX4_window_6 : decode cX4_window 6 = .ok (.ifCond .ne 7, 3) := by decide +kernel
theorem dX4_window_9 : decode cX4_window 9 = .ok (.iconst 1, 1) := by decide +kernel
theorem dX4_window_10 : decode cX4_window 10 = .ok (.goto 15, 3) := by decide +kernel
theorem dX4_window_13 : decode cX4_window 13 = .ok (.iload_n 2, 1) := by decide +kernel
theorem dX4_window_14 : decode cX4_window 14 = .ok (.invokestatic 170, 3) := by decide +kernel
theorem dX4_window_17 : decode cX4_window 17 = .ok (.ifCond .eq 7, 3) := by decide +kernel
theorem dX4_window_20 : decode cX4_window 20 = .ok (.iconst 0, 1) := by decide +kernel
theorem dX4_window_21 : decode cX4_window 21 = .ok (.goto 4, 3) := by decide +kernel
theorem dX4_window_24 : decode cX4_window 24 = .ok (.iconst 2, 1) := by decide +kernel
theorem dX4_window_25 : decode cX4_window 25 = .ok (.invokevirtual 114, 3) := by decide +kernel
theorem dX4_window_28 : decode cX4_window 28 = .ok (.ifCond .eq 12, 3) := by decide +kernel
theorem dX4_window_31 : decode cX4_window 31 = .ok (.aload_n 0, 1) := by decide +kernel
theorem dX4_window_32 : decode cX4_window 32 = .ok (.iload_n 1, 1) := by decide +kernel
theorem dX4_window_33 : decode cX4_window 33 = .ok (.iload_n 2, 1) := by decide +kernel
theorem dX4_window_34 : decode cX4_window 34 = .ok (.invokevirtual 176, 3) := by decide +kernel
theorem dX4_window_37 : decode cX4_window 37 = .ok (.goto 4, 3) := by decide +kernel
theorem dX4_window_40 : decode cX4_window 40 = .ok (.lconst 0, 1) := by decide +kernel
theorem dX4_window_41 : decode cX4_window 41 = .ok (.lreturn, 1) := by decide +kernel
theorem dX4_peaks_0 : decode cX4_peaks 0 = .ok (.iload_n 3, 1) := by decide +kernel
theorem dX4_peaks_1 : decode cX4_peaks 1 = .ok (.iconst 1, 1) := by decide +kernel
theorem dX4_peaks_2 : decode cX4_peaks 2 = .ok (.bipush 30, 2) := by decide +kernel
theorem dX4_peaks_4 : decode cX4_peaks 4 = .ok (.invokestatic 104, 3) := by decide +kernel
theorem dX4_peaks_7 : decode cX4_peaks 7 = .ok (.ifCond .ne 5, 3) := by decide +kernel
theorem dX4_peaks_10 : decode cX4_peaks 10 = .ok (.iconst 0, 1) := by decide +kernel
theorem dX4_peaks_11 : decode cX4_peaks 11 = .ok (.ireturn, 1) := by decide +kernel
theorem dX4_peaks_12 : decode cX4_peaks 12 = .ok (.aload_n 0, 1) := by decide +kernel
theorem dX4_peaks_13 : decode cX4_peaks 13 = .ok (.iload_n 1, 1) := by decide +kernel
theorem dX4_peaks_14 : decode cX4_peaks 14 = .ok (.iload_n 2, 1) := by decide +kernel
theorem dX4_peaks_15 : decode cX4_peaks 15 = .ok (.aload_n 0, 1) := by decide +kernel
theorem dX4_peaks_16 : decode cX4_peaks 16 = .ok (.getfield 51, 3) := by decide +kernel
theorem dX4_peaks_19 : decode cX4_peaks 19 = .ok (.iload_n 1, 1) := by decide +kernel
theorem dX4_peaks_20 : decode cX4_peaks 20 = .ok (.iaload, 1) := by decide +kernel
theorem dX4_peaks_21 : decode cX4_peaks 21 = .ok (.invokevirtual 166, 3) := by decide +kernel
theorem dX4_peaks_24 : decode cX4_peaks 24 = .ok (.aload_n 0, 1) := by decide +kernel
theorem dX4_peaks_25 : decode cX4_peaks 25 = .ok (.iload_n 3, 1) := by decide +kernel
theorem dX4_peaks_26 : decode cX4_peaks 26 = .ok (.invokevirtual 173, 3) := by decide +kernel
theorem dX4_peaks_29 : decode cX4_peaks 29 = .ok (.lstore 4, 2) := by decide +kernel
theorem dX4_peaks_31 : decode cX4_peaks 31 = .ok (.lload 4, 2) := by decide +kernel
theorem dX4_peaks_33 : decode cX4_peaks 33 = .ok (.aload_n 0, 1) := by decide +kernel
theorem dX4_peaks_34 : decode cX4_peaks 34 = .ok (.getfield 47, 3) := by decide +kernel
theorem dX4_peaks_37 : decode cX4_peaks 37 = .ok (.i2l, 1) := by decide +kernel
theorem dX4_peaks_38 : decode cX4_peaks 38 = .ok (.lcmp, 1) := by decide +kernel
theorem dX4_peaks_39 : decode cX4_peaks 39 = .ok (.ifCond .lt 33, 3) := by decide +kernel
theorem dX4_peaks_42 : decode cX4_peaks 42 = .ok (.lload 4, 2) := by decide +kernel
theorem dX4_peaks_44 : decode cX4_peaks 44 = .ok (.aload_n 0, 1) := by decide +kernel
theorem dX4_peaks_45 : decode cX4_peaks 45 = .ok (.iload_n 3, 1) := by decide +kernel
theorem dX4_peaks_46 : decode cX4_peaks 46 = .ok (.iconst 1, 1) := by decide +kernel
theorem dX4_peaks_47 : decode cX4_peaks 47 = .ok (.isub, 1) := by decide +kernel
theorem dX4_peaks_48 : decode cX4_peaks 48 = .ok (.invokevirtual 173, 3) := by decide +kernel
theorem dX4_peaks_51 : decode cX4_peaks 51 = .ok (.lcmp, 1) := by decide +kernel
theorem dX4_peaks_52 : decode cX4_peaks 52 = .ok (.ifCond .le 20, 3) := by decide +kernel
theorem dX4_peaks_55 : decode cX4_peaks 55 = .ok (.lload 4, 2) := by decide +kernel
theorem dX4_peaks_57 : decode cX4_peaks 57 = .ok (.aload_n 0, 1) := by decide +kernel
theorem dX4_peaks_58 : decode cX4_peaks 58 = .ok (.iload_n 3, 1) := by decide +kernel
theorem dX4_peaks_59 : decode cX4_peaks 59 = .ok (.iconst 1, 1) := by decide +kernel
theorem dX4_peaks_60 : decode cX4_peaks 60 = .ok (.iadd, 1) := by decide +kernel
theorem dX4_peaks_61 : decode cX4_peaks 61 = .ok (.invokevirtual 173, 3) := by decide +kernel
theorem dX4_peaks_64 : decode cX4_peaks 64 = .ok (.lcmp, 1) := by decide +kernel
theorem dX4_peaks_65 : decode cX4_peaks 65 = .ok (.ifCond .le 7, 3) := by decide +kernel
theorem dX4_peaks_68 : decode cX4_peaks 68 = .ok (.iconst 1, 1) := by decide +kernel
theorem dX4_peaks_69 : decode cX4_peaks 69 = .ok (.goto 4, 3) := by decide +kernel
theorem dX4_peaks_72 : decode cX4_peaks 72 = .ok (.iconst 0, 1) := by decide +kernel
theorem dX4_peaks_73 : decode cX4_peaks 73 = .ok (.ireturn, 1) := by decide +kernel
theorem dX4_isPeak_0 : decode cX4_isPeak 0 = .ok (.aload_n 0, 1) := by decide +kernel
theorem dX4_isPeak_1 : decode cX4_isPeak 1 = .ok (.aload_n 0, 1) := by decide +kernel
theorem dX4_isPeak_2 : decode cX4_isPeak 2 = .ok (.iload_n 1, 1) := by decide +kernel
theorem dX4_isPeak_3 : decode cX4_isPeak 3 = .ok (.invokevirtual 119, 3) := by decide +kernel
theorem dX4_isPeak_6 : decode cX4_isPeak 6 = .ok (.ifCond .eq 14, 3) := by decide +kernel
theorem dX4_isPeak_9 : decode cX4_isPeak 9 = .ok (.iload_n 2, 1) := by decide +kernel
theorem dX4_isPeak_10 : decode cX4_isPeak 10 = .ok (.invokestatic 163, 3) := by decide +kernel
theorem dX4_isPeak_13 : decode cX4_isPeak 13 = .ok (.ifCond .eq 7, 3) := by decide +kernel
theorem dX4_isPeak_16 : decode cX4_isPeak 16 = .ok (.iconst 0, 1) := by decide +kernel
theorem dX4_isPeak_17 : decode cX4_isPeak 17 = .ok (.goto 4, 3) := by decide +kernel
theorem dX4_isPeak_20 : decode cX4_isPeak 20 = .ok (.iconst 1, 1) := by decide +kernel
theorem dX4_isPeak_21 : decode cX4_isPeak 21 = .ok (.invokevirtual 114, 3) := by decide +kernel
theorem dX4_isPeak_24 : decode cX4_isPeak 24 = .ok (.ifCond .eq 17, 3) := by decide +kernel
theorem dX4_isPeak_27 : decode cX4_isPeak 27 = .ok (.aload_n 0, 1) := by decide +kernel
theorem dX4_isPeak_28 : decode cX4_isPeak 28 = .ok (.iload_n 1, 1) := by decide +kernel
theorem dX4_isPeak_29 : decode cX4_isPeak 29 = .ok (.iload_n 2, 1) := by decide +kernel
theorem dX4_isPeak_30 : decode cX4_isPeak 30 = .ok (.iload_n 3, 1) := by decide +kernel
theorem dX4_isPeak_31 : decode cX4_isPeak 31 = .ok (.invokevirtual 180, 3) := by decide +kernel
theorem dX4_isPeak_34 : decode cX4_isPeak 34 = .ok (.ifCond .eq 7, 3) := by decide +kernel
theorem dX4_isPeak_37 : decode cX4_isPeak 37 = .ok (.iconst 1, 1) := by decide +kernel
theorem dX4_isPeak_38 : decode cX4_isPeak 38 = .ok (.goto 4, 3) := by decide +kernel
theorem dX4_isPeak_41 : decode cX4_isPeak 41 = .ok (.iconst 0, 1) := by decide +kernel
theorem dX4_isPeak_42 : decode cX4_isPeak 42 = .ok (.ireturn, 1) := by decide +kernel
theorem dX4_seesThrough_0 : decode cX4_seesThrough 0 = .ok (.aload_n 0, 1) := by decide +kernel
theorem dX4_seesThrough_1 : decode cX4_seesThrough 1 = .ok (.iload_n 1, 1) := by decide +kernel
theorem dX4_seesThrough_2 : decode cX4_seesThrough 2 = .ok (.iload_n 2, 1) := by decide +kernel
theorem dX4_seesThrough_3 : decode cX4_seesThrough 3 = .ok (.aload_n 0, 1) := by decide +kernel
theorem dX4_seesThrough_4 : decode cX4_seesThrough 4 = .ok (.getfield 51, 3) := by decide +kernel
theorem dX4_seesThrough_7 : decode cX4_seesThrough 7 = .ok (.iload_n 1, 1) := by decide +kernel
theorem dX4_seesThrough_8 : decode cX4_seesThrough 8 = .ok (.iaload, 1) := by decide +kernel
theorem dX4_seesThrough_9 : decode cX4_seesThrough 9 = .ok (.invokevirtual 166, 3) := by decide +kernel
theorem dX4_seesThrough_12 : decode cX4_seesThrough 12 = .ok (.aload_n 0, 1) := by decide +kernel
theorem dX4_seesThrough_13 : decode cX4_seesThrough 13 = .ok (.iload 4, 2) := by decide +kernel
theorem dX4_seesThrough_15 : decode cX4_seesThrough 15 = .ok (.invokevirtual 173, 3) := by decide +kernel
theorem dX4_seesThrough_18 : decode cX4_seesThrough 18 = .ok (.aload_n 0, 1) := by decide +kernel
theorem dX4_seesThrough_19 : decode cX4_seesThrough 19 = .ok (.iload_n 3, 1) := by decide +kernel
theorem dX4_seesThrough_20 : decode cX4_seesThrough 20 = .ok (.invokevirtual 173, 3) := by decide +kernel
theorem dX4_seesThrough_23 : decode cX4_seesThrough 23 = .ok (.lcmp, 1) := by decide +kernel
theorem dX4_seesThrough_24 : decode cX4_seesThrough 24 = .ok (.ifCond .le 7, 3) := by decide +kernel
theorem dX4_seesThrough_27 : decode cX4_seesThrough 27 = .ok (.iconst 1, 1) := by decide +kernel
theorem dX4_seesThrough_28 : decode cX4_seesThrough 28 = .ok (.goto 4, 3) := by decide +kernel
theorem dX4_seesThrough_31 : decode cX4_seesThrough 31 = .ok (.iconst 0, 1) := by decide +kernel
theorem dX4_seesThrough_32 : decode cX4_seesThrough 32 = .ok (.istore 5, 2) := by decide +kernel
theorem dX4_seesThrough_34 : decode cX4_seesThrough 34 = .ok (.aload_n 0, 1) := by decide +kernel
theorem dX4_seesThrough_35 : decode cX4_seesThrough 35 = .ok (.iload_n 1, 1) := by decide +kernel
theorem dX4_seesThrough_36 : decode cX4_seesThrough 36 = .ok (.iload_n 3, 1) := by decide +kernel
theorem dX4_seesThrough_37 : decode cX4_seesThrough 37 = .ok (.iload 4, 2) := by decide +kernel
theorem dX4_seesThrough_39 : decode cX4_seesThrough 39 = .ok (.if_icmp .le 10, 3) := by decide +kernel
theorem dX4_seesThrough_42 : decode cX4_seesThrough 42 = .ok (.iload_n 3, 1) := by decide +kernel
theorem dX4_seesThrough_43 : decode cX4_seesThrough 43 = .ok (.iload 4, 2) := by decide +kernel
theorem dX4_seesThrough_45 : decode cX4_seesThrough 45 = .ok (.isub, 1) := by decide +kernel
theorem dX4_seesThrough_46 : decode cX4_seesThrough 46 = .ok (.goto 7, 3) := by decide +kernel
theorem dX4_seesThrough_49 : decode cX4_seesThrough 49 = .ok (.iload 4, 2) := by decide +kernel
theorem dX4_seesThrough_51 : decode cX4_seesThrough 51 = .ok (.iload_n 3, 1) := by decide +kernel
theorem dX4_seesThrough_52 : decode cX4_seesThrough 52 = .ok (.isub, 1) := by decide +kernel
theorem dX4_seesThrough_53 : decode cX4_seesThrough 53 = .ok (.invokevirtual 176, 3) := by decide +kernel
theorem dX4_seesThrough_56 : decode cX4_seesThrough 56 = .ok (.lstore 6, 2) := by decide +kernel
theorem dX4_seesThrough_58 : decode cX4_seesThrough 58 = .ok (.iload 5, 2) := by decide +kernel
theorem dX4_seesThrough_60 : decode cX4_seesThrough 60 = .ok (.ifCond .eq 28, 3) := by decide +kernel
theorem dX4_seesThrough_63 : decode cX4_seesThrough 63 = .ok (.ldc2_w 183, 3) := by decide +kernel
theorem dX4_seesThrough_66 : decode cX4_seesThrough 66 = .ok (.lload 6, 2) := by decide +kernel
theorem dX4_seesThrough_68 : decode cX4_seesThrough 68 = .ok (.lmul, 1) := by decide +kernel
theorem dX4_seesThrough_69 : decode cX4_seesThrough 69 = .ok (.aload_n 0, 1) := by decide +kernel
theorem dX4_seesThrough_70 : decode cX4_seesThrough 70 = .ok (.getfield 143, 3) := by decide +kernel
theorem dX4_seesThrough_73 : decode cX4_seesThrough 73 = .ok (.i2l, 1) := by decide +kernel
theorem dX4_seesThrough_74 : decode cX4_seesThrough 74 = .ok (.aload_n 0, 1) := by decide +kernel
theorem dX4_seesThrough_75 : decode cX4_seesThrough 75 = .ok (.getfield 143, 3) := by decide +kernel
theorem dX4_seesThrough_78 : decode cX4_seesThrough 78 = .ok (.i2l, 1) := by decide +kernel
theorem dX4_seesThrough_79 : decode cX4_seesThrough 79 = .ok (.lmul, 1) := by decide +kernel
theorem dX4_seesThrough_80 : decode cX4_seesThrough 80 = .ok (.lcmp, 1) := by decide +kernel
theorem dX4_seesThrough_81 : decode cX4_seesThrough 81 = .ok (.ifCond .lt 7, 3) := by decide +kernel
theorem dX4_seesThrough_84 : decode cX4_seesThrough 84 = .ok (.iconst 1, 1) := by decide +kernel
theorem dX4_seesThrough_85 : decode cX4_seesThrough 85 = .ok (.goto 4, 3) := by decide +kernel
theorem dX4_seesThrough_88 : decode cX4_seesThrough 88 = .ok (.iconst 0, 1) := by decide +kernel
theorem dX4_seesThrough_89 : decode cX4_seesThrough 89 = .ok (.ireturn, 1) := by decide +kernel
theorem dX4_isSeenThrough_0 : decode cX4_isSeenThrough 0 = .ok (.aload_n 0, 1) := by decide +kernel
theorem dX4_isSeenThrough_1 : decode cX4_isSeenThrough 1 = .ok (.iload_n 1, 1) := by decide +kernel
theorem dX4_isSeenThrough_2 : decode cX4_isSeenThrough 2 = .ok (.invokevirtual 119, 3) := by decide +kernel
theorem dX4_isSeenThrough_5 : decode cX4_isSeenThrough 5 = .ok (.ifCond .eq 14, 3) := by decide +kernel
theorem dX4_isSeenThrough_8 : decode cX4_isSeenThrough 8 = .ok (.iload_n 2, 1) := by decide +kernel
theorem dX4_isSeenThrough_9 : decode cX4_isSeenThrough 9 = .ok (.invokestatic 163, 3) := by decide +kernel
theorem dX4_isSeenThrough_12 : decode cX4_isSeenThrough 12 = .ok (.ifCond .eq 7, 3) := by decide +kernel
theorem dX4_isSeenThrough_15 : decode cX4_isSeenThrough 15 = .ok (.iconst 1, 1) := by decide +kernel
theorem dX4_isSeenThrough_16 : decode cX4_isSeenThrough 16 = .ok (.goto 4, 3) := by decide +kernel
theorem dX4_isSeenThrough_19 : decode cX4_isSeenThrough 19 = .ok (.iconst 0, 1) := by decide +kernel
theorem dX4_isSeenThrough_20 : decode cX4_isSeenThrough 20 = .ok (.istore 5, 2) := by decide +kernel
theorem dX4_isSeenThrough_22 : decode cX4_isSeenThrough 22 = .ok (.iload_n 3, 1) := by decide +kernel
theorem dX4_isSeenThrough_23 : decode cX4_isSeenThrough 23 = .ok (.invokestatic 170, 3) := by decide +kernel
theorem dX4_isSeenThrough_26 : decode cX4_isSeenThrough 26 = .ok (.ifCond .eq 21, 3) := by decide +kernel
theorem dX4_isSeenThrough_29 : decode cX4_isSeenThrough 29 = .ok (.iload 4, 2) := by decide +kernel
theorem dX4_isSeenThrough_31 : decode cX4_isSeenThrough 31 = .ok (.invokestatic 170, 3) := by decide +kernel
theorem dX4_isSeenThrough_34 : decode cX4_isSeenThrough 34 = .ok (.ifCond .eq 13, 3) := by decide +kernel
theorem dX4_isSeenThrough_37 : decode cX4_isSeenThrough 37 = .ok (.iload_n 3, 1) := by decide +kernel
theorem dX4_isSeenThrough_38 : decode cX4_isSeenThrough 38 = .ok (.iload 4, 2) := by decide +kernel
theorem dX4_isSeenThrough_40 : decode cX4_isSeenThrough 40 = .ok (.if_icmp .eq 7, 3) := by decide +kernel
theorem dX4_isSeenThrough_43 : decode cX4_isSeenThrough 43 = .ok (.iconst 1, 1) := by decide +kernel
theorem dX4_isSeenThrough_44 : decode cX4_isSeenThrough 44 = .ok (.goto 4, 3) := by decide +kernel
theorem dX4_isSeenThrough_47 : decode cX4_isSeenThrough 47 = .ok (.iconst 0, 1) := by decide +kernel
theorem dX4_isSeenThrough_48 : decode cX4_isSeenThrough 48 = .ok (.istore 6, 2) := by decide +kernel
theorem dX4_isSeenThrough_50 : decode cX4_isSeenThrough 50 = .ok (.aload_n 0, 1) := by decide +kernel
theorem dX4_isSeenThrough_51 : decode cX4_isSeenThrough 51 = .ok (.iload 5, 2) := by decide +kernel
theorem dX4_isSeenThrough_53 : decode cX4_isSeenThrough 53 = .ok (.ifCond .ne 7, 3) := by decide +kernel
theorem dX4_isSeenThrough_56 : decode cX4_isSeenThrough 56 = .ok (.iconst 1, 1) := by decide +kernel
theorem dX4_isSeenThrough_57 : decode cX4_isSeenThrough 57 = .ok (.goto 13, 3) := by decide +kernel
theorem dX4_isSeenThrough_60 : decode cX4_isSeenThrough 60 = .ok (.iload 6, 2) := by decide +kernel
theorem dX4_isSeenThrough_62 : decode cX4_isSeenThrough 62 = .ok (.ifCond .eq 7, 3) := by decide +kernel
theorem dX4_isSeenThrough_65 : decode cX4_isSeenThrough 65 = .ok (.iconst 0, 1) := by decide +kernel
theorem dX4_isSeenThrough_66 : decode cX4_isSeenThrough 66 = .ok (.goto 4, 3) := by decide +kernel
theorem dX4_isSeenThrough_69 : decode cX4_isSeenThrough 69 = .ok (.iconst 2, 1) := by decide +kernel
theorem dX4_isSeenThrough_70 : decode cX4_isSeenThrough 70 = .ok (.invokevirtual 114, 3) := by decide +kernel
theorem dX4_isSeenThrough_73 : decode cX4_isSeenThrough 73 = .ok (.ifCond .eq 19, 3) := by decide +kernel
theorem dX4_isSeenThrough_76 : decode cX4_isSeenThrough 76 = .ok (.aload_n 0, 1) := by decide +kernel
theorem dX4_isSeenThrough_77 : decode cX4_isSeenThrough 77 = .ok (.iload_n 1, 1) := by decide +kernel
theorem dX4_isSeenThrough_78 : decode cX4_isSeenThrough 78 = .ok (.iload_n 2, 1) := by decide +kernel
theorem dX4_isSeenThrough_79 : decode cX4_isSeenThrough 79 = .ok (.iload_n 3, 1) := by decide +kernel
theorem dX4_isSeenThrough_80 : decode cX4_isSeenThrough 80 = .ok (.iload 4, 2) := by decide +kernel
theorem dX4_isSeenThrough_82 : decode cX4_isSeenThrough 82 = .ok (.invokevirtual 185, 3) := by decide +kernel
theorem dX4_isSeenThrough_85 : decode cX4_isSeenThrough 85 = .ok (.ifCond .eq 7, 3) := by decide +kernel
theorem dX4_isSeenThrough_88 : decode cX4_isSeenThrough 88 = .ok (.iconst 1, 1) := by decide +kernel
theorem dX4_isSeenThrough_89 : decode cX4_isSeenThrough 89 = .ok (.goto 4, 3) := by decide +kernel
theorem dX4_isSeenThrough_92 : decode cX4_isSeenThrough 92 = .ok (.iconst 0, 1) := by decide +kernel
theorem dX4_isSeenThrough_93 : decode cX4_isSeenThrough 93 = .ok (.ireturn, 1) := by decide +kernel
theorem dX4_makes_0 : decode cX4_makes 0 = .ok (.aload_n 0, 1) := by decide +kernel
theorem dX4_makes_1 : decode cX4_makes 1 = .ok (.getfield 67, 3) := by decide +kernel
theorem dX4_makes_4 : decode cX4_makes 4 = .ok (.aload_n 0, 1) := by decide +kernel
theorem dX4_makes_5 : decode cX4_makes 5 = .ok (.getfield 108, 3) := by decide +kernel
theorem dX4_makes_8 : decode cX4_makes 8 = .ok (.iload_n 1, 1) := by decide +kernel
theorem dX4_makes_9 : decode cX4_makes 9 = .ok (.iastore, 1) := by decide +kernel
theorem dX4_makes_10 : decode cX4_makes 10 = .ok (.aload_n 0, 1) := by decide +kernel
theorem dX4_makes_11 : decode cX4_makes 11 = .ok (.getfield 70, 3) := by decide +kernel
theorem dX4_makes_14 : decode cX4_makes 14 = .ok (.aload_n 0, 1) := by decide +kernel
theorem dX4_makes_15 : decode cX4_makes 15 = .ok (.getfield 108, 3) := by decide +kernel
theorem dX4_makes_18 : decode cX4_makes 18 = .ok (.iload_n 2, 1) := by decide +kernel
theorem dX4_makes_19 : decode cX4_makes 19 = .ok (.iastore, 1) := by decide +kernel
theorem dX4_makes_20 : decode cX4_makes 20 = .ok (.aload_n 0, 1) := by decide +kernel
theorem dX4_makes_21 : decode cX4_makes 21 = .ok (.getfield 73, 3) := by decide +kernel
theorem dX4_makes_24 : decode cX4_makes 24 = .ok (.aload_n 0, 1) := by decide +kernel
theorem dX4_makes_25 : decode cX4_makes 25 = .ok (.getfield 108, 3) := by decide +kernel
theorem dX4_makes_28 : decode cX4_makes 28 = .ok (.iload_n 3, 1) := by decide +kernel
theorem dX4_makes_29 : decode cX4_makes 29 = .ok (.iastore, 1) := by decide +kernel
theorem dX4_makes_30 : decode cX4_makes 30 = .ok (.aload_n 0, 1) := by decide +kernel
theorem dX4_makes_31 : decode cX4_makes 31 = .ok (.getfield 85, 3) := by decide +kernel
theorem dX4_makes_34 : decode cX4_makes 34 = .ok (.aload_n 0, 1) := by decide +kernel
theorem dX4_makes_35 : decode cX4_makes 35 = .ok (.getfield 108, 3) := by decide +kernel
theorem dX4_makes_38 : decode cX4_makes 38 = .ok (.iconst (-1), 1) := by decide +kernel
theorem dX4_makes_39 : decode cX4_makes 39 = .ok (.iastore, 1) := by decide +kernel
theorem dX4_makes_40 : decode cX4_makes 40 = .ok (.aload_n 0, 1) := by decide +kernel
theorem dX4_makes_41 : decode cX4_makes 41 = .ok (.getfield 88, 3) := by decide +kernel
theorem dX4_makes_44 : decode cX4_makes 44 = .ok (.aload_n 0, 1) := by decide +kernel
theorem dX4_makes_45 : decode cX4_makes 45 = .ok (.getfield 108, 3) := by decide +kernel
theorem dX4_makes_48 : decode cX4_makes 48 = .ok (.lconst 0, 1) := by decide +kernel
theorem dX4_makes_49 : decode cX4_makes 49 = .ok (.lastore, 1) := by decide +kernel
theorem dX4_makes_50 : decode cX4_makes 50 = .ok (.aload_n 0, 1) := by decide +kernel
theorem dX4_makes_51 : decode cX4_makes 51 = .ok (.getfield 91, 3) := by decide +kernel
theorem dX4_makes_54 : decode cX4_makes 54 = .ok (.aload_n 0, 1) := by decide +kernel
theorem dX4_makes_55 : decode cX4_makes 55 = .ok (.getfield 108, 3) := by decide +kernel
theorem dX4_makes_58 : decode cX4_makes 58 = .ok (.iconst 1, 1) := by decide +kernel
theorem dX4_makes_59 : decode cX4_makes 59 = .ok (.bastore, 1) := by decide +kernel
theorem dX4_makes_60 : decode cX4_makes 60 = .ok (.aload_n 0, 1) := by decide +kernel
theorem dX4_makes_61 : decode cX4_makes 61 = .ok (.dup, 1) := by decide +kernel
theorem dX4_makes_62 : decode cX4_makes 62 = .ok (.getfield 108, 3) := by decide +kernel
theorem dX4_makes_65 : decode cX4_makes 65 = .ok (.iconst 1, 1) := by decide +kernel
theorem dX4_makes_66 : decode cX4_makes 66 = .ok (.iadd, 1) := by decide +kernel
theorem dX4_makes_67 : decode cX4_makes 67 = .ok (.putfield 108, 3) := by decide +kernel
theorem dX4_makes_70 : decode cX4_makes 70 = .ok (.aload_n 0, 1) := by decide +kernel
theorem dX4_makes_71 : decode cX4_makes 71 = .ok (.getfield 108, 3) := by decide +kernel
theorem dX4_makes_74 : decode cX4_makes 74 = .ok (.iconst 1, 1) := by decide +kernel
theorem dX4_makes_75 : decode cX4_makes 75 = .ok (.isub, 1) := by decide +kernel
theorem dX4_makes_76 : decode cX4_makes 76 = .ok (.ireturn, 1) := by decide +kernel
theorem dX4_claimTone_0 : decode cX4_claimTone 0 = .ok (.aload_n 0, 1) := by decide +kernel
theorem dX4_claimTone_1 : decode cX4_claimTone 1 = .ok (.iload_n 1, 1) := by decide +kernel
theorem dX4_claimTone_2 : decode cX4_claimTone 2 = .ok (.invokevirtual 119, 3) := by decide +kernel
theorem dX4_claimTone_5 : decode cX4_claimTone 5 = .ok (.ifCond .eq 14, 3) := by decide +kernel
theorem dX4_claimTone_8 : decode cX4_claimTone 8 = .ok (.iload_n 2, 1) := by decide +kernel
theorem dX4_claimTone_9 : decode cX4_claimTone 9 = .ok (.invokestatic 163, 3) := by decide +kernel
theorem dX4_claimTone_12 : decode cX4_claimTone 12 = .ok (.ifCond .eq 7, 3) := by decide +kernel
theorem dX4_claimTone_15 : decode cX4_claimTone 15 = .ok (.iconst 1, 1) := by decide +kernel
theorem dX4_claimTone_16 : decode cX4_claimTone 16 = .ok (.goto 4, 3) := by decide +kernel
theorem dX4_claimTone_19 : decode cX4_claimTone 19 = .ok (.iconst 0, 1) := by decide +kernel
theorem dX4_claimTone_20 : decode cX4_claimTone 20 = .ok (.istore 4, 2) := by decide +kernel
theorem dX4_claimTone_22 : decode cX4_claimTone 22 = .ok (.aload_n 0, 1) := by decide +kernel
theorem dX4_claimTone_23 : decode cX4_claimTone 23 = .ok (.iload 4, 2) := by decide +kernel
theorem dX4_claimTone_25 : decode cX4_claimTone 25 = .ok (.ifCond .ne 7, 3) := by decide +kernel
theorem dX4_claimTone_28 : decode cX4_claimTone 28 = .ok (.iconst 1, 1) := by decide +kernel
theorem dX4_claimTone_29 : decode cX4_claimTone 29 = .ok (.goto 27, 3) := by decide +kernel
theorem dX4_claimTone_32 : decode cX4_claimTone 32 = .ok (.aload_n 0, 1) := by decide +kernel
theorem dX4_claimTone_33 : decode cX4_claimTone 33 = .ok (.getfield 108, 3) := by decide +kernel
theorem dX4_claimTone_36 : decode cX4_claimTone 36 = .ok (.bipush 40, 2) := by decide +kernel
theorem dX4_claimTone_38 : decode cX4_claimTone 38 = .ok (.if_icmp .ge 17, 3) := by decide +kernel
theorem dX4_claimTone_41 : decode cX4_claimTone 41 = .ok (.aload_n 0, 1) := by decide +kernel
theorem dX4_claimTone_42 : decode cX4_claimTone 42 = .ok (.iload_n 1, 1) := by decide +kernel
theorem dX4_claimTone_43 : decode cX4_claimTone 43 = .ok (.iload_n 2, 1) := by decide +kernel
theorem dX4_claimTone_44 : decode cX4_claimTone 44 = .ok (.iload_n 3, 1) := by decide +kernel
theorem dX4_claimTone_45 : decode cX4_claimTone 45 = .ok (.invokevirtual 180, 3) := by decide +kernel
theorem dX4_claimTone_48 : decode cX4_claimTone 48 = .ok (.ifCond .eq 7, 3) := by decide +kernel
theorem dX4_claimTone_51 : decode cX4_claimTone 51 = .ok (.iconst 0, 1) := by decide +kernel
theorem dX4_claimTone_52 : decode cX4_claimTone 52 = .ok (.goto 4, 3) := by decide +kernel
theorem dX4_claimTone_55 : decode cX4_claimTone 55 = .ok (.iconst 2, 1) := by decide +kernel
theorem dX4_claimTone_56 : decode cX4_claimTone 56 = .ok (.invokevirtual 114, 3) := by decide +kernel
theorem dX4_claimTone_59 : decode cX4_claimTone 59 = .ok (.ifCond .ne 5, 3) := by decide +kernel
theorem dX4_claimTone_62 : decode cX4_claimTone 62 = .ok (.iconst 0, 1) := by decide +kernel
theorem dX4_claimTone_63 : decode cX4_claimTone 63 = .ok (.ireturn, 1) := by decide +kernel
theorem dX4_claimTone_64 : decode cX4_claimTone 64 = .ok (.aload_n 0, 1) := by decide +kernel
theorem dX4_claimTone_65 : decode cX4_claimTone 65 = .ok (.iconst 0, 1) := by decide +kernel
theorem dX4_claimTone_66 : decode cX4_claimTone 66 = .ok (.iload_n 1, 1) := by decide +kernel
theorem dX4_claimTone_67 : decode cX4_claimTone 67 = .ok (.iload_n 3, 1) := by decide +kernel
theorem dX4_claimTone_68 : decode cX4_claimTone 68 = .ok (.invokevirtual 189, 3) := by decide +kernel
theorem dX4_claimTone_71 : decode cX4_claimTone 71 = .ok (.istore 5, 2) := by decide +kernel
theorem dX4_claimTone_73 : decode cX4_claimTone 73 = .ok (.aload_n 0, 1) := by decide +kernel
theorem dX4_claimTone_74 : decode cX4_claimTone 74 = .ok (.getfield 76, 3) := by decide +kernel
theorem dX4_claimTone_77 : decode cX4_claimTone 77 = .ok (.iload 5, 2) := by decide +kernel
theorem dX4_claimTone_79 : decode cX4_claimTone 79 = .ok (.iload_n 2, 1) := by decide +kernel
theorem dX4_claimTone_80 : decode cX4_claimTone 80 = .ok (.iastore, 1) := by decide +kernel
theorem dX4_claimTone_81 : decode cX4_claimTone 81 = .ok (.aload_n 0, 1) := by decide +kernel
theorem dX4_claimTone_82 : decode cX4_claimTone 82 = .ok (.getfield 79, 3) := by decide +kernel
theorem dX4_claimTone_85 : decode cX4_claimTone 85 = .ok (.iload 5, 2) := by decide +kernel
theorem dX4_claimTone_87 : decode cX4_claimTone 87 = .ok (.aload_n 0, 1) := by decide +kernel
theorem dX4_claimTone_88 : decode cX4_claimTone 88 = .ok (.getfield 51, 3) := by decide +kernel
theorem dX4_claimTone_91 : decode cX4_claimTone 91 = .ok (.iload_n 1, 1) := by decide +kernel
theorem dX4_claimTone_92 : decode cX4_claimTone 92 = .ok (.iaload, 1) := by decide +kernel
theorem dX4_claimTone_93 : decode cX4_claimTone 93 = .ok (.iastore, 1) := by decide +kernel
theorem dX4_claimTone_94 : decode cX4_claimTone 94 = .ok (.aload_n 0, 1) := by decide +kernel
theorem dX4_claimTone_95 : decode cX4_claimTone 95 = .ok (.iload_n 1, 1) := by decide +kernel
theorem dX4_claimTone_96 : decode cX4_claimTone 96 = .ok (.iload_n 2, 1) := by decide +kernel
theorem dX4_claimTone_97 : decode cX4_claimTone 97 = .ok (.aload_n 0, 1) := by decide +kernel
theorem dX4_claimTone_98 : decode cX4_claimTone 98 = .ok (.getfield 51, 3) := by decide +kernel
theorem dX4_claimTone_101 : decode cX4_claimTone 101 = .ok (.iload_n 1, 1) := by decide +kernel
theorem dX4_claimTone_102 : decode cX4_claimTone 102 = .ok (.iaload, 1) := by decide +kernel
theorem dX4_claimTone_103 : decode cX4_claimTone 103 = .ok (.invokevirtual 166, 3) := by decide +kernel
theorem dX4_claimTone_106 : decode cX4_claimTone 106 = .ok (.aload_n 0, 1) := by decide +kernel
theorem dX4_claimTone_107 : decode cX4_claimTone 107 = .ok (.getfield 82, 3) := by decide +kernel
theorem dX4_claimTone_110 : decode cX4_claimTone 110 = .ok (.iload 5, 2) := by decide +kernel
theorem dX4_claimTone_112 : decode cX4_claimTone 112 = .ok (.aload_n 0, 1) := by decide +kernel
theorem dX4_claimTone_113 : decode cX4_claimTone 113 = .ok (.iload_n 3, 1) := by decide +kernel
theorem dX4_claimTone_114 : decode cX4_claimTone 114 = .ok (.invokevirtual 173, 3) := by decide +kernel
theorem dX4_claimTone_117 : decode cX4_claimTone 117 = .ok (.lastore, 1) := by decide +kernel
theorem dX4_claimTone_118 : decode cX4_claimTone 118 = .ok (.iload 5, 2) := by decide +kernel
theorem dX4_claimTone_120 : decode cX4_claimTone 120 = .ok (.ireturn, 1) := by decide +kernel
theorem dX4_ageBy_0 : decode cX4_ageBy 0 = .ok (.iconst 0, 1) := by decide +kernel
theorem dX4_ageBy_1 : decode cX4_ageBy 1 = .ok (.istore_n 2, 1) := by decide +kernel
theorem dX4_ageBy_2 : decode cX4_ageBy 2 = .ok (.iconst 1, 1) := by decide +kernel
theorem dX4_ageBy_3 : decode cX4_ageBy 3 = .ok (.istore_n 3, 1) := by decide +kernel
theorem dX4_ageBy_4 : decode cX4_ageBy 4 = .ok (.iload_n 3, 1) := by decide +kernel
theorem dX4_ageBy_5 : decode cX4_ageBy 5 = .ok (.aload_n 0, 1) := by decide +kernel
theorem dX4_ageBy_6 : decode cX4_ageBy 6 = .ok (.getfield 101, 3) := by decide +kernel
theorem dX4_ageBy_9 : decode cX4_ageBy 9 = .ok (.if_icmp .ge 49, 3) := by decide +kernel
theorem dX4_ageBy_12 : decode cX4_ageBy 12 = .ok (.ldc 193, 2) := by decide +kernel
theorem dX4_ageBy_14 : decode cX4_ageBy 14 = .ok (.iload_n 1, 1) := by decide +kernel
theorem dX4_ageBy_15 : decode cX4_ageBy 15 = .ok (.imul, 1) := by decide +kernel
theorem dX4_ageBy_16 : decode cX4_ageBy 16 = .ok (.aload_n 0, 1) := by decide +kernel
theorem dX4_ageBy_17 : decode cX4_ageBy 17 = .ok (.getfield 25, 3) := by decide +kernel
theorem dX4_ageBy_20 : decode cX4_ageBy 20 = .ok (.iload_n 3, 1) := by decide +kernel
theorem dX4_ageBy_21 : decode cX4_ageBy 21 = .ok (.iaload, 1) := by decide +kernel
theorem dX4_ageBy_22 : decode cX4_ageBy 22 = .ok (.isub, 1) := by decide +kernel
theorem dX4_ageBy_23 : decode cX4_ageBy 23 = .ok (.i2l, 1) := by decide +kernel
theorem dX4_ageBy_24 : decode cX4_ageBy 24 = .ok (.invokestatic 194, 3) := by decide +kernel
theorem dX4_ageBy_27 : decode cX4_ageBy 27 = .ok (.ldc 193, 2) := by decide +kernel
theorem dX4_ageBy_29 : decode cX4_ageBy 29 = .ok (.iload_n 1, 1) := by decide +kernel
theorem dX4_ageBy_30 : decode cX4_ageBy 30 = .ok (.imul, 1) := by decide +kernel
theorem dX4_ageBy_31 : decode cX4_ageBy 31 = .ok (.aload_n 0, 1) := by decide +kernel
theorem dX4_ageBy_32 : decode cX4_ageBy 32 = .ok (.getfield 25, 3) := by decide +kernel
theorem dX4_ageBy_35 : decode cX4_ageBy 35 = .ok (.iload_n 2, 1) := by decide +kernel
theorem dX4_ageBy_36 : decode cX4_ageBy 36 = .ok (.iaload, 1) := by decide +kernel
theorem dX4_ageBy_37 : decode cX4_ageBy 37 = .ok (.isub, 1) := by decide +kernel
theorem dX4_ageBy_38 : decode cX4_ageBy 38 = .ok (.i2l, 1) := by decide +kernel
theorem dX4_ageBy_39 : decode cX4_ageBy 39 = .ok (.invokestatic 194, 3) := by decide +kernel
theorem dX4_ageBy_42 : decode cX4_ageBy 42 = .ok (.lcmp, 1) := by decide +kernel
theorem dX4_ageBy_43 : decode cX4_ageBy 43 = .ok (.ifCond .ge 7, 3) := by decide +kernel
theorem dX4_ageBy_46 : decode cX4_ageBy 46 = .ok (.iload_n 3, 1) := by decide +kernel
theorem dX4_ageBy_47 : decode cX4_ageBy 47 = .ok (.goto 4, 3) := by decide +kernel
theorem dX4_ageBy_50 : decode cX4_ageBy 50 = .ok (.iload_n 2, 1) := by decide +kernel
theorem dX4_ageBy_51 : decode cX4_ageBy 51 = .ok (.istore_n 2, 1) := by decide +kernel
theorem dX4_ageBy_52 : decode cX4_ageBy 52 = .ok (.iinc 3 1, 3) := by decide +kernel
theorem dX4_ageBy_55 : decode cX4_ageBy 55 = .ok (.goto (-51), 3) := by decide +kernel
theorem dX4_ageBy_58 : decode cX4_ageBy 58 = .ok (.aload_n 0, 1) := by decide +kernel
theorem dX4_ageBy_59 : decode cX4_ageBy 59 = .ok (.getfield 19, 3) := by decide +kernel
theorem dX4_ageBy_62 : decode cX4_ageBy 62 = .ok (.iload_n 2, 1) := by decide +kernel
theorem dX4_ageBy_63 : decode cX4_ageBy 63 = .ok (.iaload, 1) := by decide +kernel
theorem dX4_ageBy_64 : decode cX4_ageBy 64 = .ok (.ireturn, 1) := by decide +kernel
theorem dX4_claimAge_0 : decode cX4_claimAge 0 = .ok (.aload_n 0, 1) := by decide +kernel
theorem dX4_claimAge_1 : decode cX4_claimAge 1 = .ok (.iload_n 1, 1) := by decide +kernel
theorem dX4_claimAge_2 : decode cX4_claimAge 2 = .ok (.invokevirtual 198, 3) := by decide +kernel
theorem dX4_claimAge_5 : decode cX4_claimAge 5 = .ok (.ifCond .eq 15, 3) := by decide +kernel
theorem dX4_claimAge_8 : decode cX4_claimAge 8 = .ok (.aload_n 0, 1) := by decide +kernel
theorem dX4_claimAge_9 : decode cX4_claimAge 9 = .ok (.iload_n 2, 1) := by decide +kernel
theorem dX4_claimAge_10 : decode cX4_claimAge 10 = .ok (.invokevirtual 198, 3) := by decide +kernel
theorem dX4_claimAge_13 : decode cX4_claimAge 13 = .ok (.ifCond .eq 7, 3) := by decide +kernel
theorem dX4_claimAge_16 : decode cX4_claimAge 16 = .ok (.iconst 1, 1) := by decide +kernel
theorem dX4_claimAge_17 : decode cX4_claimAge 17 = .ok (.goto 4, 3) := by decide +kernel
theorem dX4_claimAge_20 : decode cX4_claimAge 20 = .ok (.iconst 0, 1) := by decide +kernel
theorem dX4_claimAge_21 : decode cX4_claimAge 21 = .ok (.istore_n 3, 1) := by decide +kernel
theorem dX4_claimAge_22 : decode cX4_claimAge 22 = .ok (.iload_n 3, 1) := by decide +kernel
theorem dX4_claimAge_23 : decode cX4_claimAge 23 = .ok (.ifCond .eq 55, 3) := by decide +kernel
theorem dX4_claimAge_26 : decode cX4_claimAge 26 = .ok (.aload_n 0, 1) := by decide +kernel
theorem dX4_claimAge_27 : decode cX4_claimAge 27 = .ok (.getfield 67, 3) := by decide +kernel
theorem dX4_claimAge_30 : decode cX4_claimAge 30 = .ok (.iload_n 1, 1) := by decide +kernel
theorem dX4_claimAge_31 : decode cX4_claimAge 31 = .ok (.iaload, 1) := by decide +kernel
theorem dX4_claimAge_32 : decode cX4_claimAge 32 = .ok (.ifCond .ne 46, 3) := by decide +kernel
theorem dX4_claimAge_35 : decode cX4_claimAge 35 = .ok (.aload_n 0, 1) := by decide +kernel
theorem dX4_claimAge_36 : decode cX4_claimAge 36 = .ok (.getfield 67, 3) := by decide +kernel
theorem dX4_claimAge_39 : decode cX4_claimAge 39 = .ok (.iload_n 2, 1) := by decide +kernel
theorem dX4_claimAge_40 : decode cX4_claimAge 40 = .ok (.iaload, 1) := by decide +kernel
theorem dX4_claimAge_41 : decode cX4_claimAge 41 = .ok (.ifCond .ne 37, 3) := by decide +kernel
theorem dX4_claimAge_44 : decode cX4_claimAge 44 = .ok (.aload_n 0, 1) := by decide +kernel
theorem dX4_claimAge_45 : decode cX4_claimAge 45 = .ok (.getfield 70, 3) := by decide +kernel
theorem dX4_claimAge_48 : decode cX4_claimAge 48 = .ok (.iload_n 1, 1) := by decide +kernel
theorem dX4_claimAge_49 : decode cX4_claimAge 49 = .ok (.iaload, 1) := by decide +kernel
theorem dX4_claimAge_50 : decode cX4_claimAge 50 = .ok (.aload_n 0, 1) := by decide +kernel
theorem dX4_claimAge_51 : decode cX4_claimAge 51 = .ok (.getfield 70, 3) := by decide +kernel
theorem dX4_claimAge_54 : decode cX4_claimAge 54 = .ok (.iload_n 2, 1) := by decide +kernel
theorem dX4_claimAge_55 : decode cX4_claimAge 55 = .ok (.iaload, 1) := by decide +kernel
theorem dX4_claimAge_56 : decode cX4_claimAge 56 = .ok (.if_icmp .ne 22, 3) := by decide +kernel
theorem dX4_claimAge_59 : decode cX4_claimAge 59 = .ok (.aload_n 0, 1) := by decide +kernel
theorem dX4_claimAge_60 : decode cX4_claimAge 60 = .ok (.getfield 73, 3) := by decide +kernel
theorem dX4_claimAge_63 : decode cX4_claimAge 63 = .ok (.iload_n 1, 1) := by decide +kernel
theorem dX4_claimAge_64 : decode cX4_claimAge 64 = .ok (.iaload, 1) := by decide +kernel
theorem dX4_claimAge_65 : decode cX4_claimAge 65 = .ok (.aload_n 0, 1) := by decide +kernel
theorem dX4_claimAge_66 : decode cX4_claimAge 66 = .ok (.getfield 73, 3) := by decide +kernel
theorem dX4_claimAge_69 : decode cX4_claimAge 69 = .ok (.iload_n 2, 1) := by decide +kernel
theorem dX4_claimAge_70 : decode cX4_claimAge 70 = .ok (.iaload, 1) := by decide +kernel
theorem dX4_claimAge_71 : decode cX4_claimAge 71 = .ok (.if_icmp .eq 7, 3) := by decide +kernel
theorem dX4_claimAge_74 : decode cX4_claimAge 74 = .ok (.iconst 1, 1) := by decide +kernel
theorem dX4_claimAge_75 : decode cX4_claimAge 75 = .ok (.goto 4, 3) := by decide +kernel
theorem dX4_claimAge_78 : decode cX4_claimAge 78 = .ok (.iconst 0, 1) := by decide +kernel
theorem dX4_claimAge_79 : decode cX4_claimAge 79 = .ok (.istore 4, 2) := by decide +kernel
theorem dX4_claimAge_81 : decode cX4_claimAge 81 = .ok (.aload_n 0, 1) := by decide +kernel
theorem dX4_claimAge_82 : decode cX4_claimAge 82 = .ok (.iload_n 3, 1) := by decide +kernel
theorem dX4_claimAge_83 : decode cX4_claimAge 83 = .ok (.ifCond .ne 7, 3) := by decide +kernel
theorem dX4_claimAge_86 : decode cX4_claimAge 86 = .ok (.iconst 1, 1) := by decide +kernel
theorem dX4_claimAge_87 : decode cX4_claimAge 87 = .ok (.goto 44, 3) := by decide +kernel
theorem dX4_claimAge_90 : decode cX4_claimAge 90 = .ok (.iload 4, 2) := by decide +kernel
theorem dX4_claimAge_92 : decode cX4_claimAge 92 = .ok (.ifCond .ne 7, 3) := by decide +kernel
theorem dX4_claimAge_95 : decode cX4_claimAge 95 = .ok (.iconst 2, 1) := by decide +kernel
theorem dX4_claimAge_96 : decode cX4_claimAge 96 = .ok (.goto 35, 3) := by decide +kernel
theorem dX4_claimAge_99 : decode cX4_claimAge 99 = .ok (.aload_n 0, 1) := by decide +kernel
theorem dX4_claimAge_100 : decode cX4_claimAge 100 = .ok (.getfield 108, 3) := by decide +kernel
theorem dX4_claimAge_103 : decode cX4_claimAge 103 = .ok (.bipush 40, 2) := by decide +kernel
theorem dX4_claimAge_105 : decode cX4_claimAge 105 = .ok (.if_icmp .ge 25, 3) := by decide +kernel
theorem dX4_claimAge_108 : decode cX4_claimAge 108 = .ok (.aload_n 0, 1) := by decide +kernel
theorem dX4_claimAge_109 : decode cX4_claimAge 109 = .ok (.getfield 91, 3) := by decide +kernel
theorem dX4_claimAge_112 : decode cX4_claimAge 112 = .ok (.iload_n 1, 1) := by decide +kernel
theorem dX4_claimAge_113 : decode cX4_claimAge 113 = .ok (.baload, 1) := by decide +kernel
theorem dX4_claimAge_114 : decode cX4_claimAge 114 = .ok (.ifCond .eq 16, 3) := by decide +kernel
theorem dX4_claimAge_117 : decode cX4_claimAge 117 = .ok (.aload_n 0, 1) := by decide +kernel
theorem dX4_claimAge_118 : decode cX4_claimAge 118 = .ok (.getfield 91, 3) := by decide +kernel
theorem dX4_claimAge_121 : decode cX4_claimAge 121 = .ok (.iload_n 2, 1) := by decide +kernel
theorem dX4_claimAge_122 : decode cX4_claimAge 122 = .ok (.baload, 1) := by decide +kernel
theorem dX4_claimAge_123 : decode cX4_claimAge 123 = .ok (.ifCond .eq 7, 3) := by decide +kernel
theorem dX4_claimAge_126 : decode cX4_claimAge 126 = .ok (.iconst 0, 1) := by decide +kernel
theorem dX4_claimAge_127 : decode cX4_claimAge 127 = .ok (.goto 4, 3) := by decide +kernel
theorem dX4_claimAge_130 : decode cX4_claimAge 130 = .ok (.iconst 3, 1) := by decide +kernel
theorem dX4_claimAge_131 : decode cX4_claimAge 131 = .ok (.invokevirtual 114, 3) := by decide +kernel
theorem dX4_claimAge_134 : decode cX4_claimAge 134 = .ok (.ifCond .ne 5, 3) := by decide +kernel
theorem dX4_claimAge_137 : decode cX4_claimAge 137 = .ok (.iconst 0, 1) := by decide +kernel
theorem dX4_claimAge_138 : decode cX4_claimAge 138 = .ok (.ireturn, 1) := by decide +kernel
theorem dX4_claimAge_139 : decode cX4_claimAge 139 = .ok (.aload_n 0, 1) := by decide +kernel
theorem dX4_claimAge_140 : decode cX4_claimAge 140 = .ok (.iconst 1, 1) := by decide +kernel
theorem dX4_claimAge_141 : decode cX4_claimAge 141 = .ok (.aload_n 0, 1) := by decide +kernel
theorem dX4_claimAge_142 : decode cX4_claimAge 142 = .ok (.getfield 70, 3) := by decide +kernel
theorem dX4_claimAge_145 : decode cX4_claimAge 145 = .ok (.iload_n 1, 1) := by decide +kernel
theorem dX4_claimAge_146 : decode cX4_claimAge 146 = .ok (.iaload, 1) := by decide +kernel
theorem dX4_claimAge_147 : decode cX4_claimAge 147 = .ok (.aload_n 0, 1) := by decide +kernel
theorem dX4_claimAge_148 : decode cX4_claimAge 148 = .ok (.getfield 73, 3) := by decide +kernel
theorem dX4_claimAge_151 : decode cX4_claimAge 151 = .ok (.iload_n 1, 1) := by decide +kernel
theorem dX4_claimAge_152 : decode cX4_claimAge 152 = .ok (.iaload, 1) := by decide +kernel
theorem dX4_claimAge_153 : decode cX4_claimAge 153 = .ok (.invokevirtual 189, 3) := by decide +kernel
theorem dX4_claimAge_156 : decode cX4_claimAge 156 = .ok (.istore 5, 2) := by decide +kernel
theorem dX4_claimAge_158 : decode cX4_claimAge 158 = .ok (.aload_n 0, 1) := by decide +kernel
theorem dX4_claimAge_159 : decode cX4_claimAge 159 = .ok (.getfield 85, 3) := by decide +kernel
theorem dX4_claimAge_162 : decode cX4_claimAge 162 = .ok (.iload 5, 2) := by decide +kernel
theorem dX4_claimAge_164 : decode cX4_claimAge 164 = .ok (.aload_n 0, 1) := by decide +kernel
theorem dX4_claimAge_165 : decode cX4_claimAge 165 = .ok (.aload_n 0, 1) := by decide +kernel
theorem dX4_claimAge_166 : decode cX4_claimAge 166 = .ok (.getfield 73, 3) := by decide +kernel
theorem dX4_claimAge_169 : decode cX4_claimAge 169 = .ok (.iload_n 1, 1) := by decide +kernel
theorem dX4_claimAge_170 : decode cX4_claimAge 170 = .ok (.iaload, 1) := by decide +kernel
theorem dX4_claimAge_171 : decode cX4_claimAge 171 = .ok (.aload_n 0, 1) := by decide +kernel
theorem dX4_claimAge_172 : decode cX4_claimAge 172 = .ok (.getfield 73, 3) := by decide +kernel
theorem dX4_claimAge_175 : decode cX4_claimAge 175 = .ok (.iload_n 2, 1) := by decide +kernel
theorem dX4_claimAge_176 : decode cX4_claimAge 176 = .ok (.iaload, 1) := by decide +kernel
theorem dX4_claimAge_177 : decode cX4_claimAge 177 = .ok (.if_icmp .le 19, 3) := by decide +kernel
theorem dX4_claimAge_180 : decode cX4_claimAge 180 = .ok (.aload_n 0, 1) := by decide +kernel
theorem dX4_claimAge_181 : decode cX4_claimAge 181 = .ok (.getfield 73, 3) := by decide +kernel
theorem dX4_claimAge_184 : decode cX4_claimAge 184 = .ok (.iload_n 1, 1) := by decide +kernel
theorem dX4_claimAge_185 : decode cX4_claimAge 185 = .ok (.iaload, 1) := by decide +kernel
theorem dX4_claimAge_186 : decode cX4_claimAge 186 = .ok (.aload_n 0, 1) := by decide +kernel
theorem dX4_claimAge_187 : decode cX4_claimAge 187 = .ok (.getfield 73, 3) := by decide +kernel
theorem dX4_claimAge_190 : decode cX4_claimAge 190 = .ok (.iload_n 2, 1) := by decide +kernel
theorem dX4_claimAge_191 : decode cX4_claimAge 191 = .ok (.iaload, 1) := by decide +kernel
theorem dX4_claimAge_192 : decode cX4_claimAge 192 = .ok (.isub, 1) := by decide +kernel
theorem dX4_claimAge_193 : decode cX4_claimAge 193 = .ok (.goto 16, 3) := by decide +kernel
theorem dX4_claimAge_196 : decode cX4_claimAge 196 = .ok (.aload_n 0, 1) := by decide +kernel
theorem dX4_claimAge_197 : decode cX4_claimAge 197 = .ok (.getfield 73, 3) := by decide +kernel
theorem dX4_claimAge_200 : decode cX4_claimAge 200 = .ok (.iload_n 2, 1) := by decide +kernel
theorem dX4_claimAge_201 : decode cX4_claimAge 201 = .ok (.iaload, 1) := by decide +kernel
theorem dX4_claimAge_202 : decode cX4_claimAge 202 = .ok (.aload_n 0, 1) := by decide +kernel
theorem dX4_claimAge_203 : decode cX4_claimAge 203 = .ok (.getfield 73, 3) := by decide +kernel
theorem dX4_claimAge_206 : decode cX4_claimAge 206 = .ok (.iload_n 1, 1) := by decide +kernel
theorem dX4_claimAge_207 : decode cX4_claimAge 207 = .ok (.iaload, 1) := by decide +kernel
theorem dX4_claimAge_208 : decode cX4_claimAge 208 = .ok (.isub, 1) := by decide +kernel
theorem dX4_claimAge_209 : decode cX4_claimAge 209 = .ok (.invokevirtual 201, 3) := by decide +kernel
theorem dX4_claimAge_212 : decode cX4_claimAge 212 = .ok (.iastore, 1) := by decide +kernel
theorem dX4_claimAge_213 : decode cX4_claimAge 213 = .ok (.aload_n 0, 1) := by decide +kernel
theorem dX4_claimAge_214 : decode cX4_claimAge 214 = .ok (.getfield 88, 3) := by decide +kernel
theorem dX4_claimAge_217 : decode cX4_claimAge 217 = .ok (.iload 5, 2) := by decide +kernel
theorem dX4_claimAge_219 : decode cX4_claimAge 219 = .ok (.lconst 1, 1) := by decide +kernel
theorem dX4_claimAge_220 : decode cX4_claimAge 220 = .ok (.iload_n 1, 1) := by decide +kernel
theorem dX4_claimAge_221 : decode cX4_claimAge 221 = .ok (.lshl, 1) := by decide +kernel
theorem dX4_claimAge_222 : decode cX4_claimAge 222 = .ok (.lconst 1, 1) := by decide +kernel
theorem dX4_claimAge_223 : decode cX4_claimAge 223 = .ok (.iload_n 2, 1) := by decide +kernel
theorem dX4_claimAge_224 : decode cX4_claimAge 224 = .ok (.lshl, 1) := by decide +kernel
theorem dX4_claimAge_225 : decode cX4_claimAge 225 = .ok (.lor, 1) := by decide +kernel
theorem dX4_claimAge_226 : decode cX4_claimAge 226 = .ok (.lastore, 1) := by decide +kernel
theorem dX4_claimAge_227 : decode cX4_claimAge 227 = .ok (.iload 5, 2) := by decide +kernel
theorem dX4_claimAge_229 : decode cX4_claimAge 229 = .ok (.ireturn, 1) := by decide +kernel
theorem dX4_claimPlanet_0 : decode cX4_claimPlanet 0 = .ok (.aload_n 0, 1) := by decide +kernel
theorem dX4_claimPlanet_1 : decode cX4_claimPlanet 1 = .ok (.iload_n 1, 1) := by decide +kernel
theorem dX4_claimPlanet_2 : decode cX4_claimPlanet 2 = .ok (.invokevirtual 198, 3) := by decide +kernel
theorem dX4_claimPlanet_5 : decode cX4_claimPlanet 5 = .ok (.istore_n 2, 1) := by decide +kernel
theorem dX4_claimPlanet_6 : decode cX4_claimPlanet 6 = .ok (.iload_n 2, 1) := by decide +kernel
theorem dX4_claimPlanet_7 : decode cX4_claimPlanet 7 = .ok (.ifCond .eq 16, 3) := by decide +kernel
theorem dX4_claimPlanet_10 : decode cX4_claimPlanet 10 = .ok (.aload_n 0, 1) := by decide +kernel
theorem dX4_claimPlanet_11 : decode cX4_claimPlanet 11 = .ok (.getfield 67, 3) := by decide +kernel
theorem dX4_claimPlanet_14 : decode cX4_claimPlanet 14 = .ok (.iload_n 1, 1) := by decide +kernel
theorem dX4_claimPlanet_15 : decode cX4_claimPlanet 15 = .ok (.iaload, 1) := by decide +kernel
theorem dX4_claimPlanet_16 : decode cX4_claimPlanet 16 = .ok (.ifCond .ne 7, 3) := by decide +kernel
theorem dX4_claimPlanet_19 : decode cX4_claimPlanet 19 = .ok (.iconst 1, 1) := by decide +kernel
theorem dX4_claimPlanet_20 : decode cX4_claimPlanet 20 = .ok (.goto 4, 3) := by decide +kernel
theorem dX4_claimPlanet_23 : decode cX4_claimPlanet 23 = .ok (.iconst 0, 1) := by decide +kernel
theorem dX4_claimPlanet_24 : decode cX4_claimPlanet 24 = .ok (.istore_n 3, 1) := by decide +kernel
theorem dX4_claimPlanet_25 : decode cX4_claimPlanet 25 = .ok (.aload_n 0, 1) := by decide +kernel
theorem dX4_claimPlanet_26 : decode cX4_claimPlanet 26 = .ok (.iload_n 2, 1) := by decide +kernel
theorem dX4_claimPlanet_27 : decode cX4_claimPlanet 27 = .ok (.ifCond .ne 7, 3) := by decide +kernel
theorem dX4_claimPlanet_30 : decode cX4_claimPlanet 30 = .ok (.iconst 1, 1) := by decide +kernel
theorem dX4_claimPlanet_31 : decode cX4_claimPlanet 31 = .ok (.goto 34, 3) := by decide +kernel
theorem dX4_claimPlanet_34 : decode cX4_claimPlanet 34 = .ok (.iload_n 3, 1) := by decide +kernel
theorem dX4_claimPlanet_35 : decode cX4_claimPlanet 35 = .ok (.ifCond .ne 7, 3) := by decide +kernel
theorem dX4_claimPlanet_38 : decode cX4_claimPlanet 38 = .ok (.iconst 2, 1) := by decide +kernel
theorem dX4_claimPlanet_39 : decode cX4_claimPlanet 39 = .ok (.goto 26, 3) := by decide +kernel
theorem dX4_claimPlanet_42 : decode cX4_claimPlanet 42 = .ok (.aload_n 0, 1) := by decide +kernel
theorem dX4_claimPlanet_43 : decode cX4_claimPlanet 43 = .ok (.getfield 108, 3) := by decide +kernel
theorem dX4_claimPlanet_46 : decode cX4_claimPlanet 46 = .ok (.bipush 40, 2) := by decide +kernel
theorem dX4_claimPlanet_48 : decode cX4_claimPlanet 48 = .ok (.if_icmp .ge 16, 3) := by decide +kernel
theorem dX4_claimPlanet_51 : decode cX4_claimPlanet 51 = .ok (.aload_n 0, 1) := by decide +kernel
theorem dX4_claimPlanet_52 : decode cX4_claimPlanet 52 = .ok (.getfield 91, 3) := by decide +kernel
theorem dX4_claimPlanet_55 : decode cX4_claimPlanet 55 = .ok (.iload_n 1, 1) := by decide +kernel
theorem dX4_claimPlanet_56 : decode cX4_claimPlanet 56 = .ok (.baload, 1) := by decide +kernel
theorem dX4_claimPlanet_57 : decode cX4_claimPlanet 57 = .ok (.ifCond .eq 7, 3) := by decide +kernel
theorem dX4_claimPlanet_60 : decode cX4_claimPlanet 60 = .ok (.iconst 0, 1) := by decide +kernel
theorem dX4_claimPlanet_61 : decode cX4_claimPlanet 61 = .ok (.goto 4, 3) := by decide +kernel
theorem dX4_claimPlanet_64 : decode cX4_claimPlanet 64 = .ok (.iconst 3, 1) := by decide +kernel
theorem dX4_claimPlanet_65 : decode cX4_claimPlanet 65 = .ok (.invokevirtual 114, 3) := by decide +kernel
theorem dX4_claimPlanet_68 : decode cX4_claimPlanet 68 = .ok (.ifCond .ne 5, 3) := by decide +kernel
theorem dX4_claimPlanet_71 : decode cX4_claimPlanet 71 = .ok (.iconst 0, 1) := by decide +kernel
theorem dX4_claimPlanet_72 : decode cX4_claimPlanet 72 = .ok (.ireturn, 1) := by decide +kernel
theorem dX4_claimPlanet_73 : decode cX4_claimPlanet 73 = .ok (.aload_n 0, 1) := by decide +kernel
theorem dX4_claimPlanet_74 : decode cX4_claimPlanet 74 = .ok (.iconst 2, 1) := by decide +kernel
theorem dX4_claimPlanet_75 : decode cX4_claimPlanet 75 = .ok (.aload_n 0, 1) := by decide +kernel
theorem dX4_claimPlanet_76 : decode cX4_claimPlanet 76 = .ok (.getfield 70, 3) := by decide +kernel
theorem dX4_claimPlanet_79 : decode cX4_claimPlanet 79 = .ok (.iload_n 1, 1) := by decide +kernel
theorem dX4_claimPlanet_80 : decode cX4_claimPlanet 80 = .ok (.iaload, 1) := by decide +kernel
theorem dX4_claimPlanet_81 : decode cX4_claimPlanet 81 = .ok (.aload_n 0, 1) := by decide +kernel
theorem dX4_claimPlanet_82 : decode cX4_claimPlanet 82 = .ok (.getfield 73, 3) := by decide +kernel
theorem dX4_claimPlanet_85 : decode cX4_claimPlanet 85 = .ok (.iload_n 1, 1) := by decide +kernel
theorem dX4_claimPlanet_86 : decode cX4_claimPlanet 86 = .ok (.iaload, 1) := by decide +kernel
theorem dX4_claimPlanet_87 : decode cX4_claimPlanet 87 = .ok (.invokevirtual 189, 3) := by decide +kernel
theorem dX4_claimPlanet_90 : decode cX4_claimPlanet 90 = .ok (.istore 4, 2) := by decide +kernel
theorem dX4_claimPlanet_92 : decode cX4_claimPlanet 92 = .ok (.aload_n 0, 1) := by decide +kernel
theorem dX4_claimPlanet_93 : decode cX4_claimPlanet 93 = .ok (.getfield 88, 3) := by decide +kernel
theorem dX4_claimPlanet_96 : decode cX4_claimPlanet 96 = .ok (.iload 4, 2) := by decide +kernel
theorem dX4_claimPlanet_98 : decode cX4_claimPlanet 98 = .ok (.lconst 1, 1) := by decide +kernel
theorem dX4_claimPlanet_99 : decode cX4_claimPlanet 99 = .ok (.iload_n 1, 1) := by decide +kernel
theorem dX4_claimPlanet_100 : decode cX4_claimPlanet 100 = .ok (.lshl, 1) := by decide +kernel
theorem dX4_claimPlanet_101 : decode cX4_claimPlanet 101 = .ok (.lastore, 1) := by decide +kernel
theorem dX4_claimPlanet_102 : decode cX4_claimPlanet 102 = .ok (.iload 4, 2) := by decide +kernel
theorem dX4_claimPlanet_104 : decode cX4_claimPlanet 104 = .ok (.ireturn, 1) := by decide +kernel
theorem dX4_citesOf_0 : decode cX4_citesOf 0 = .ok (.iconst 0, 1) := by decide +kernel
theorem dX4_citesOf_1 : decode cX4_citesOf 1 = .ok (.istore_n 2, 1) := by decide +kernel
theorem dX4_citesOf_2 : decode cX4_citesOf 2 = .ok (.iconst 0, 1) := by decide +kernel
theorem dX4_citesOf_3 : decode cX4_citesOf 3 = .ok (.istore_n 3, 1) := by decide +kernel
theorem dX4_citesOf_4 : decode cX4_citesOf 4 = .ok (.iload_n 3, 1) := by decide +kernel
theorem dX4_citesOf_5 : decode cX4_citesOf 5 = .ok (.aload_n 0, 1) := by decide +kernel
theorem dX4_citesOf_6 : decode cX4_citesOf 6 = .ok (.getfield 108, 3) := by decide +kernel
theorem dX4_citesOf_9 : decode cX4_citesOf 9 = .ok (.if_icmp .ge 32, 3) := by decide +kernel
theorem dX4_citesOf_12 : decode cX4_citesOf 12 = .ok (.iload_n 2, 1) := by decide +kernel
theorem dX4_citesOf_13 : decode cX4_citesOf 13 = .ok (.aload_n 0, 1) := by decide +kernel
theorem dX4_citesOf_14 : decode cX4_citesOf 14 = .ok (.getfield 88, 3) := by decide +kernel
theorem dX4_citesOf_17 : decode cX4_citesOf 17 = .ok (.iload_n 1, 1) := by decide +kernel
theorem dX4_citesOf_18 : decode cX4_citesOf 18 = .ok (.laload, 1) := by decide +kernel
theorem dX4_citesOf_19 : decode cX4_citesOf 19 = .ok (.iload_n 3, 1) := by decide +kernel
theorem dX4_citesOf_20 : decode cX4_citesOf 20 = .ok (.lshr, 1) := by decide +kernel
theorem dX4_citesOf_21 : decode cX4_citesOf 21 = .ok (.lconst 1, 1) := by decide +kernel
theorem dX4_citesOf_22 : decode cX4_citesOf 22 = .ok (.land, 1) := by decide +kernel
theorem dX4_citesOf_23 : decode cX4_citesOf 23 = .ok (.lconst 1, 1) := by decide +kernel
theorem dX4_citesOf_24 : decode cX4_citesOf 24 = .ok (.lcmp, 1) := by decide +kernel
theorem dX4_citesOf_25 : decode cX4_citesOf 25 = .ok (.ifCond .ne 7, 3) := by decide +kernel
theorem dX4_citesOf_28 : decode cX4_citesOf 28 = .ok (.iconst 1, 1) := by decide +kernel
theorem dX4_citesOf_29 : decode cX4_citesOf 29 = .ok (.goto 4, 3) := by decide +kernel
theorem dX4_citesOf_32 : decode cX4_citesOf 32 = .ok (.iconst 0, 1) := by decide +kernel
theorem dX4_citesOf_33 : decode cX4_citesOf 33 = .ok (.iadd, 1) := by decide +kernel
theorem dX4_citesOf_34 : decode cX4_citesOf 34 = .ok (.istore_n 2, 1) := by decide +kernel
theorem dX4_citesOf_35 : decode cX4_citesOf 35 = .ok (.iinc 3 1, 3) := by decide +kernel
theorem dX4_citesOf_38 : decode cX4_citesOf 38 = .ok (.goto (-34), 3) := by decide +kernel
theorem dX4_citesOf_41 : decode cX4_citesOf 41 = .ok (.iload_n 2, 1) := by decide +kernel
theorem dX4_citesOf_42 : decode cX4_citesOf 42 = .ok (.ireturn, 1) := by decide +kernel
theorem dX4_cite_0 : decode cX4_cite 0 = .ok (.aload_n 0, 1) := by decide +kernel
theorem dX4_cite_1 : decode cX4_cite 1 = .ok (.iload_n 1, 1) := by decide +kernel
theorem dX4_cite_2 : decode cX4_cite 2 = .ok (.invokevirtual 198, 3) := by decide +kernel
theorem dX4_cite_5 : decode cX4_cite 5 = .ok (.ifCond .eq 15, 3) := by decide +kernel
theorem dX4_cite_8 : decode cX4_cite 8 = .ok (.aload_n 0, 1) := by decide +kernel
theorem dX4_cite_9 : decode cX4_cite 9 = .ok (.iload_n 2, 1) := by decide +kernel
theorem dX4_cite_10 : decode cX4_cite 10 = .ok (.invokevirtual 198, 3) := by decide +kernel
theorem dX4_cite_13 : decode cX4_cite 13 = .ok (.ifCond .eq 7, 3) := by decide +kernel
theorem dX4_cite_16 : decode cX4_cite 16 = .ok (.iconst 1, 1) := by decide +kernel
theorem dX4_cite_17 : decode cX4_cite 17 = .ok (.goto 4, 3) := by decide +kernel
theorem dX4_cite_20 : decode cX4_cite 20 = .ok (.iconst 0, 1) := by decide +kernel
theorem dX4_cite_21 : decode cX4_cite 21 = .ok (.istore_n 3, 1) := by decide +kernel
theorem dX4_cite_22 : decode cX4_cite 22 = .ok (.iload_n 3, 1) := by decide +kernel
theorem dX4_cite_23 : decode cX4_cite 23 = .ok (.ifCond .eq 12, 3) := by decide +kernel
theorem dX4_cite_26 : decode cX4_cite 26 = .ok (.iload_n 2, 1) := by decide +kernel
theorem dX4_cite_27 : decode cX4_cite 27 = .ok (.iload_n 1, 1) := by decide +kernel
theorem dX4_cite_28 : decode cX4_cite 28 = .ok (.if_icmp .ge 7, 3) := by decide +kernel
theorem dX4_cite_31 : decode cX4_cite 31 = .ok (.iconst 1, 1) := by decide +kernel
theorem dX4_cite_32 : decode cX4_cite 32 = .ok (.goto 4, 3) := by decide +kernel
theorem dX4_cite_35 : decode cX4_cite 35 = .ok (.iconst 0, 1) := by decide +kernel
theorem dX4_cite_36 : decode cX4_cite 36 = .ok (.istore 4, 2) := by decide +kernel
theorem dX4_cite_38 : decode cX4_cite 38 = .ok (.iload 4, 2) := by decide +kernel
theorem dX4_cite_40 : decode cX4_cite 40 = .ok (.ifCond .eq 40, 3) := by decide +kernel
theorem dX4_cite_43 : decode cX4_cite 43 = .ok (.aload_n 0, 1) := by decide +kernel
theorem dX4_cite_44 : decode cX4_cite 44 = .ok (.getfield 91, 3) := by decide +kernel
theorem dX4_cite_47 : decode cX4_cite 47 = .ok (.iload_n 1, 1) := by decide +kernel
theorem dX4_cite_48 : decode cX4_cite 48 = .ok (.baload, 1) := by decide +kernel
theorem dX4_cite_49 : decode cX4_cite 49 = .ok (.ifCond .eq 31, 3) := by decide +kernel
theorem dX4_cite_52 : decode cX4_cite 52 = .ok (.aload_n 0, 1) := by decide +kernel
theorem dX4_cite_53 : decode cX4_cite 53 = .ok (.getfield 91, 3) := by decide +kernel
theorem dX4_cite_56 : decode cX4_cite 56 = .ok (.iload_n 2, 1) := by decide +kernel
theorem dX4_cite_57 : decode cX4_cite 57 = .ok (.baload, 1) := by decide +kernel
theorem dX4_cite_58 : decode cX4_cite 58 = .ok (.ifCond .eq 22, 3) := by decide +kernel
theorem dX4_cite_61 : decode cX4_cite 61 = .ok (.aload_n 0, 1) := by decide +kernel
theorem dX4_cite_62 : decode cX4_cite 62 = .ok (.getfield 88, 3) := by decide +kernel
theorem dX4_cite_65 : decode cX4_cite 65 = .ok (.iload_n 1, 1) := by decide +kernel
theorem dX4_cite_66 : decode cX4_cite 66 = .ok (.laload, 1) := by decide +kernel
theorem dX4_cite_67 : decode cX4_cite 67 = .ok (.iload_n 2, 1) := by decide +kernel
theorem dX4_cite_68 : decode cX4_cite 68 = .ok (.lshr, 1) := by decide +kernel
theorem dX4_cite_69 : decode cX4_cite 69 = .ok (.lconst 1, 1) := by decide +kernel
theorem dX4_cite_70 : decode cX4_cite 70 = .ok (.land, 1) := by decide +kernel
theorem dX4_cite_71 : decode cX4_cite 71 = .ok (.lconst 0, 1) := by decide +kernel
theorem dX4_cite_72 : decode cX4_cite 72 = .ok (.lcmp, 1) := by decide +kernel
theorem dX4_cite_73 : decode cX4_cite 73 = .ok (.ifCond .ne 7, 3) := by decide +kernel
theorem dX4_cite_76 : decode cX4_cite 76 = .ok (.iconst 1, 1) := by decide +kernel
theorem dX4_cite_77 : decode cX4_cite 77 = .ok (.goto 4, 3) := by decide +kernel
theorem dX4_cite_80 : decode cX4_cite 80 = .ok (.iconst 0, 1) := by decide +kernel
theorem dX4_cite_81 : decode cX4_cite 81 = .ok (.istore 5, 2) := by decide +kernel
theorem dX4_cite_83 : decode cX4_cite 83 = .ok (.aload_n 0, 1) := by decide +kernel
theorem dX4_cite_84 : decode cX4_cite 84 = .ok (.iload_n 3, 1) := by decide +kernel
theorem dX4_cite_85 : decode cX4_cite 85 = .ok (.ifCond .ne 7, 3) := by decide +kernel
theorem dX4_cite_88 : decode cX4_cite 88 = .ok (.iconst 1, 1) := by decide +kernel
theorem dX4_cite_89 : decode cX4_cite 89 = .ok (.goto 22, 3) := by decide +kernel
theorem dX4_cite_92 : decode cX4_cite 92 = .ok (.iload 4, 2) := by decide +kernel
theorem dX4_cite_94 : decode cX4_cite 94 = .ok (.ifCond .ne 7, 3) := by decide +kernel
theorem dX4_cite_97 : decode cX4_cite 97 = .ok (.iconst 2, 1) := by decide +kernel
theorem dX4_cite_98 : decode cX4_cite 98 = .ok (.goto 13, 3) := by decide +kernel
theorem dX4_cite_101 : decode cX4_cite 101 = .ok (.iload 5, 2) := by decide +kernel
theorem dX4_cite_103 : decode cX4_cite 103 = .ok (.ifCond .eq 7, 3) := by decide +kernel
theorem dX4_cite_106 : decode cX4_cite 106 = .ok (.iconst 0, 1) := by decide +kernel
theorem dX4_cite_107 : decode cX4_cite 107 = .ok (.goto 4, 3) := by decide +kernel
theorem dX4_cite_110 : decode cX4_cite 110 = .ok (.iconst 3, 1) := by decide +kernel
theorem dX4_cite_111 : decode cX4_cite 111 = .ok (.invokevirtual 114, 3) := by decide +kernel
theorem dX4_cite_114 : decode cX4_cite 114 = .ok (.ifCond .ne 5, 3) := by decide +kernel
theorem dX4_cite_117 : decode cX4_cite 117 = .ok (.iconst 0, 1) := by decide +kernel
theorem dX4_cite_118 : decode cX4_cite 118 = .ok (.ireturn, 1) := by decide +kernel
theorem dX4_cite_119 : decode cX4_cite 119 = .ok (.aload_n 0, 1) := by decide +kernel
theorem dX4_cite_120 : decode cX4_cite 120 = .ok (.getfield 88, 3) := by decide +kernel
theorem dX4_cite_123 : decode cX4_cite 123 = .ok (.iload_n 1, 1) := by decide +kernel
theorem dX4_cite_124 : decode cX4_cite 124 = .ok (.dup2, 1) := by decide +kernel
theorem dX4_cite_125 : decode cX4_cite 125 = .ok (.laload, 1) := by decide +kernel
theorem dX4_cite_126 : decode cX4_cite 126 = .ok (.lconst 1, 1) := by decide +kernel
theorem dX4_cite_127 : decode cX4_cite 127 = .ok (.iload_n 2, 1) := by decide +kernel
theorem dX4_cite_128 : decode cX4_cite 128 = .ok (.lshl, 1) := by decide +kernel
theorem dX4_cite_129 : decode cX4_cite 129 = .ok (.lor, 1) := by decide +kernel
theorem dX4_cite_130 : decode cX4_cite 130 = .ok (.lastore, 1) := by decide +kernel
theorem dX4_cite_131 : decode cX4_cite 131 = .ok (.aload_n 0, 1) := by decide +kernel
theorem dX4_cite_132 : decode cX4_cite 132 = .ok (.iload_n 1, 1) := by decide +kernel
theorem dX4_cite_133 : decode cX4_cite 133 = .ok (.invokevirtual 205, 3) := by decide +kernel
theorem dX4_cite_136 : decode cX4_cite 136 = .ok (.ireturn, 1) := by decide +kernel
theorem dX4_follows_0 : decode cX4_follows 0 = .ok (.iconst 0, 1) := by decide +kernel
theorem dX4_follows_1 : decode cX4_follows 1 = .ok (.istore_n 1, 1) := by decide +kernel
theorem dX4_follows_2 : decode cX4_follows 2 = .ok (.iconst 0, 1) := by decide +kernel
theorem dX4_follows_3 : decode cX4_follows 3 = .ok (.istore_n 2, 1) := by decide +kernel
theorem dX4_follows_4 : decode cX4_follows 4 = .ok (.iload_n 2, 1) := by decide +kernel
theorem dX4_follows_5 : decode cX4_follows 5 = .ok (.aload_n 0, 1) := by decide +kernel
theorem dX4_follows_6 : decode cX4_follows 6 = .ok (.getfield 108, 3) := by decide +kernel
theorem dX4_follows_9 : decode cX4_follows 9 = .ok (.if_icmp .ge 107, 3) := by decide +kernel
theorem dX4_follows_12 : decode cX4_follows 12 = .ok (.iconst 0, 1) := by decide +kernel
theorem dX4_follows_13 : decode cX4_follows 13 = .ok (.istore_n 3, 1) := by decide +kernel
theorem dX4_follows_14 : decode cX4_follows 14 = .ok (.iconst 0, 1) := by decide +kernel
theorem dX4_follows_15 : decode cX4_follows 15 = .ok (.istore 4, 2) := by decide +kernel
theorem dX4_follows_17 : decode cX4_follows 17 = .ok (.iload 4, 2) := by decide +kernel
theorem dX4_follows_19 : decode cX4_follows 19 = .ok (.iload_n 2, 1) := by decide +kernel
theorem dX4_follows_20 : decode cX4_follows 20 = .ok (.if_icmp .ge 45, 3) := by decide +kernel
theorem dX4_follows_23 : decode cX4_follows 23 = .ok (.iload_n 3, 1) := by decide +kernel
theorem dX4_follows_24 : decode cX4_follows 24 = .ok (.ifCond .ne 29, 3) := by decide +kernel
theorem dX4_follows_27 : decode cX4_follows 27 = .ok (.aload_n 0, 1) := by decide +kernel
theorem dX4_follows_28 : decode cX4_follows 28 = .ok (.getfield 88, 3) := by decide +kernel
theorem dX4_follows_31 : decode cX4_follows 31 = .ok (.iload_n 2, 1) := by decide +kernel
theorem dX4_follows_32 : decode cX4_follows 32 = .ok (.laload, 1) := by decide +kernel
theorem dX4_follows_33 : decode cX4_follows 33 = .ok (.iload 4, 2) := by decide +kernel
theorem dX4_follows_35 : decode cX4_follows 35 = .ok (.lshr, 1) := by decide +kernel
theorem dX4_follows_36 : decode cX4_follows 36 = .ok (.lconst 1, 1) := by decide +kernel
theorem dX4_follows_37 : decode cX4_follows 37 = .ok (.land, 1) := by decide +kernel
theorem dX4_follows_38 : decode cX4_follows 38 = .ok (.lconst 1, 1) := by decide +kernel
theorem dX4_follows_39 : decode cX4_follows 39 = .ok (.lcmp, 1) := by decide +kernel
theorem dX4_follows_40 : decode cX4_follows 40 = .ok (.ifCond .ne 17, 3) := by decide +kernel
theorem dX4_follows_43 : decode cX4_follows 43 = .ok (.aload_n 0, 1) := by decide +kernel
theorem dX4_follows_44 : decode cX4_follows 44 = .ok (.getfield 91, 3) := by decide +kernel
theorem dX4_follows_47 : decode cX4_follows 47 = .ok (.iload 4, 2) := by decide +kernel
theorem dX4_follows_49 : decode cX4_follows 49 = .ok (.baload, 1) := by decide +kernel
theorem dX4_follows_50 : decode cX4_follows 50 = .ok (.ifCond .ne 7, 3) := by decide +kernel
theorem dX4_follows_53 : decode cX4_follows 53 = .ok (.iconst 1, 1) := by decide +kernel
theorem dX4_follows_54 : decode cX4_follows 54 = .ok (.goto 4, 3) := by decide +kernel
theorem dX4_follows_57 : decode cX4_follows 57 = .ok (.iconst 0, 1) := by decide +kernel
theorem dX4_follows_58 : decode cX4_follows 58 = .ok (.istore_n 3, 1) := by decide +kernel
theorem dX4_follows_59 : decode cX4_follows 59 = .ok (.iinc 4 1, 3) := by decide +kernel
theorem dX4_follows_62 : decode cX4_follows 62 = .ok (.goto (-45), 3) := by decide +kernel
theorem dX4_follows_65 : decode cX4_follows 65 = .ok (.iload_n 1, 1) := by decide +kernel
theorem dX4_follows_66 : decode cX4_follows 66 = .ok (.iload_n 3, 1) := by decide +kernel
theorem dX4_follows_67 : decode cX4_follows 67 = .ok (.ifCond .eq 16, 3) := by decide +kernel
theorem dX4_follows_70 : decode cX4_follows 70 = .ok (.aload_n 0, 1) := by decide +kernel
theorem dX4_follows_71 : decode cX4_follows 71 = .ok (.getfield 91, 3) := by decide +kernel
theorem dX4_follows_74 : decode cX4_follows 74 = .ok (.iload_n 2, 1) := by decide +kernel
theorem dX4_follows_75 : decode cX4_follows 75 = .ok (.baload, 1) := by decide +kernel
theorem dX4_follows_76 : decode cX4_follows 76 = .ok (.ifCond .eq 7, 3) := by decide +kernel
theorem dX4_follows_79 : decode cX4_follows 79 = .ok (.iconst 1, 1) := by decide +kernel
theorem dX4_follows_80 : decode cX4_follows 80 = .ok (.goto 4, 3) := by decide +kernel
theorem dX4_follows_83 : decode cX4_follows 83 = .ok (.iconst 0, 1) := by decide +kernel
theorem dX4_follows_84 : decode cX4_follows 84 = .ok (.iadd, 1) := by decide +kernel
theorem dX4_follows_85 : decode cX4_follows 85 = .ok (.istore_n 1, 1) := by decide +kernel
theorem dX4_follows_86 : decode cX4_follows 86 = .ok (.aload_n 0, 1) := by decide +kernel
theorem dX4_follows_87 : decode cX4_follows 87 = .ok (.getfield 91, 3) := by decide +kernel
theorem dX4_follows_90 : decode cX4_follows 90 = .ok (.iload_n 2, 1) := by decide +kernel
theorem dX4_follows_91 : decode cX4_follows 91 = .ok (.aload_n 0, 1) := by decide +kernel
theorem dX4_follows_92 : decode cX4_follows 92 = .ok (.getfield 91, 3) := by decide +kernel
theorem dX4_follows_95 : decode cX4_follows 95 = .ok (.iload_n 2, 1) := by decide +kernel
theorem dX4_follows_96 : decode cX4_follows 96 = .ok (.baload, 1) := by decide +kernel
theorem dX4_follows_97 : decode cX4_follows 97 = .ok (.ifCond .eq 11, 3) := by decide +kernel
theorem dX4_follows_100 : decode cX4_follows 100 = .ok (.iload_n 3, 1) := by decide +kernel
theorem dX4_follows_101 : decode cX4_follows 101 = .ok (.ifCond .ne 7, 3) := by decide +kernel
theorem dX4_follows_104 : decode cX4_follows 104 = .ok (.iconst 1, 1) := by decide +kernel
theorem dX4_follows_105 : decode cX4_follows 105 = .ok (.goto 4, 3) := by decide +kernel
theorem dX4_follows_108 : decode cX4_follows 108 = .ok (.iconst 0, 1) := by decide +kernel
theorem dX4_follows_109 : decode cX4_follows 109 = .ok (.bastore, 1) := by decide +kernel
theorem dX4_follows_110 : decode cX4_follows 110 = .ok (.iinc 2 1, 3) := by decide +kernel
theorem dX4_follows_113 : decode cX4_follows 113 = .ok (.goto (-109), 3) := by decide +kernel
theorem dX4_follows_116 : decode cX4_follows 116 = .ok (.iload_n 1, 1) := by decide +kernel
theorem dX4_follows_117 : decode cX4_follows 117 = .ok (.ireturn, 1) := by decide +kernel
theorem dX4_withdraw_0 : decode cX4_withdraw 0 = .ok (.aload_n 0, 1) := by decide +kernel
theorem dX4_withdraw_1 : decode cX4_withdraw 1 = .ok (.iload_n 1, 1) := by decide +kernel
theorem dX4_withdraw_2 : decode cX4_withdraw 2 = .ok (.invokevirtual 198, 3) := by decide +kernel
theorem dX4_withdraw_5 : decode cX4_withdraw 5 = .ok (.istore_n 2, 1) := by decide +kernel
theorem dX4_withdraw_6 : decode cX4_withdraw 6 = .ok (.aload_n 0, 1) := by decide +kernel
theorem dX4_withdraw_7 : decode cX4_withdraw 7 = .ok (.iload_n 2, 1) := by decide +kernel
theorem dX4_withdraw_8 : decode cX4_withdraw 8 = .ok (.ifCond .ne 7, 3) := by decide +kernel
theorem dX4_withdraw_11 : decode cX4_withdraw 11 = .ok (.iconst 1, 1) := by decide +kernel
theorem dX4_withdraw_12 : decode cX4_withdraw 12 = .ok (.goto 17, 3) := by decide +kernel
theorem dX4_withdraw_15 : decode cX4_withdraw 15 = .ok (.aload_n 0, 1) := by decide +kernel
theorem dX4_withdraw_16 : decode cX4_withdraw 16 = .ok (.getfield 91, 3) := by decide +kernel
theorem dX4_withdraw_19 : decode cX4_withdraw 19 = .ok (.iload_n 1, 1) := by decide +kernel
theorem dX4_withdraw_20 : decode cX4_withdraw 20 = .ok (.baload, 1) := by decide +kernel
theorem dX4_withdraw_21 : decode cX4_withdraw 21 = .ok (.ifCond .eq 7, 3) := by decide +kernel
theorem dX4_withdraw_24 : decode cX4_withdraw 24 = .ok (.iconst 0, 1) := by decide +kernel
theorem dX4_withdraw_25 : decode cX4_withdraw 25 = .ok (.goto 4, 3) := by decide +kernel
theorem dX4_withdraw_28 : decode cX4_withdraw 28 = .ok (.iconst 2, 1) := by decide +kernel
theorem dX4_withdraw_29 : decode cX4_withdraw 29 = .ok (.invokevirtual 114, 3) := by decide +kernel
theorem dX4_withdraw_32 : decode cX4_withdraw 32 = .ok (.ifCond .ne 5, 3) := by decide +kernel
theorem dX4_withdraw_35 : decode cX4_withdraw 35 = .ok (.iconst 0, 1) := by decide +kernel
theorem dX4_withdraw_36 : decode cX4_withdraw 36 = .ok (.ireturn, 1) := by decide +kernel
theorem dX4_withdraw_37 : decode cX4_withdraw 37 = .ok (.aload_n 0, 1) := by decide +kernel
theorem dX4_withdraw_38 : decode cX4_withdraw 38 = .ok (.getfield 91, 3) := by decide +kernel
theorem dX4_withdraw_41 : decode cX4_withdraw 41 = .ok (.iload_n 1, 1) := by decide +kernel
theorem dX4_withdraw_42 : decode cX4_withdraw 42 = .ok (.iconst 0, 1) := by decide +kernel
theorem dX4_withdraw_43 : decode cX4_withdraw 43 = .ok (.bastore, 1) := by decide +kernel
theorem dX4_withdraw_44 : decode cX4_withdraw 44 = .ok (.iconst 1, 1) := by decide +kernel
theorem dX4_withdraw_45 : decode cX4_withdraw 45 = .ok (.aload_n 0, 1) := by decide +kernel
theorem dX4_withdraw_46 : decode cX4_withdraw 46 = .ok (.invokevirtual 208, 3) := by decide +kernel
theorem dX4_withdraw_49 : decode cX4_withdraw 49 = .ok (.iadd, 1) := by decide +kernel
theorem dX4_withdraw_50 : decode cX4_withdraw 50 = .ok (.ireturn, 1) := by decide +kernel
theorem dX4_replays_0 : decode cX4_replays 0 = .ok (.aload_n 0, 1) := by decide +kernel
theorem dX4_replays_1 : decode cX4_replays 1 = .ok (.getfield 70, 3) := by decide +kernel
theorem dX4_replays_4 : decode cX4_replays 4 = .ok (.iload_n 1, 1) := by decide +kernel
theorem dX4_replays_5 : decode cX4_replays 5 = .ok (.iaload, 1) := by decide +kernel
theorem dX4_replays_6 : decode cX4_replays 6 = .ok (.istore_n 2, 1) := by decide +kernel
theorem dX4_replays_7 : decode cX4_replays 7 = .ok (.aload_n 0, 1) := by decide +kernel
theorem dX4_replays_8 : decode cX4_replays 8 = .ok (.iload_n 2, 1) := by decide +kernel
theorem dX4_replays_9 : decode cX4_replays 9 = .ok (.aload_n 0, 1) := by decide +kernel
theorem dX4_replays_10 : decode cX4_replays 10 = .ok (.getfield 76, 3) := by decide +kernel
theorem dX4_replays_13 : decode cX4_replays 13 = .ok (.iload_n 1, 1) := by decide +kernel
theorem dX4_replays_14 : decode cX4_replays 14 = .ok (.iaload, 1) := by decide +kernel
theorem dX4_replays_15 : decode cX4_replays 15 = .ok (.aload_n 0, 1) := by decide +kernel
theorem dX4_replays_16 : decode cX4_replays 16 = .ok (.getfield 79, 3) := by decide +kernel
theorem dX4_replays_19 : decode cX4_replays 19 = .ok (.iload_n 1, 1) := by decide +kernel
theorem dX4_replays_20 : decode cX4_replays 20 = .ok (.iaload, 1) := by decide +kernel
theorem dX4_replays_21 : decode cX4_replays 21 = .ok (.aload_n 0, 1) := by decide +kernel
theorem dX4_replays_22 : decode cX4_replays 22 = .ok (.getfield 51, 3) := by decide +kernel
theorem dX4_replays_25 : decode cX4_replays 25 = .ok (.iload_n 2, 1) := by decide +kernel
theorem dX4_replays_26 : decode cX4_replays 26 = .ok (.iaload, 1) := by decide +kernel
theorem dX4_replays_27 : decode cX4_replays 27 = .ok (.if_icmp .ge 12, 3) := by decide +kernel
theorem dX4_replays_30 : decode cX4_replays 30 = .ok (.aload_n 0, 1) := by decide +kernel
theorem dX4_replays_31 : decode cX4_replays 31 = .ok (.getfield 79, 3) := by decide +kernel
theorem dX4_replays_34 : decode cX4_replays 34 = .ok (.iload_n 1, 1) := by decide +kernel
theorem dX4_replays_35 : decode cX4_replays 35 = .ok (.iaload, 1) := by decide +kernel
theorem dX4_replays_36 : decode cX4_replays 36 = .ok (.goto 9, 3) := by decide +kernel
theorem dX4_replays_39 : decode cX4_replays 39 = .ok (.aload_n 0, 1) := by decide +kernel
theorem dX4_replays_40 : decode cX4_replays 40 = .ok (.getfield 51, 3) := by decide +kernel
theorem dX4_replays_43 : decode cX4_replays 43 = .ok (.iload_n 2, 1) := by decide +kernel
theorem dX4_replays_44 : decode cX4_replays 44 = .ok (.iaload, 1) := by decide +kernel
theorem dX4_replays_45 : decode cX4_replays 45 = .ok (.invokevirtual 166, 3) := by decide +kernel
theorem dX4_replays_48 : decode cX4_replays 48 = .ok (.aload_n 0, 1) := by decide +kernel
theorem dX4_replays_49 : decode cX4_replays 49 = .ok (.aload_n 0, 1) := by decide +kernel
theorem dX4_replays_50 : decode cX4_replays 50 = .ok (.getfield 73, 3) := by decide +kernel
theorem dX4_replays_53 : decode cX4_replays 53 = .ok (.iload_n 1, 1) := by decide +kernel
theorem dX4_replays_54 : decode cX4_replays 54 = .ok (.iaload, 1) := by decide +kernel
theorem dX4_replays_55 : decode cX4_replays 55 = .ok (.invokevirtual 173, 3) := by decide +kernel
theorem dX4_replays_58 : decode cX4_replays 58 = .ok (.aload_n 0, 1) := by decide +kernel
theorem dX4_replays_59 : decode cX4_replays 59 = .ok (.getfield 82, 3) := by decide +kernel
theorem dX4_replays_62 : decode cX4_replays 62 = .ok (.iload_n 1, 1) := by decide +kernel
theorem dX4_replays_63 : decode cX4_replays 63 = .ok (.laload, 1) := by decide +kernel
theorem dX4_replays_64 : decode cX4_replays 64 = .ok (.lcmp, 1) := by decide +kernel
theorem dX4_replays_65 : decode cX4_replays 65 = .ok (.ifCond .ne 7, 3) := by decide +kernel
theorem dX4_replays_68 : decode cX4_replays 68 = .ok (.iconst 1, 1) := by decide +kernel
theorem dX4_replays_69 : decode cX4_replays 69 = .ok (.goto 4, 3) := by decide +kernel
theorem dX4_replays_72 : decode cX4_replays 72 = .ok (.iconst 0, 1) := by decide +kernel
theorem dX4_replays_73 : decode cX4_replays 73 = .ok (.ireturn, 1) := by decide +kernel
theorem dX4_isTone_0 : decode cX4_isTone 0 = .ok (.iconst 0, 1) := by decide +kernel
theorem dX4_isTone_1 : decode cX4_isTone 1 = .ok (.istore_n 3, 1) := by decide +kernel
theorem dX4_isTone_2 : decode cX4_isTone 2 = .ok (.iconst 1, 1) := by decide +kernel
theorem dX4_isTone_3 : decode cX4_isTone 3 = .ok (.istore 4, 2) := by decide +kernel
theorem dX4_isTone_5 : decode cX4_isTone 5 = .ok (.iload 4, 2) := by decide +kernel
theorem dX4_isTone_7 : decode cX4_isTone 7 = .ok (.bipush 12, 2) := by decide +kernel
theorem dX4_isTone_9 : decode cX4_isTone 9 = .ok (.if_icmp .gt 57, 3) := by decide +kernel
theorem dX4_isTone_12 : decode cX4_isTone 12 = .ok (.iconst 0, 1) := by decide +kernel
theorem dX4_isTone_13 : decode cX4_isTone 13 = .ok (.istore 5, 2) := by decide +kernel
theorem dX4_isTone_15 : decode cX4_isTone 15 = .ok (.iload 5, 2) := by decide +kernel
theorem dX4_isTone_17 : decode cX4_isTone 17 = .ok (.iconst 3, 1) := by decide +kernel
theorem dX4_isTone_18 : decode cX4_isTone 18 = .ok (.if_icmp .ge 42, 3) := by decide +kernel
theorem dX4_isTone_21 : decode cX4_isTone 21 = .ok (.iload_n 3, 1) := by decide +kernel
theorem dX4_isTone_22 : decode cX4_isTone 22 = .ok (.ifCond .ne 26, 3) := by decide +kernel
theorem dX4_isTone_25 : decode cX4_isTone 25 = .ok (.aload_n 0, 1) := by decide +kernel
theorem dX4_isTone_26 : decode cX4_isTone 26 = .ok (.iload_n 1, 1) := by decide +kernel
theorem dX4_isTone_27 : decode cX4_isTone 27 = .ok (.iload 4, 2) := by decide +kernel
theorem dX4_isTone_29 : decode cX4_isTone 29 = .ok (.iload 5, 2) := by decide +kernel
theorem dX4_isTone_31 : decode cX4_isTone 31 = .ok (.iconst 0, 1) := by decide +kernel
theorem dX4_isTone_32 : decode cX4_isTone 32 = .ok (.invokevirtual 122, 3) := by decide +kernel
theorem dX4_isTone_35 : decode cX4_isTone 35 = .ok (.iload_n 2, 1) := by decide +kernel
theorem dX4_isTone_36 : decode cX4_isTone 36 = .ok (.isub, 1) := by decide +kernel
theorem dX4_isTone_37 : decode cX4_isTone 37 = .ok (.i2l, 1) := by decide +kernel
theorem dX4_isTone_38 : decode cX4_isTone 38 = .ok (.invokestatic 194, 3) := by decide +kernel
theorem dX4_isTone_41 : decode cX4_isTone 41 = .ok (.ldc2_w 212, 3) := by decide +kernel
theorem dX4_isTone_44 : decode cX4_isTone 44 = .ok (.lcmp, 1) := by decide +kernel
theorem dX4_isTone_45 : decode cX4_isTone 45 = .ok (.ifCond .ge 7, 3) := by decide +kernel
theorem dX4_isTone_48 : decode cX4_isTone 48 = .ok (.iconst 1, 1) := by decide +kernel
theorem dX4_isTone_49 : decode cX4_isTone 49 = .ok (.goto 4, 3) := by decide +kernel
theorem dX4_isTone_52 : decode cX4_isTone 52 = .ok (.iconst 0, 1) := by decide +kernel
theorem dX4_isTone_53 : decode cX4_isTone 53 = .ok (.istore_n 3, 1) := by decide +kernel
theorem dX4_isTone_54 : decode cX4_isTone 54 = .ok (.iinc 5 1, 3) := by decide +kernel
theorem dX4_isTone_57 : decode cX4_isTone 57 = .ok (.goto (-42), 3) := by decide +kernel
theorem dX4_isTone_60 : decode cX4_isTone 60 = .ok (.iinc 4 1, 3) := by decide +kernel
theorem dX4_isTone_63 : decode cX4_isTone 63 = .ok (.goto (-58), 3) := by decide +kernel
theorem dX4_isTone_66 : decode cX4_isTone 66 = .ok (.iload_n 3, 1) := by decide +kernel
theorem dX4_isTone_67 : decode cX4_isTone 67 = .ok (.ireturn, 1) := by decide +kernel
theorem dX4_sound_0 : decode cX4_sound 0 = .ok (.aload_n 0, 1) := by decide +kernel
theorem dX4_sound_1 : decode cX4_sound 1 = .ok (.getfield 67, 3) := by decide +kernel
theorem dX4_sound_4 : decode cX4_sound 4 = .ok (.iload_n 1, 1) := by decide +kernel
theorem dX4_sound_5 : decode cX4_sound 5 = .ok (.iaload, 1) := by decide +kernel
theorem dX4_sound_6 : decode cX4_sound 6 = .ok (.ifCond .ne 11, 3) := by decide +kernel
theorem dX4_sound_9 : decode cX4_sound 9 = .ok (.aload_n 0, 1) := by decide +kernel
theorem dX4_sound_10 : decode cX4_sound 10 = .ok (.iload_n 1, 1) := by decide +kernel
theorem dX4_sound_11 : decode cX4_sound 11 = .ok (.invokevirtual 214, 3) := by decide +kernel
theorem dX4_sound_14 : decode cX4_sound 14 = .ok (.goto 40, 3) := by decide +kernel
theorem dX4_sound_17 : decode cX4_sound 17 = .ok (.aload_n 0, 1) := by decide +kernel
theorem dX4_sound_18 : decode cX4_sound 18 = .ok (.getfield 67, 3) := by decide +kernel
theorem dX4_sound_21 : decode cX4_sound 21 = .ok (.iload_n 1, 1) := by decide +kernel
theorem dX4_sound_22 : decode cX4_sound 22 = .ok (.iaload, 1) := by decide +kernel
theorem dX4_sound_23 : decode cX4_sound 23 = .ok (.iconst 1, 1) := by decide +kernel
theorem dX4_sound_24 : decode cX4_sound 24 = .ok (.if_icmp .eq 25, 3) := by decide +kernel
theorem dX4_sound_27 : decode cX4_sound 27 = .ok (.aload_n 0, 1) := by decide +kernel
theorem dX4_sound_28 : decode cX4_sound 28 = .ok (.aload_n 0, 1) := by decide +kernel
theorem dX4_sound_29 : decode cX4_sound 29 = .ok (.getfield 70, 3) := by decide +kernel
theorem dX4_sound_32 : decode cX4_sound 32 = .ok (.iload_n 1, 1) := by decide +kernel
theorem dX4_sound_33 : decode cX4_sound 33 = .ok (.iaload, 1) := by decide +kernel
theorem dX4_sound_34 : decode cX4_sound 34 = .ok (.ldc 193, 2) := by decide +kernel
theorem dX4_sound_36 : decode cX4_sound 36 = .ok (.aload_n 0, 1) := by decide +kernel
theorem dX4_sound_37 : decode cX4_sound 37 = .ok (.getfield 73, 3) := by decide +kernel
theorem dX4_sound_40 : decode cX4_sound 40 = .ok (.iload_n 1, 1) := by decide +kernel
theorem dX4_sound_41 : decode cX4_sound 41 = .ok (.iaload, 1) := by decide +kernel
theorem dX4_sound_42 : decode cX4_sound 42 = .ok (.imul, 1) := by decide +kernel
theorem dX4_sound_43 : decode cX4_sound 43 = .ok (.invokevirtual 217, 3) := by decide +kernel
theorem dX4_sound_46 : decode cX4_sound 46 = .ok (.ifCond .ne 7, 3) := by decide +kernel
theorem dX4_sound_49 : decode cX4_sound 49 = .ok (.iconst 1, 1) := by decide +kernel
theorem dX4_sound_50 : decode cX4_sound 50 = .ok (.goto 4, 3) := by decide +kernel
theorem dX4_sound_53 : decode cX4_sound 53 = .ok (.iconst 0, 1) := by decide +kernel
theorem dX4_sound_54 : decode cX4_sound 54 = .ok (.ireturn, 1) := by decide +kernel
theorem dX4_audit_0 : decode cX4_audit 0 = .ok (.aload_n 0, 1) := by decide +kernel
theorem dX4_audit_1 : decode cX4_audit 1 = .ok (.iconst 0, 1) := by decide +kernel
theorem dX4_audit_2 : decode cX4_audit 2 = .ok (.putfield 98, 3) := by decide +kernel
theorem dX4_audit_5 : decode cX4_audit 5 = .ok (.iconst 0, 1) := by decide +kernel
theorem dX4_audit_6 : decode cX4_audit 6 = .ok (.istore_n 1, 1) := by decide +kernel
theorem dX4_audit_7 : decode cX4_audit 7 = .ok (.iconst 0, 1) := by decide +kernel
theorem dX4_audit_8 : decode cX4_audit 8 = .ok (.istore_n 2, 1) := by decide +kernel
theorem dX4_audit_9 : decode cX4_audit 9 = .ok (.iload_n 2, 1) := by decide +kernel
theorem dX4_audit_10 : decode cX4_audit 10 = .ok (.aload_n 0, 1) := by decide +kernel
theorem dX4_audit_11 : decode cX4_audit 11 = .ok (.getfield 108, 3) := by decide +kernel
theorem dX4_audit_14 : decode cX4_audit 14 = .ok (.if_icmp .ge 68, 3) := by decide +kernel
theorem dX4_audit_17 : decode cX4_audit 17 = .ok (.aload_n 0, 1) := by decide +kernel
theorem dX4_audit_18 : decode cX4_audit 18 = .ok (.getfield 91, 3) := by decide +kernel
theorem dX4_audit_21 : decode cX4_audit 21 = .ok (.iload_n 2, 1) := by decide +kernel
theorem dX4_audit_22 : decode cX4_audit 22 = .ok (.baload, 1) := by decide +kernel
theorem dX4_audit_23 : decode cX4_audit 23 = .ok (.ifCond .eq 15, 3) := by decide +kernel
theorem dX4_audit_26 : decode cX4_audit 26 = .ok (.aload_n 0, 1) := by decide +kernel
theorem dX4_audit_27 : decode cX4_audit 27 = .ok (.iload_n 2, 1) := by decide +kernel
theorem dX4_audit_28 : decode cX4_audit 28 = .ok (.invokevirtual 221, 3) := by decide +kernel
theorem dX4_audit_31 : decode cX4_audit 31 = .ok (.ifCond .ne 7, 3) := by decide +kernel
theorem dX4_audit_34 : decode cX4_audit 34 = .ok (.iconst 1, 1) := by decide +kernel
theorem dX4_audit_35 : decode cX4_audit 35 = .ok (.goto 4, 3) := by decide +kernel
theorem dX4_audit_38 : decode cX4_audit 38 = .ok (.iconst 0, 1) := by decide +kernel
theorem dX4_audit_39 : decode cX4_audit 39 = .ok (.istore_n 3, 1) := by decide +kernel
theorem dX4_audit_40 : decode cX4_audit 40 = .ok (.iload_n 1, 1) := by decide +kernel
theorem dX4_audit_41 : decode cX4_audit 41 = .ok (.iload_n 3, 1) := by decide +kernel
theorem dX4_audit_42 : decode cX4_audit 42 = .ok (.ifCond .eq 7, 3) := by decide +kernel
theorem dX4_audit_45 : decode cX4_audit 45 = .ok (.iconst 1, 1) := by decide +kernel
theorem dX4_audit_46 : decode cX4_audit 46 = .ok (.goto 4, 3) := by decide +kernel
theorem dX4_audit_49 : decode cX4_audit 49 = .ok (.iconst 0, 1) := by decide +kernel
theorem dX4_audit_50 : decode cX4_audit 50 = .ok (.iadd, 1) := by decide +kernel
theorem dX4_audit_51 : decode cX4_audit 51 = .ok (.istore_n 1, 1) := by decide +kernel
theorem dX4_audit_52 : decode cX4_audit 52 = .ok (.aload_n 0, 1) := by decide +kernel
theorem dX4_audit_53 : decode cX4_audit 53 = .ok (.getfield 91, 3) := by decide +kernel
theorem dX4_audit_56 : decode cX4_audit 56 = .ok (.iload_n 2, 1) := by decide +kernel
theorem dX4_audit_57 : decode cX4_audit 57 = .ok (.aload_n 0, 1) := by decide +kernel
theorem dX4_audit_58 : decode cX4_audit 58 = .ok (.getfield 91, 3) := by decide +kernel
theorem dX4_audit_61 : decode cX4_audit 61 = .ok (.iload_n 2, 1) := by decide +kernel
theorem dX4_audit_62 : decode cX4_audit 62 = .ok (.baload, 1) := by decide +kernel
theorem dX4_audit_63 : decode cX4_audit 63 = .ok (.ifCond .eq 11, 3) := by decide +kernel
theorem dX4_audit_66 : decode cX4_audit 66 = .ok (.iload_n 3, 1) := by decide +kernel
theorem dX4_audit_67 : decode cX4_audit 67 = .ok (.ifCond .ne 7, 3) := by decide +kernel
theorem dX4_audit_70 : decode cX4_audit 70 = .ok (.iconst 1, 1) := by decide +kernel
theorem dX4_audit_71 : decode cX4_audit 71 = .ok (.goto 4, 3) := by decide +kernel
theorem dX4_audit_74 : decode cX4_audit 74 = .ok (.iconst 0, 1) := by decide +kernel
theorem dX4_audit_75 : decode cX4_audit 75 = .ok (.bastore, 1) := by decide +kernel
theorem dX4_audit_76 : decode cX4_audit 76 = .ok (.iinc 2 1, 3) := by decide +kernel
theorem dX4_audit_79 : decode cX4_audit 79 = .ok (.goto (-70), 3) := by decide +kernel
theorem dX4_audit_82 : decode cX4_audit 82 = .ok (.iload_n 1, 1) := by decide +kernel
theorem dX4_audit_83 : decode cX4_audit 83 = .ok (.aload_n 0, 1) := by decide +kernel
theorem dX4_audit_84 : decode cX4_audit 84 = .ok (.invokevirtual 208, 3) := by decide +kernel
theorem dX4_audit_87 : decode cX4_audit 87 = .ok (.iadd, 1) := by decide +kernel
theorem dX4_audit_88 : decode cX4_audit 88 = .ok (.ireturn, 1) := by decide +kernel
theorem dX4_ofClaim_0 : decode cX4_ofClaim 0 = .ok (.aload_n 0, 1) := by decide +kernel
theorem dX4_ofClaim_1 : decode cX4_ofClaim 1 = .ok (.aload_n 0, 1) := by decide +kernel
theorem dX4_ofClaim_2 : decode cX4_ofClaim 2 = .ok (.iload_n 1, 1) := by decide +kernel
theorem dX4_ofClaim_3 : decode cX4_ofClaim 3 = .ok (.invokevirtual 198, 3) := by decide +kernel
theorem dX4_ofClaim_6 : decode cX4_ofClaim 6 = .ok (.ifCond .ne 7, 3) := by decide +kernel
theorem dX4_ofClaim_9 : decode cX4_ofClaim 9 = .ok (.iconst 1, 1) := by decide +kernel
theorem dX4_ofClaim_10 : decode cX4_ofClaim 10 = .ok (.goto 17, 3) := by decide +kernel
theorem dX4_ofClaim_13 : decode cX4_ofClaim 13 = .ok (.iload_n 2, 1) := by decide +kernel
theorem dX4_ofClaim_14 : decode cX4_ofClaim 14 = .ok (.iconst 0, 1) := by decide +kernel
theorem dX4_ofClaim_15 : decode cX4_ofClaim 15 = .ok (.iconst 5, 1) := by decide +kernel
theorem dX4_ofClaim_16 : decode cX4_ofClaim 16 = .ok (.invokestatic 104, 3) := by decide +kernel
theorem dX4_ofClaim_19 : decode cX4_ofClaim 19 = .ok (.ifCond .eq 7, 3) := by decide +kernel
theorem dX4_ofClaim_22 : decode cX4_ofClaim 22 = .ok (.iconst 0, 1) := by decide +kernel
theorem dX4_ofClaim_23 : decode cX4_ofClaim 23 = .ok (.goto 4, 3) := by decide +kernel
theorem dX4_ofClaim_26 : decode cX4_ofClaim 26 = .ok (.iconst 2, 1) := by decide +kernel
theorem dX4_ofClaim_27 : decode cX4_ofClaim 27 = .ok (.invokevirtual 114, 3) := by decide +kernel
theorem dX4_ofClaim_30 : decode cX4_ofClaim 30 = .ok (.ifCond .ne 5, 3) := by decide +kernel
theorem dX4_ofClaim_33 : decode cX4_ofClaim 33 = .ok (.iconst 0, 1) := by decide +kernel
theorem dX4_ofClaim_34 : decode cX4_ofClaim 34 = .ok (.ireturn, 1) := by decide +kernel
theorem dX4_ofClaim_35 : decode cX4_ofClaim 35 = .ok (.iload_n 2, 1) := by decide +kernel
theorem dX4_ofClaim_36 : decode cX4_ofClaim 36 = .ok (.tableswitch 79 0 4 #[36, 43, 50, 57, 64], 36) := by decide +kernel
theorem dX4_ofClaim_72 : decode cX4_ofClaim 72 = .ok (.aload_n 0, 1) := by decide +kernel
theorem dX4_ofClaim_73 : decode cX4_ofClaim 73 = .ok (.getfield 67, 3) := by decide +kernel
theorem dX4_ofClaim_76 : decode cX4_ofClaim 76 = .ok (.iload_n 1, 1) := by decide +kernel
theorem dX4_ofClaim_77 : decode cX4_ofClaim 77 = .ok (.iaload, 1) := by decide +kernel
theorem dX4_ofClaim_78 : decode cX4_ofClaim 78 = .ok (.ireturn, 1) := by decide +kernel
theorem dX4_ofClaim_79 : decode cX4_ofClaim 79 = .ok (.aload_n 0, 1) := by decide +kernel
theorem dX4_ofClaim_80 : decode cX4_ofClaim 80 = .ok (.getfield 70, 3) := by decide +kernel
theorem dX4_ofClaim_83 : decode cX4_ofClaim 83 = .ok (.iload_n 1, 1) := by decide +kernel
theorem dX4_ofClaim_84 : decode cX4_ofClaim 84 = .ok (.iaload, 1) := by decide +kernel
theorem dX4_ofClaim_85 : decode cX4_ofClaim 85 = .ok (.ireturn, 1) := by decide +kernel
theorem dX4_ofClaim_86 : decode cX4_ofClaim 86 = .ok (.aload_n 0, 1) := by decide +kernel
theorem dX4_ofClaim_87 : decode cX4_ofClaim 87 = .ok (.getfield 73, 3) := by decide +kernel
theorem dX4_ofClaim_90 : decode cX4_ofClaim 90 = .ok (.iload_n 1, 1) := by decide +kernel
theorem dX4_ofClaim_91 : decode cX4_ofClaim 91 = .ok (.iaload, 1) := by decide +kernel
theorem dX4_ofClaim_92 : decode cX4_ofClaim 92 = .ok (.ireturn, 1) := by decide +kernel
theorem dX4_ofClaim_93 : decode cX4_ofClaim 93 = .ok (.aload_n 0, 1) := by decide +kernel
theorem dX4_ofClaim_94 : decode cX4_ofClaim 94 = .ok (.getfield 85, 3) := by decide +kernel
theorem dX4_ofClaim_97 : decode cX4_ofClaim 97 = .ok (.iload_n 1, 1) := by decide +kernel
theorem dX4_ofClaim_98 : decode cX4_ofClaim 98 = .ok (.iaload, 1) := by decide +kernel
theorem dX4_ofClaim_99 : decode cX4_ofClaim 99 = .ok (.ireturn, 1) := by decide +kernel
theorem dX4_ofClaim_100 : decode cX4_ofClaim 100 = .ok (.aload_n 0, 1) := by decide +kernel
theorem dX4_ofClaim_101 : decode cX4_ofClaim 101 = .ok (.getfield 91, 3) := by decide +kernel
theorem dX4_ofClaim_104 : decode cX4_ofClaim 104 = .ok (.iload_n 1, 1) := by decide +kernel
theorem dX4_ofClaim_105 : decode cX4_ofClaim 105 = .ok (.baload, 1) := by decide +kernel
theorem dX4_ofClaim_106 : decode cX4_ofClaim 106 = .ok (.ifCond .eq 7, 3) := by decide +kernel
theorem dX4_ofClaim_109 : decode cX4_ofClaim 109 = .ok (.iconst 1, 1) := by decide +kernel
theorem dX4_ofClaim_110 : decode cX4_ofClaim 110 = .ok (.goto 4, 3) := by decide +kernel
theorem dX4_ofClaim_113 : decode cX4_ofClaim 113 = .ok (.iconst 0, 1) := by decide +kernel
theorem dX4_ofClaim_114 : decode cX4_ofClaim 114 = .ok (.ireturn, 1) := by decide +kernel
theorem dX4_ofClaim_115 : decode cX4_ofClaim 115 = .ok (.aload_n 0, 1) := by decide +kernel
theorem dX4_ofClaim_116 : decode cX4_ofClaim 116 = .ok (.iload_n 1, 1) := by decide +kernel
theorem dX4_ofClaim_117 : decode cX4_ofClaim 117 = .ok (.invokevirtual 205, 3) := by decide +kernel
theorem dX4_ofClaim_120 : decode cX4_ofClaim 120 = .ok (.ireturn, 1) := by decide +kernel
theorem dX4_isSound_0 : decode cX4_isSound 0 = .ok (.aload_n 0, 1) := by decide +kernel
theorem dX4_isSound_1 : decode cX4_isSound 1 = .ok (.aload_n 0, 1) := by decide +kernel
theorem dX4_isSound_2 : decode cX4_isSound 2 = .ok (.iload_n 1, 1) := by decide +kernel
theorem dX4_isSound_3 : decode cX4_isSound 3 = .ok (.invokevirtual 198, 3) := by decide +kernel
theorem dX4_isSound_6 : decode cX4_isSound 6 = .ok (.ifCond .eq 7, 3) := by decide +kernel
theorem dX4_isSound_9 : decode cX4_isSound 9 = .ok (.iconst 0, 1) := by decide +kernel
theorem dX4_isSound_10 : decode cX4_isSound 10 = .ok (.goto 4, 3) := by decide +kernel
theorem dX4_isSound_13 : decode cX4_isSound 13 = .ok (.iconst 1, 1) := by decide +kernel
theorem dX4_isSound_14 : decode cX4_isSound 14 = .ok (.invokevirtual 114, 3) := by decide +kernel
theorem dX4_isSound_17 : decode cX4_isSound 17 = .ok (.ifCond .eq 15, 3) := by decide +kernel
theorem dX4_isSound_20 : decode cX4_isSound 20 = .ok (.aload_n 0, 1) := by decide +kernel
theorem dX4_isSound_21 : decode cX4_isSound 21 = .ok (.iload_n 1, 1) := by decide +kernel
theorem dX4_isSound_22 : decode cX4_isSound 22 = .ok (.invokevirtual 221, 3) := by decide +kernel
theorem dX4_isSound_25 : decode cX4_isSound 25 = .ok (.ifCond .eq 7, 3) := by decide +kernel
theorem dX4_isSound_28 : decode cX4_isSound 28 = .ok (.iconst 1, 1) := by decide +kernel
theorem dX4_isSound_29 : decode cX4_isSound 29 = .ok (.goto 4, 3) := by decide +kernel
theorem dX4_isSound_32 : decode cX4_isSound 32 = .ok (.iconst 0, 1) := by decide +kernel
theorem dX4_isSound_33 : decode cX4_isSound 33 = .ok (.ireturn, 1) := by decide +kernel
theorem dJ13_bitCount_95d88_0 : decode cJ13_bitCount_95d88 0 = .ok (.lload_n 0, 1) := by decide +kernel
theorem dJ13_bitCount_95d88_1 : decode cJ13_bitCount_95d88 1 = .ok (.lload_n 0, 1) := by decide +kernel
theorem dJ13_bitCount_95d88_2 : decode cJ13_bitCount_95d88 2 = .ok (.iconst 1, 1) := by decide +kernel
theorem dJ13_bitCount_95d88_3 : decode cJ13_bitCount_95d88 3 = .ok (.lushr, 1) := by decide +kernel
theorem dJ13_bitCount_95d88_4 : decode cJ13_bitCount_95d88 4 = .ok (.ldc2_w 314, 3) := by decide +kernel
theorem dJ13_bitCount_95d88_7 : decode cJ13_bitCount_95d88 7 = .ok (.land, 1) := by decide +kernel
theorem dJ13_bitCount_95d88_8 : decode cJ13_bitCount_95d88 8 = .ok (.lsub, 1) := by decide +kernel
theorem dJ13_bitCount_95d88_9 : decode cJ13_bitCount_95d88 9 = .ok (.lstore_n 0, 1) := by decide +kernel
theorem dJ13_bitCount_95d88_10 : decode cJ13_bitCount_95d88 10 = .ok (.lload_n 0, 1) := by decide +kernel
theorem dJ13_bitCount_95d88_11 : decode cJ13_bitCount_95d88 11 = .ok (.ldc2_w 316, 3) := by decide +kernel
theorem dJ13_bitCount_95d88_14 : decode cJ13_bitCount_95d88 14 = .ok (.land, 1) := by decide +kernel
theorem dJ13_bitCount_95d88_15 : decode cJ13_bitCount_95d88 15 = .ok (.lload_n 0, 1) := by decide +kernel
theorem dJ13_bitCount_95d88_16 : decode cJ13_bitCount_95d88 16 = .ok (.iconst 2, 1) := by decide +kernel
theorem dJ13_bitCount_95d88_17 : decode cJ13_bitCount_95d88 17 = .ok (.lushr, 1) := by decide +kernel
theorem dJ13_bitCount_95d88_18 : decode cJ13_bitCount_95d88 18 = .ok (.ldc2_w 316, 3) := by decide +kernel
theorem dJ13_bitCount_95d88_21 : decode cJ13_bitCount_95d88 21 = .ok (.land, 1) := by decide +kernel
theorem dJ13_bitCount_95d88_22 : decode cJ13_bitCount_95d88 22 = .ok (.ladd, 1) := by decide +kernel
theorem dJ13_bitCount_95d88_23 : decode cJ13_bitCount_95d88 23 = .ok (.lstore_n 0, 1) := by decide +kernel
theorem dJ13_bitCount_95d88_24 : decode cJ13_bitCount_95d88 24 = .ok (.lload_n 0, 1) := by decide +kernel
theorem dJ13_bitCount_95d88_25 : decode cJ13_bitCount_95d88 25 = .ok (.lload_n 0, 1) := by decide +kernel
theorem dJ13_bitCount_95d88_26 : decode cJ13_bitCount_95d88 26 = .ok (.iconst 4, 1) := by decide +kernel
theorem dJ13_bitCount_95d88_27 : decode cJ13_bitCount_95d88 27 = .ok (.lushr, 1) := by decide +kernel
theorem dJ13_bitCount_95d88_28 : decode cJ13_bitCount_95d88 28 = .ok (.ladd, 1) := by decide +kernel
theorem dJ13_bitCount_95d88_29 : decode cJ13_bitCount_95d88 29 = .ok (.ldc2_w 318, 3) := by decide +kernel
theorem dJ13_bitCount_95d88_32 : decode cJ13_bitCount_95d88 32 = .ok (.land, 1) := by decide +kernel
theorem dJ13_bitCount_95d88_33 : decode cJ13_bitCount_95d88 33 = .ok (.lstore_n 0, 1) := by decide +kernel
theorem dJ13_bitCount_95d88_34 : decode cJ13_bitCount_95d88 34 = .ok (.lload_n 0, 1) := by decide +kernel
theorem dJ13_bitCount_95d88_35 : decode cJ13_bitCount_95d88 35 = .ok (.lload_n 0, 1) := by decide +kernel
theorem dJ13_bitCount_95d88_36 : decode cJ13_bitCount_95d88 36 = .ok (.bipush 8, 2) := by decide +kernel
theorem dJ13_bitCount_95d88_38 : decode cJ13_bitCount_95d88 38 = .ok (.lushr, 1) := by decide +kernel
theorem dJ13_bitCount_95d88_39 : decode cJ13_bitCount_95d88 39 = .ok (.ladd, 1) := by decide +kernel
theorem dJ13_bitCount_95d88_40 : decode cJ13_bitCount_95d88 40 = .ok (.lstore_n 0, 1) := by decide +kernel
theorem dJ13_bitCount_95d88_41 : decode cJ13_bitCount_95d88 41 = .ok (.lload_n 0, 1) := by decide +kernel
theorem dJ13_bitCount_95d88_42 : decode cJ13_bitCount_95d88 42 = .ok (.lload_n 0, 1) := by decide +kernel
theorem dJ13_bitCount_95d88_43 : decode cJ13_bitCount_95d88 43 = .ok (.bipush 16, 2) := by decide +kernel
theorem dJ13_bitCount_95d88_45 : decode cJ13_bitCount_95d88 45 = .ok (.lushr, 1) := by decide +kernel
theorem dJ13_bitCount_95d88_46 : decode cJ13_bitCount_95d88 46 = .ok (.ladd, 1) := by decide +kernel
theorem dJ13_bitCount_95d88_47 : decode cJ13_bitCount_95d88 47 = .ok (.lstore_n 0, 1) := by decide +kernel
theorem dJ13_bitCount_95d88_48 : decode cJ13_bitCount_95d88 48 = .ok (.lload_n 0, 1) := by decide +kernel
theorem dJ13_bitCount_95d88_49 : decode cJ13_bitCount_95d88 49 = .ok (.lload_n 0, 1) := by decide +kernel
theorem dJ13_bitCount_95d88_50 : decode cJ13_bitCount_95d88 50 = .ok (.bipush 32, 2) := by decide +kernel
theorem dJ13_bitCount_95d88_52 : decode cJ13_bitCount_95d88 52 = .ok (.lushr, 1) := by decide +kernel
theorem dJ13_bitCount_95d88_53 : decode cJ13_bitCount_95d88 53 = .ok (.ladd, 1) := by decide +kernel
theorem dJ13_bitCount_95d88_54 : decode cJ13_bitCount_95d88 54 = .ok (.lstore_n 0, 1) := by decide +kernel
theorem dJ13_bitCount_95d88_55 : decode cJ13_bitCount_95d88 55 = .ok (.lload_n 0, 1) := by decide +kernel
theorem dJ13_bitCount_95d88_56 : decode cJ13_bitCount_95d88 56 = .ok (.l2i, 1) := by decide +kernel
theorem dJ13_bitCount_95d88_57 : decode cJ13_bitCount_95d88 57 = .ok (.bipush 127, 2) := by decide +kernel
theorem dJ13_bitCount_95d88_59 : decode cJ13_bitCount_95d88 59 = .ok (.iand, 1) := by decide +kernel
theorem dJ13_bitCount_95d88_60 : decode cJ13_bitCount_95d88 60 = .ok (.ireturn, 1) := by decide +kernel
theorem dJ9_floorDiv_7cf53_0 : decode cJ9_floorDiv_7cf53 0 = .ok (.iload_n 0, 1) := by decide +kernel
theorem dJ9_floorDiv_7cf53_1 : decode cJ9_floorDiv_7cf53 1 = .ok (.iload_n 1, 1) := by decide +kernel
theorem dJ9_floorDiv_7cf53_2 : decode cJ9_floorDiv_7cf53 2 = .ok (.idiv, 1) := by decide +kernel
theorem dJ9_floorDiv_7cf53_3 : decode cJ9_floorDiv_7cf53 3 = .ok (.istore_n 2, 1) := by decide +kernel
theorem dJ9_floorDiv_7cf53_4 : decode cJ9_floorDiv_7cf53 4 = .ok (.iload_n 0, 1) := by decide +kernel
theorem dJ9_floorDiv_7cf53_5 : decode cJ9_floorDiv_7cf53 5 = .ok (.iload_n 1, 1) := by decide +kernel
theorem dJ9_floorDiv_7cf53_6 : decode cJ9_floorDiv_7cf53 6 = .ok (.ixor, 1) := by decide +kernel
theorem dJ9_floorDiv_7cf53_7 : decode cJ9_floorDiv_7cf53 7 = .ok (.ifCond .ge 14, 3) := by decide +kernel
theorem dJ9_floorDiv_7cf53_10 : decode cJ9_floorDiv_7cf53 10 = .ok (.iload_n 2, 1) := by decide +kernel
theorem dJ9_floorDiv_7cf53_11 : decode cJ9_floorDiv_7cf53 11 = .ok (.iload_n 1, 1) := by decide +kernel
theorem dJ9_floorDiv_7cf53_12 : decode cJ9_floorDiv_7cf53 12 = .ok (.imul, 1) := by decide +kernel
theorem dJ9_floorDiv_7cf53_13 : decode cJ9_floorDiv_7cf53 13 = .ok (.iload_n 0, 1) := by decide +kernel
theorem dJ9_floorDiv_7cf53_14 : decode cJ9_floorDiv_7cf53 14 = .ok (.if_icmp .eq 7, 3) := by decide +kernel
theorem dJ9_floorDiv_7cf53_17 : decode cJ9_floorDiv_7cf53 17 = .ok (.iload_n 2, 1) := by decide +kernel
theorem dJ9_floorDiv_7cf53_18 : decode cJ9_floorDiv_7cf53 18 = .ok (.iconst 1, 1) := by decide +kernel
theorem dJ9_floorDiv_7cf53_19 : decode cJ9_floorDiv_7cf53 19 = .ok (.isub, 1) := by decide +kernel
theorem dJ9_floorDiv_7cf53_20 : decode cJ9_floorDiv_7cf53 20 = .ok (.ireturn, 1) := by decide +kernel
theorem dJ9_floorDiv_7cf53_21 : decode cJ9_floorDiv_7cf53 21 = .ok (.iload_n 2, 1) := by decide +kernel
theorem dJ9_floorDiv_7cf53_22 : decode cJ9_floorDiv_7cf53 22 = .ok (.ireturn, 1) := by decide +kernel
theorem dJ9_floorDiv_f86c9_0 : decode cJ9_floorDiv_f86c9 0 = .ok (.lload_n 0, 1) := by decide +kernel
theorem dJ9_floorDiv_f86c9_1 : decode cJ9_floorDiv_f86c9 1 = .ok (.lload_n 2, 1) := by decide +kernel
theorem dJ9_floorDiv_f86c9_2 : decode cJ9_floorDiv_f86c9 2 = .ok (.ldiv, 1) := by decide +kernel
theorem dJ9_floorDiv_f86c9_3 : decode cJ9_floorDiv_f86c9 3 = .ok (.lstore 4, 2) := by decide +kernel
theorem dJ9_floorDiv_f86c9_5 : decode cJ9_floorDiv_f86c9 5 = .ok (.lload_n 0, 1) := by decide +kernel
theorem dJ9_floorDiv_f86c9_6 : decode cJ9_floorDiv_f86c9 6 = .ok (.lload_n 2, 1) := by decide +kernel
theorem dJ9_floorDiv_f86c9_7 : decode cJ9_floorDiv_f86c9 7 = .ok (.lxor, 1) := by decide +kernel
theorem dJ9_floorDiv_f86c9_8 : decode cJ9_floorDiv_f86c9 8 = .ok (.lconst 0, 1) := by decide +kernel
theorem dJ9_floorDiv_f86c9_9 : decode cJ9_floorDiv_f86c9 9 = .ok (.lcmp, 1) := by decide +kernel
theorem dJ9_floorDiv_f86c9_10 : decode cJ9_floorDiv_f86c9 10 = .ok (.ifCond .ge 17, 3) := by decide +kernel
theorem dJ9_floorDiv_f86c9_13 : decode cJ9_floorDiv_f86c9 13 = .ok (.lload 4, 2) := by decide +kernel
theorem dJ9_floorDiv_f86c9_15 : decode cJ9_floorDiv_f86c9 15 = .ok (.lload_n 2, 1) := by decide +kernel
theorem dJ9_floorDiv_f86c9_16 : decode cJ9_floorDiv_f86c9 16 = .ok (.lmul, 1) := by decide +kernel
theorem dJ9_floorDiv_f86c9_17 : decode cJ9_floorDiv_f86c9 17 = .ok (.lload_n 0, 1) := by decide +kernel
theorem dJ9_floorDiv_f86c9_18 : decode cJ9_floorDiv_f86c9 18 = .ok (.lcmp, 1) := by decide +kernel
theorem dJ9_floorDiv_f86c9_19 : decode cJ9_floorDiv_f86c9 19 = .ok (.ifCond .eq 8, 3) := by decide +kernel
theorem dJ9_floorDiv_f86c9_22 : decode cJ9_floorDiv_f86c9 22 = .ok (.lload 4, 2) := by decide +kernel
theorem dJ9_floorDiv_f86c9_24 : decode cJ9_floorDiv_f86c9 24 = .ok (.lconst 1, 1) := by decide +kernel
theorem dJ9_floorDiv_f86c9_25 : decode cJ9_floorDiv_f86c9 25 = .ok (.lsub, 1) := by decide +kernel
theorem dJ9_floorDiv_f86c9_26 : decode cJ9_floorDiv_f86c9 26 = .ok (.lreturn, 1) := by decide +kernel
theorem dJ9_floorDiv_f86c9_27 : decode cJ9_floorDiv_f86c9 27 = .ok (.lload 4, 2) := by decide +kernel
theorem dJ9_floorDiv_f86c9_29 : decode cJ9_floorDiv_f86c9 29 = .ok (.lreturn, 1) := by decide +kernel
theorem dJ9_abs_0f7a4_0 : decode cJ9_abs_0f7a4 0 = .ok (.iload_n 0, 1) := by decide +kernel
theorem dJ9_abs_0f7a4_1 : decode cJ9_abs_0f7a4 1 = .ok (.ifCond .ge 8, 3) := by decide +kernel
theorem dJ9_abs_0f7a4_4 : decode cJ9_abs_0f7a4 4 = .ok (.iload_n 0, 1) := by decide +kernel
theorem dJ9_abs_0f7a4_5 : decode cJ9_abs_0f7a4 5 = .ok (.ineg, 1) := by decide +kernel
theorem dJ9_abs_0f7a4_6 : decode cJ9_abs_0f7a4 6 = .ok (.goto 4, 3) := by decide +kernel
theorem dJ9_abs_0f7a4_9 : decode cJ9_abs_0f7a4 9 = .ok (.iload_n 0, 1) := by decide +kernel
theorem dJ9_abs_0f7a4_10 : decode cJ9_abs_0f7a4 10 = .ok (.ireturn, 1) := by decide +kernel
theorem dJ9_max_7cf53_0 : decode cJ9_max_7cf53 0 = .ok (.iload_n 0, 1) := by decide +kernel
theorem dJ9_max_7cf53_1 : decode cJ9_max_7cf53 1 = .ok (.iload_n 1, 1) := by decide +kernel
theorem dJ9_max_7cf53_2 : decode cJ9_max_7cf53 2 = .ok (.if_icmp .lt 7, 3) := by decide +kernel
theorem dJ9_max_7cf53_5 : decode cJ9_max_7cf53 5 = .ok (.iload_n 0, 1) := by decide +kernel
theorem dJ9_max_7cf53_6 : decode cJ9_max_7cf53 6 = .ok (.goto 4, 3) := by decide +kernel
theorem dJ9_max_7cf53_9 : decode cJ9_max_7cf53 9 = .ok (.iload_n 1, 1) := by decide +kernel
theorem dJ9_max_7cf53_10 : decode cJ9_max_7cf53 10 = .ok (.ireturn, 1) := by decide +kernel
theorem dJ9_min_7cf53_0 : decode cJ9_min_7cf53 0 = .ok (.iload_n 0, 1) := by decide +kernel
theorem dJ9_min_7cf53_1 : decode cJ9_min_7cf53 1 = .ok (.iload_n 1, 1) := by decide +kernel
theorem dJ9_min_7cf53_2 : decode cJ9_min_7cf53 2 = .ok (.if_icmp .gt 7, 3) := by decide +kernel
theorem dJ9_min_7cf53_5 : decode cJ9_min_7cf53 5 = .ok (.iload_n 0, 1) := by decide +kernel
theorem dJ9_min_7cf53_6 : decode cJ9_min_7cf53 6 = .ok (.goto 4, 3) := by decide +kernel
theorem dJ9_min_7cf53_9 : decode cJ9_min_7cf53 9 = .ok (.iload_n 1, 1) := by decide +kernel
theorem dJ9_min_7cf53_10 : decode cJ9_min_7cf53 10 = .ok (.ireturn, 1) := by decide +kernel
theorem dJ7_fill_d0a16_0 : decode cJ7_fill_d0a16 0 = .ok (.iconst 0, 1) := by decide +kernel
theorem dJ7_fill_d0a16_1 : decode cJ7_fill_d0a16 1 = .ok (.istore_n 3, 1) := by decide +kernel
theorem dJ7_fill_d0a16_2 : decode cJ7_fill_d0a16 2 = .ok (.aload_n 0, 1) := by decide +kernel
theorem dJ7_fill_d0a16_3 : decode cJ7_fill_d0a16 3 = .ok (.arraylength, 1) := by decide +kernel
theorem dJ7_fill_d0a16_4 : decode cJ7_fill_d0a16 4 = .ok (.istore 4, 2) := by decide +kernel
theorem dJ7_fill_d0a16_6 : decode cJ7_fill_d0a16 6 = .ok (.iload_n 3, 1) := by decide +kernel
theorem dJ7_fill_d0a16_7 : decode cJ7_fill_d0a16 7 = .ok (.iload 4, 2) := by decide +kernel
theorem dJ7_fill_d0a16_9 : decode cJ7_fill_d0a16 9 = .ok (.if_icmp .ge 13, 3) := by decide +kernel
theorem dJ7_fill_d0a16_12 : decode cJ7_fill_d0a16 12 = .ok (.aload_n 0, 1) := by decide +kernel
theorem dJ7_fill_d0a16_13 : decode cJ7_fill_d0a16 13 = .ok (.iload_n 3, 1) := by decide +kernel
theorem dJ7_fill_d0a16_14 : decode cJ7_fill_d0a16 14 = .ok (.lload_n 1, 1) := by decide +kernel
theorem dJ7_fill_d0a16_15 : decode cJ7_fill_d0a16 15 = .ok (.lastore, 1) := by decide +kernel
theorem dJ7_fill_d0a16_16 : decode cJ7_fill_d0a16 16 = .ok (.iinc 3 1, 3) := by decide +kernel
theorem dJ7_fill_d0a16_19 : decode cJ7_fill_d0a16 19 = .ok (.goto (-13), 3) := by decide +kernel
theorem dJ7_fill_d0a16_22 : decode cJ7_fill_d0a16 22 = .ok (.return_, 1) := by decide +kernel
theorem dJ7_fill_53178_0 : decode cJ7_fill_53178 0 = .ok (.iconst 0, 1) := by decide +kernel
theorem dJ7_fill_53178_1 : decode cJ7_fill_53178 1 = .ok (.istore_n 2, 1) := by decide +kernel
theorem dJ7_fill_53178_2 : decode cJ7_fill_53178 2 = .ok (.aload_n 0, 1) := by decide +kernel
theorem dJ7_fill_53178_3 : decode cJ7_fill_53178 3 = .ok (.arraylength, 1) := by decide +kernel
theorem dJ7_fill_53178_4 : decode cJ7_fill_53178 4 = .ok (.istore_n 3, 1) := by decide +kernel
theorem dJ7_fill_53178_5 : decode cJ7_fill_53178 5 = .ok (.iload_n 2, 1) := by decide +kernel
theorem dJ7_fill_53178_6 : decode cJ7_fill_53178 6 = .ok (.iload_n 3, 1) := by decide +kernel
theorem dJ7_fill_53178_7 : decode cJ7_fill_53178 7 = .ok (.if_icmp .ge 13, 3) := by decide +kernel
theorem dJ7_fill_53178_10 : decode cJ7_fill_53178 10 = .ok (.aload_n 0, 1) := by decide +kernel
theorem dJ7_fill_53178_11 : decode cJ7_fill_53178 11 = .ok (.iload_n 2, 1) := by decide +kernel
theorem dJ7_fill_53178_12 : decode cJ7_fill_53178 12 = .ok (.iload_n 1, 1) := by decide +kernel
theorem dJ7_fill_53178_13 : decode cJ7_fill_53178 13 = .ok (.iastore, 1) := by decide +kernel
theorem dJ7_fill_53178_14 : decode cJ7_fill_53178 14 = .ok (.iinc 2 1, 3) := by decide +kernel
theorem dJ7_fill_53178_17 : decode cJ7_fill_53178 17 = .ok (.goto (-12), 3) := by decide +kernel
theorem dJ7_fill_53178_20 : decode cJ7_fill_53178 20 = .ok (.return_, 1) := by decide +kernel
theorem dL_shell_0 : decode cL_shell 0 = .ok (.aload 4, 2) := by decide +kernel
theorem dL_shell_2 : decode cL_shell 2 = .ok (.iconst 0, 1) := by decide +kernel
theorem dL_shell_3 : decode cL_shell 3 = .ok (.aload_n 0, 1) := by decide +kernel
theorem dL_shell_4 : decode cL_shell 4 = .ok (.iload_n 1, 1) := by decide +kernel
theorem dL_shell_5 : decode cL_shell 5 = .ok (.iload_n 2, 1) := by decide +kernel
theorem dL_shell_6 : decode cL_shell 6 = .ok (.iload_n 3, 1) := by decide +kernel
theorem dL_shell_7 : decode cL_shell 7 = .ok (.invokevirtual 7, 3) := by decide +kernel
theorem dL_shell_10 : decode cL_shell 10 = .ok (.i2l, 1) := by decide +kernel
theorem dL_shell_11 : decode cL_shell 11 = .ok (.lastore, 1) := by decide +kernel
theorem dL_shell_12 : decode cL_shell 12 = .ok (.goto 11, 3) := by decide +kernel
theorem dL_shell_15 : decode cL_shell 15 = .ok (.astore 5, 2) := by decide +kernel
theorem dL_shell_17 : decode cL_shell 17 = .ok (.iconst 1, 1) := by decide +kernel
theorem dL_shell_18 : decode cL_shell 18 = .ok (.ireturn, 1) := by decide +kernel
theorem dL_shell_19 : decode cL_shell 19 = .ok (.astore 5, 2) := by decide +kernel
theorem dL_shell_21 : decode cL_shell 21 = .ok (.iconst 2, 1) := by decide +kernel
theorem dL_shell_22 : decode cL_shell 22 = .ok (.ireturn, 1) := by decide +kernel
theorem dL_shell_23 : decode cL_shell 23 = .ok (.iconst 0, 1) := by decide +kernel
theorem dL_shell_24 : decode cL_shell 24 = .ok (.ireturn, 1) := by decide +kernel
theorem dL_star_0 : decode cL_star 0 = .ok (.aload_n 2, 1) := by decide +kernel
theorem dL_star_1 : decode cL_star 1 = .ok (.iconst 0, 1) := by decide +kernel
theorem dL_star_2 : decode cL_star 2 = .ok (.aload_n 0, 1) := by decide +kernel
theorem dL_star_3 : decode cL_star 3 = .ok (.iload_n 1, 1) := by decide +kernel
theorem dL_star_4 : decode cL_star 4 = .ok (.invokevirtual 17, 3) := by decide +kernel
theorem dL_star_7 : decode cL_star 7 = .ok (.i2l, 1) := by decide +kernel
theorem dL_star_8 : decode cL_star 8 = .ok (.lastore, 1) := by decide +kernel
theorem dL_star_9 : decode cL_star 9 = .ok (.goto 9, 3) := by decide +kernel
theorem dL_star_12 : decode cL_star 12 = .ok (.astore_n 3, 1) := by decide +kernel
theorem dL_star_13 : decode cL_star 13 = .ok (.iconst 1, 1) := by decide +kernel
theorem dL_star_14 : decode cL_star 14 = .ok (.ireturn, 1) := by decide +kernel
theorem dL_star_15 : decode cL_star 15 = .ok (.astore_n 3, 1) := by decide +kernel
theorem dL_star_16 : decode cL_star 16 = .ok (.iconst 2, 1) := by decide +kernel
theorem dL_star_17 : decode cL_star 17 = .ok (.ireturn, 1) := by decide +kernel
theorem dL_star_18 : decode cL_star 18 = .ok (.iconst 0, 1) := by decide +kernel
theorem dL_star_19 : decode cL_star 19 = .ok (.ireturn, 1) := by decide +kernel
theorem dL_frame_0 : decode cL_frame 0 = .ok (.aload 5, 2) := by decide +kernel
theorem dL_frame_2 : decode cL_frame 2 = .ok (.iconst 0, 1) := by decide +kernel
theorem dL_frame_3 : decode cL_frame 3 = .ok (.aload_n 0, 1) := by decide +kernel
theorem dL_frame_4 : decode cL_frame 4 = .ok (.iload_n 1, 1) := by decide +kernel
theorem dL_frame_5 : decode cL_frame 5 = .ok (.iload_n 2, 1) := by decide +kernel
theorem dL_frame_6 : decode cL_frame 6 = .ok (.iload_n 3, 1) := by decide +kernel
theorem dL_frame_7 : decode cL_frame 7 = .ok (.iload 4, 2) := by decide +kernel
theorem dL_frame_9 : decode cL_frame 9 = .ok (.invokevirtual 21, 3) := by decide +kernel
theorem dL_frame_12 : decode cL_frame 12 = .ok (.i2l, 1) := by decide +kernel
theorem dL_frame_13 : decode cL_frame 13 = .ok (.lastore, 1) := by decide +kernel
theorem dL_frame_14 : decode cL_frame 14 = .ok (.goto 11, 3) := by decide +kernel
theorem dL_frame_17 : decode cL_frame 17 = .ok (.astore 6, 2) := by decide +kernel
theorem dL_frame_19 : decode cL_frame 19 = .ok (.iconst 1, 1) := by decide +kernel
theorem dL_frame_20 : decode cL_frame 20 = .ok (.ireturn, 1) := by decide +kernel
theorem dL_frame_21 : decode cL_frame 21 = .ok (.astore 6, 2) := by decide +kernel
theorem dL_frame_23 : decode cL_frame 23 = .ok (.iconst 2, 1) := by decide +kernel
theorem dL_frame_24 : decode cL_frame 24 = .ok (.ireturn, 1) := by decide +kernel
theorem dL_frame_25 : decode cL_frame 25 = .ok (.iconst 0, 1) := by decide +kernel
theorem dL_frame_26 : decode cL_frame 26 = .ok (.ireturn, 1) := by decide +kernel
theorem dL_drop_0 : decode cL_drop 0 = .ok (.aload_n 3, 1) := by decide +kernel
theorem dL_drop_1 : decode cL_drop 1 = .ok (.iconst 0, 1) := by decide +kernel
theorem dL_drop_2 : decode cL_drop 2 = .ok (.aload_n 0, 1) := by decide +kernel
theorem dL_drop_3 : decode cL_drop 3 = .ok (.iload_n 1, 1) := by decide +kernel
theorem dL_drop_4 : decode cL_drop 4 = .ok (.iload_n 2, 1) := by decide +kernel
theorem dL_drop_5 : decode cL_drop 5 = .ok (.invokevirtual 27, 3) := by decide +kernel
theorem dL_drop_8 : decode cL_drop 8 = .ok (.i2l, 1) := by decide +kernel
theorem dL_drop_9 : decode cL_drop 9 = .ok (.lastore, 1) := by decide +kernel
theorem dL_drop_10 : decode cL_drop 10 = .ok (.goto 15, 3) := by decide +kernel
theorem dL_drop_13 : decode cL_drop 13 = .ok (.astore 4, 2) := by decide +kernel
theorem dL_drop_15 : decode cL_drop 15 = .ok (.iconst 1, 1) := by decide +kernel
theorem dL_drop_16 : decode cL_drop 16 = .ok (.ireturn, 1) := by decide +kernel
theorem dL_drop_17 : decode cL_drop 17 = .ok (.astore 4, 2) := by decide +kernel
theorem dL_drop_19 : decode cL_drop 19 = .ok (.iconst 2, 1) := by decide +kernel
theorem dL_drop_20 : decode cL_drop 20 = .ok (.ireturn, 1) := by decide +kernel
theorem dL_drop_21 : decode cL_drop 21 = .ok (.astore 4, 2) := by decide +kernel
theorem dL_drop_23 : decode cL_drop 23 = .ok (.iconst 3, 1) := by decide +kernel
theorem dL_drop_24 : decode cL_drop 24 = .ok (.ireturn, 1) := by decide +kernel
theorem dL_drop_25 : decode cL_drop 25 = .ok (.iconst 0, 1) := by decide +kernel
theorem dL_drop_26 : decode cL_drop 26 = .ok (.ireturn, 1) := by decide +kernel
theorem dL_mask_0 : decode cL_mask 0 = .ok (.aload_n 3, 1) := by decide +kernel
theorem dL_mask_1 : decode cL_mask 1 = .ok (.iconst 0, 1) := by decide +kernel
theorem dL_mask_2 : decode cL_mask 2 = .ok (.aload_n 0, 1) := by decide +kernel
theorem dL_mask_3 : decode cL_mask 3 = .ok (.iload_n 1, 1) := by decide +kernel
theorem dL_mask_4 : decode cL_mask 4 = .ok (.iload_n 2, 1) := by decide +kernel
theorem dL_mask_5 : decode cL_mask 5 = .ok (.invokevirtual 31, 3) := by decide +kernel
theorem dL_mask_8 : decode cL_mask 8 = .ok (.ifCond .eq 7, 3) := by decide +kernel
theorem dL_mask_11 : decode cL_mask 11 = .ok (.lconst 1, 1) := by decide +kernel
theorem dL_mask_12 : decode cL_mask 12 = .ok (.goto 4, 3) := by decide +kernel
theorem dL_mask_15 : decode cL_mask 15 = .ok (.lconst 0, 1) := by decide +kernel
theorem dL_mask_16 : decode cL_mask 16 = .ok (.lastore, 1) := by decide +kernel
theorem dL_mask_17 : decode cL_mask 17 = .ok (.goto 7, 3) := by decide +kernel
theorem dL_mask_20 : decode cL_mask 20 = .ok (.astore 4, 2) := by decide +kernel
theorem dL_mask_22 : decode cL_mask 22 = .ok (.iconst 1, 1) := by decide +kernel
theorem dL_mask_23 : decode cL_mask 23 = .ok (.ireturn, 1) := by decide +kernel
theorem dL_mask_24 : decode cL_mask 24 = .ok (.iconst 0, 1) := by decide +kernel
theorem dL_mask_25 : decode cL_mask 25 = .ok (.ireturn, 1) := by decide +kernel
theorem dL_threshold_0 : decode cL_threshold 0 = .ok (.aload_n 2, 1) := by decide +kernel
theorem dL_threshold_1 : decode cL_threshold 1 = .ok (.iconst 0, 1) := by decide +kernel
theorem dL_threshold_2 : decode cL_threshold 2 = .ok (.aload_n 0, 1) := by decide +kernel
theorem dL_threshold_3 : decode cL_threshold 3 = .ok (.iload_n 1, 1) := by decide +kernel
theorem dL_threshold_4 : decode cL_threshold 4 = .ok (.invokevirtual 35, 3) := by decide +kernel
theorem dL_threshold_7 : decode cL_threshold 7 = .ok (.i2l, 1) := by decide +kernel
theorem dL_threshold_8 : decode cL_threshold 8 = .ok (.lastore, 1) := by decide +kernel
theorem dL_threshold_9 : decode cL_threshold 9 = .ok (.goto 6, 3) := by decide +kernel
theorem dL_threshold_12 : decode cL_threshold 12 = .ok (.astore_n 3, 1) := by decide +kernel
theorem dL_threshold_13 : decode cL_threshold 13 = .ok (.iconst 1, 1) := by decide +kernel
theorem dL_threshold_14 : decode cL_threshold 14 = .ok (.ireturn, 1) := by decide +kernel
theorem dL_threshold_15 : decode cL_threshold 15 = .ok (.iconst 0, 1) := by decide +kernel
theorem dL_threshold_16 : decode cL_threshold 16 = .ok (.ireturn, 1) := by decide +kernel
theorem dL_takeOut_0 : decode cL_takeOut 0 = .ok (.aload_n 3, 1) := by decide +kernel
theorem dL_takeOut_1 : decode cL_takeOut 1 = .ok (.iconst 0, 1) := by decide +kernel
theorem dL_takeOut_2 : decode cL_takeOut 2 = .ok (.aload_n 0, 1) := by decide +kernel
theorem dL_takeOut_3 : decode cL_takeOut 3 = .ok (.iload_n 1, 1) := by decide +kernel
theorem dL_takeOut_4 : decode cL_takeOut 4 = .ok (.iload_n 2, 1) := by decide +kernel
theorem dL_takeOut_5 : decode cL_takeOut 5 = .ok (.invokevirtual 38, 3) := by decide +kernel
theorem dL_takeOut_8 : decode cL_takeOut 8 = .ok (.i2l, 1) := by decide +kernel
theorem dL_takeOut_9 : decode cL_takeOut 9 = .ok (.lastore, 1) := by decide +kernel
theorem dL_takeOut_10 : decode cL_takeOut 10 = .ok (.goto 15, 3) := by decide +kernel
theorem dL_takeOut_13 : decode cL_takeOut 13 = .ok (.astore 4, 2) := by decide +kernel
theorem dL_takeOut_15 : decode cL_takeOut 15 = .ok (.iconst 1, 1) := by decide +kernel
theorem dL_takeOut_16 : decode cL_takeOut 16 = .ok (.ireturn, 1) := by decide +kernel
theorem dL_takeOut_17 : decode cL_takeOut 17 = .ok (.astore 4, 2) := by decide +kernel
theorem dL_takeOut_19 : decode cL_takeOut 19 = .ok (.iconst 2, 1) := by decide +kernel
theorem dL_takeOut_20 : decode cL_takeOut 20 = .ok (.ireturn, 1) := by decide +kernel
theorem dL_takeOut_21 : decode cL_takeOut 21 = .ok (.astore 4, 2) := by decide +kernel
theorem dL_takeOut_23 : decode cL_takeOut 23 = .ok (.iconst 3, 1) := by decide +kernel
theorem dL_takeOut_24 : decode cL_takeOut 24 = .ok (.ireturn, 1) := by decide +kernel
theorem dL_takeOut_25 : decode cL_takeOut 25 = .ok (.iconst 0, 1) := by decide +kernel
theorem dL_takeOut_26 : decode cL_takeOut 26 = .ok (.ireturn, 1) := by decide +kernel
theorem dL_putBack_0 : decode cL_putBack 0 = .ok (.aload_n 2, 1) := by decide +kernel
theorem dL_putBack_1 : decode cL_putBack 1 = .ok (.iconst 0, 1) := by decide +kernel
theorem dL_putBack_2 : decode cL_putBack 2 = .ok (.aload_n 0, 1) := by decide +kernel
theorem dL_putBack_3 : decode cL_putBack 3 = .ok (.iload_n 1, 1) := by decide +kernel
theorem dL_putBack_4 : decode cL_putBack 4 = .ok (.invokevirtual 41, 3) := by decide +kernel
theorem dL_putBack_7 : decode cL_putBack 7 = .ok (.i2l, 1) := by decide +kernel
theorem dL_putBack_8 : decode cL_putBack 8 = .ok (.lastore, 1) := by decide +kernel
theorem dL_putBack_9 : decode cL_putBack 9 = .ok (.goto 6, 3) := by decide +kernel
theorem dL_putBack_12 : decode cL_putBack 12 = .ok (.astore_n 3, 1) := by decide +kernel
theorem dL_putBack_13 : decode cL_putBack 13 = .ok (.iconst 1, 1) := by decide +kernel
theorem dL_putBack_14 : decode cL_putBack 14 = .ok (.ireturn, 1) := by decide +kernel
theorem dL_putBack_15 : decode cL_putBack 15 = .ok (.iconst 0, 1) := by decide +kernel
theorem dL_putBack_16 : decode cL_putBack 16 = .ok (.ireturn, 1) := by decide +kernel
theorem dL_claimTone_0 : decode cL_claimTone 0 = .ok (.aload 4, 2) := by decide +kernel
theorem dL_claimTone_2 : decode cL_claimTone 2 = .ok (.iconst 0, 1) := by decide +kernel
theorem dL_claimTone_3 : decode cL_claimTone 3 = .ok (.aload_n 0, 1) := by decide +kernel
theorem dL_claimTone_4 : decode cL_claimTone 4 = .ok (.iload_n 1, 1) := by decide +kernel
theorem dL_claimTone_5 : decode cL_claimTone 5 = .ok (.iload_n 2, 1) := by decide +kernel
theorem dL_claimTone_6 : decode cL_claimTone 6 = .ok (.iload_n 3, 1) := by decide +kernel
theorem dL_claimTone_7 : decode cL_claimTone 7 = .ok (.invokevirtual 44, 3) := by decide +kernel
theorem dL_claimTone_10 : decode cL_claimTone 10 = .ok (.i2l, 1) := by decide +kernel
theorem dL_claimTone_11 : decode cL_claimTone 11 = .ok (.lastore, 1) := by decide +kernel
theorem dL_claimTone_12 : decode cL_claimTone 12 = .ok (.goto 11, 3) := by decide +kernel
theorem dL_claimTone_15 : decode cL_claimTone 15 = .ok (.astore 5, 2) := by decide +kernel
theorem dL_claimTone_17 : decode cL_claimTone 17 = .ok (.iconst 1, 1) := by decide +kernel
theorem dL_claimTone_18 : decode cL_claimTone 18 = .ok (.ireturn, 1) := by decide +kernel
theorem dL_claimTone_19 : decode cL_claimTone 19 = .ok (.astore 5, 2) := by decide +kernel
theorem dL_claimTone_21 : decode cL_claimTone 21 = .ok (.iconst 2, 1) := by decide +kernel
theorem dL_claimTone_22 : decode cL_claimTone 22 = .ok (.ireturn, 1) := by decide +kernel
theorem dL_claimTone_23 : decode cL_claimTone 23 = .ok (.iconst 0, 1) := by decide +kernel
theorem dL_claimTone_24 : decode cL_claimTone 24 = .ok (.ireturn, 1) := by decide +kernel
theorem dL_claimAge_0 : decode cL_claimAge 0 = .ok (.aload_n 3, 1) := by decide +kernel
theorem dL_claimAge_1 : decode cL_claimAge 1 = .ok (.iconst 0, 1) := by decide +kernel
theorem dL_claimAge_2 : decode cL_claimAge 2 = .ok (.aload_n 0, 1) := by decide +kernel
theorem dL_claimAge_3 : decode cL_claimAge 3 = .ok (.iload_n 1, 1) := by decide +kernel
theorem dL_claimAge_4 : decode cL_claimAge 4 = .ok (.iload_n 2, 1) := by decide +kernel
theorem dL_claimAge_5 : decode cL_claimAge 5 = .ok (.invokevirtual 47, 3) := by decide +kernel
theorem dL_claimAge_8 : decode cL_claimAge 8 = .ok (.i2l, 1) := by decide +kernel
theorem dL_claimAge_9 : decode cL_claimAge 9 = .ok (.lastore, 1) := by decide +kernel
theorem dL_claimAge_10 : decode cL_claimAge 10 = .ok (.goto 15, 3) := by decide +kernel
theorem dL_claimAge_13 : decode cL_claimAge 13 = .ok (.astore 4, 2) := by decide +kernel
theorem dL_claimAge_15 : decode cL_claimAge 15 = .ok (.iconst 1, 1) := by decide +kernel
theorem dL_claimAge_16 : decode cL_claimAge 16 = .ok (.ireturn, 1) := by decide +kernel
theorem dL_claimAge_17 : decode cL_claimAge 17 = .ok (.astore 4, 2) := by decide +kernel
theorem dL_claimAge_19 : decode cL_claimAge 19 = .ok (.iconst 2, 1) := by decide +kernel
theorem dL_claimAge_20 : decode cL_claimAge 20 = .ok (.ireturn, 1) := by decide +kernel
theorem dL_claimAge_21 : decode cL_claimAge 21 = .ok (.astore 4, 2) := by decide +kernel
theorem dL_claimAge_23 : decode cL_claimAge 23 = .ok (.iconst 3, 1) := by decide +kernel
theorem dL_claimAge_24 : decode cL_claimAge 24 = .ok (.ireturn, 1) := by decide +kernel
theorem dL_claimAge_25 : decode cL_claimAge 25 = .ok (.iconst 0, 1) := by decide +kernel
theorem dL_claimAge_26 : decode cL_claimAge 26 = .ok (.ireturn, 1) := by decide +kernel
theorem dL_claimPlanet_0 : decode cL_claimPlanet 0 = .ok (.aload_n 2, 1) := by decide +kernel
theorem dL_claimPlanet_1 : decode cL_claimPlanet 1 = .ok (.iconst 0, 1) := by decide +kernel
theorem dL_claimPlanet_2 : decode cL_claimPlanet 2 = .ok (.aload_n 0, 1) := by decide +kernel
theorem dL_claimPlanet_3 : decode cL_claimPlanet 3 = .ok (.iload_n 1, 1) := by decide +kernel
theorem dL_claimPlanet_4 : decode cL_claimPlanet 4 = .ok (.invokevirtual 50, 3) := by decide +kernel
theorem dL_claimPlanet_7 : decode cL_claimPlanet 7 = .ok (.i2l, 1) := by decide +kernel
theorem dL_claimPlanet_8 : decode cL_claimPlanet 8 = .ok (.lastore, 1) := by decide +kernel
theorem dL_claimPlanet_9 : decode cL_claimPlanet 9 = .ok (.goto 12, 3) := by decide +kernel
theorem dL_claimPlanet_12 : decode cL_claimPlanet 12 = .ok (.astore_n 3, 1) := by decide +kernel
theorem dL_claimPlanet_13 : decode cL_claimPlanet 13 = .ok (.iconst 1, 1) := by decide +kernel
theorem dL_claimPlanet_14 : decode cL_claimPlanet 14 = .ok (.ireturn, 1) := by decide +kernel
theorem dL_claimPlanet_15 : decode cL_claimPlanet 15 = .ok (.astore_n 3, 1) := by decide +kernel
theorem dL_claimPlanet_16 : decode cL_claimPlanet 16 = .ok (.iconst 2, 1) := by decide +kernel
theorem dL_claimPlanet_17 : decode cL_claimPlanet 17 = .ok (.ireturn, 1) := by decide +kernel
theorem dL_claimPlanet_18 : decode cL_claimPlanet 18 = .ok (.astore_n 3, 1) := by decide +kernel
theorem dL_claimPlanet_19 : decode cL_claimPlanet 19 = .ok (.iconst 3, 1) := by decide +kernel
theorem dL_claimPlanet_20 : decode cL_claimPlanet 20 = .ok (.ireturn, 1) := by decide +kernel
theorem dL_claimPlanet_21 : decode cL_claimPlanet 21 = .ok (.iconst 0, 1) := by decide +kernel
theorem dL_claimPlanet_22 : decode cL_claimPlanet 22 = .ok (.ireturn, 1) := by decide +kernel
theorem dL_cite_0 : decode cL_cite 0 = .ok (.aload_n 3, 1) := by decide +kernel
theorem dL_cite_1 : decode cL_cite 1 = .ok (.iconst 0, 1) := by decide +kernel
theorem dL_cite_2 : decode cL_cite 2 = .ok (.aload_n 0, 1) := by decide +kernel
theorem dL_cite_3 : decode cL_cite 3 = .ok (.iload_n 1, 1) := by decide +kernel
theorem dL_cite_4 : decode cL_cite 4 = .ok (.iload_n 2, 1) := by decide +kernel
theorem dL_cite_5 : decode cL_cite 5 = .ok (.invokevirtual 53, 3) := by decide +kernel
theorem dL_cite_8 : decode cL_cite 8 = .ok (.i2l, 1) := by decide +kernel
theorem dL_cite_9 : decode cL_cite 9 = .ok (.lastore, 1) := by decide +kernel
theorem dL_cite_10 : decode cL_cite 10 = .ok (.goto 15, 3) := by decide +kernel
theorem dL_cite_13 : decode cL_cite 13 = .ok (.astore 4, 2) := by decide +kernel
theorem dL_cite_15 : decode cL_cite 15 = .ok (.iconst 1, 1) := by decide +kernel
theorem dL_cite_16 : decode cL_cite 16 = .ok (.ireturn, 1) := by decide +kernel
theorem dL_cite_17 : decode cL_cite 17 = .ok (.astore 4, 2) := by decide +kernel
theorem dL_cite_19 : decode cL_cite 19 = .ok (.iconst 2, 1) := by decide +kernel
theorem dL_cite_20 : decode cL_cite 20 = .ok (.ireturn, 1) := by decide +kernel
theorem dL_cite_21 : decode cL_cite 21 = .ok (.astore 4, 2) := by decide +kernel
theorem dL_cite_23 : decode cL_cite 23 = .ok (.iconst 3, 1) := by decide +kernel
theorem dL_cite_24 : decode cL_cite 24 = .ok (.ireturn, 1) := by decide +kernel
theorem dL_cite_25 : decode cL_cite 25 = .ok (.iconst 0, 1) := by decide +kernel
theorem dL_cite_26 : decode cL_cite 26 = .ok (.ireturn, 1) := by decide +kernel
theorem dL_withdraw_0 : decode cL_withdraw 0 = .ok (.aload_n 2, 1) := by decide +kernel
theorem dL_withdraw_1 : decode cL_withdraw 1 = .ok (.iconst 0, 1) := by decide +kernel
theorem dL_withdraw_2 : decode cL_withdraw 2 = .ok (.aload_n 0, 1) := by decide +kernel
theorem dL_withdraw_3 : decode cL_withdraw 3 = .ok (.iload_n 1, 1) := by decide +kernel
theorem dL_withdraw_4 : decode cL_withdraw 4 = .ok (.invokevirtual 56, 3) := by decide +kernel
theorem dL_withdraw_7 : decode cL_withdraw 7 = .ok (.i2l, 1) := by decide +kernel
theorem dL_withdraw_8 : decode cL_withdraw 8 = .ok (.lastore, 1) := by decide +kernel
theorem dL_withdraw_9 : decode cL_withdraw 9 = .ok (.goto 9, 3) := by decide +kernel
theorem dL_withdraw_12 : decode cL_withdraw 12 = .ok (.astore_n 3, 1) := by decide +kernel
theorem dL_withdraw_13 : decode cL_withdraw 13 = .ok (.iconst 1, 1) := by decide +kernel
theorem dL_withdraw_14 : decode cL_withdraw 14 = .ok (.ireturn, 1) := by decide +kernel
theorem dL_withdraw_15 : decode cL_withdraw 15 = .ok (.astore_n 3, 1) := by decide +kernel
theorem dL_withdraw_16 : decode cL_withdraw 16 = .ok (.iconst 2, 1) := by decide +kernel
theorem dL_withdraw_17 : decode cL_withdraw 17 = .ok (.ireturn, 1) := by decide +kernel
theorem dL_withdraw_18 : decode cL_withdraw 18 = .ok (.iconst 0, 1) := by decide +kernel
theorem dL_withdraw_19 : decode cL_withdraw 19 = .ok (.ireturn, 1) := by decide +kernel
theorem dL_ofStar_0 : decode cL_ofStar 0 = .ok (.aload_n 3, 1) := by decide +kernel
theorem dL_ofStar_1 : decode cL_ofStar 1 = .ok (.iconst 0, 1) := by decide +kernel
theorem dL_ofStar_2 : decode cL_ofStar 2 = .ok (.aload_n 0, 1) := by decide +kernel
theorem dL_ofStar_3 : decode cL_ofStar 3 = .ok (.iload_n 1, 1) := by decide +kernel
theorem dL_ofStar_4 : decode cL_ofStar 4 = .ok (.iload_n 2, 1) := by decide +kernel
theorem dL_ofStar_5 : decode cL_ofStar 5 = .ok (.invokevirtual 59, 3) := by decide +kernel
theorem dL_ofStar_8 : decode cL_ofStar 8 = .ok (.i2l, 1) := by decide +kernel
theorem dL_ofStar_9 : decode cL_ofStar 9 = .ok (.lastore, 1) := by decide +kernel
theorem dL_ofStar_10 : decode cL_ofStar 10 = .ok (.goto 11, 3) := by decide +kernel
theorem dL_ofStar_13 : decode cL_ofStar 13 = .ok (.astore 4, 2) := by decide +kernel
theorem dL_ofStar_15 : decode cL_ofStar 15 = .ok (.iconst 1, 1) := by decide +kernel
theorem dL_ofStar_16 : decode cL_ofStar 16 = .ok (.ireturn, 1) := by decide +kernel
theorem dL_ofStar_17 : decode cL_ofStar 17 = .ok (.astore 4, 2) := by decide +kernel
theorem dL_ofStar_19 : decode cL_ofStar 19 = .ok (.iconst 2, 1) := by decide +kernel
theorem dL_ofStar_20 : decode cL_ofStar 20 = .ok (.ireturn, 1) := by decide +kernel
theorem dL_ofStar_21 : decode cL_ofStar 21 = .ok (.iconst 0, 1) := by decide +kernel
theorem dL_ofStar_22 : decode cL_ofStar 22 = .ok (.ireturn, 1) := by decide +kernel
theorem dL_crossingAnew_0 : decode cL_crossingAnew 0 = .ok (.aload_n 2, 1) := by decide +kernel
theorem dL_crossingAnew_1 : decode cL_crossingAnew 1 = .ok (.iconst 0, 1) := by decide +kernel
theorem dL_crossingAnew_2 : decode cL_crossingAnew 2 = .ok (.aload_n 0, 1) := by decide +kernel
theorem dL_crossingAnew_3 : decode cL_crossingAnew 3 = .ok (.iload_n 1, 1) := by decide +kernel
theorem dL_crossingAnew_4 : decode cL_crossingAnew 4 = .ok (.invokevirtual 62, 3) := by decide +kernel
theorem dL_crossingAnew_7 : decode cL_crossingAnew 7 = .ok (.i2l, 1) := by decide +kernel
theorem dL_crossingAnew_8 : decode cL_crossingAnew 8 = .ok (.lastore, 1) := by decide +kernel
theorem dL_crossingAnew_9 : decode cL_crossingAnew 9 = .ok (.goto 6, 3) := by decide +kernel
theorem dL_crossingAnew_12 : decode cL_crossingAnew 12 = .ok (.astore_n 3, 1) := by decide +kernel
theorem dL_crossingAnew_13 : decode cL_crossingAnew 13 = .ok (.iconst 1, 1) := by decide +kernel
theorem dL_crossingAnew_14 : decode cL_crossingAnew 14 = .ok (.ireturn, 1) := by decide +kernel
theorem dL_crossingAnew_15 : decode cL_crossingAnew 15 = .ok (.iconst 0, 1) := by decide +kernel
theorem dL_crossingAnew_16 : decode cL_crossingAnew 16 = .ok (.ireturn, 1) := by decide +kernel
theorem dL_tone_0 : decode cL_tone 0 = .ok (.aload 5, 2) := by decide +kernel
theorem dL_tone_2 : decode cL_tone 2 = .ok (.iconst 0, 1) := by decide +kernel
theorem dL_tone_3 : decode cL_tone 3 = .ok (.aload_n 0, 1) := by decide +kernel
theorem dL_tone_4 : decode cL_tone 4 = .ok (.iload_n 1, 1) := by decide +kernel
theorem dL_tone_5 : decode cL_tone 5 = .ok (.iload_n 2, 1) := by decide +kernel
theorem dL_tone_6 : decode cL_tone 6 = .ok (.iload_n 3, 1) := by decide +kernel
theorem dL_tone_7 : decode cL_tone 7 = .ok (.iload 4, 2) := by decide +kernel
theorem dL_tone_9 : decode cL_tone 9 = .ok (.invokevirtual 65, 3) := by decide +kernel
theorem dL_tone_12 : decode cL_tone 12 = .ok (.i2l, 1) := by decide +kernel
theorem dL_tone_13 : decode cL_tone 13 = .ok (.lastore, 1) := by decide +kernel
theorem dL_tone_14 : decode cL_tone 14 = .ok (.goto 11, 3) := by decide +kernel
theorem dL_tone_17 : decode cL_tone 17 = .ok (.astore 6, 2) := by decide +kernel
theorem dL_tone_19 : decode cL_tone 19 = .ok (.iconst 1, 1) := by decide +kernel
theorem dL_tone_20 : decode cL_tone 20 = .ok (.ireturn, 1) := by decide +kernel
theorem dL_tone_21 : decode cL_tone 21 = .ok (.astore 6, 2) := by decide +kernel
theorem dL_tone_23 : decode cL_tone 23 = .ok (.iconst 2, 1) := by decide +kernel
theorem dL_tone_24 : decode cL_tone 24 = .ok (.ireturn, 1) := by decide +kernel
theorem dL_tone_25 : decode cL_tone 25 = .ok (.iconst 0, 1) := by decide +kernel
theorem dL_tone_26 : decode cL_tone 26 = .ok (.ireturn, 1) := by decide +kernel
theorem dL_frames_0 : decode cL_frames 0 = .ok (.aload_n 2, 1) := by decide +kernel
theorem dL_frames_1 : decode cL_frames 1 = .ok (.iconst 0, 1) := by decide +kernel
theorem dL_frames_2 : decode cL_frames 2 = .ok (.aload_n 0, 1) := by decide +kernel
theorem dL_frames_3 : decode cL_frames 3 = .ok (.iload_n 1, 1) := by decide +kernel
theorem dL_frames_4 : decode cL_frames 4 = .ok (.invokevirtual 68, 3) := by decide +kernel
theorem dL_frames_7 : decode cL_frames 7 = .ok (.i2l, 1) := by decide +kernel
theorem dL_frames_8 : decode cL_frames 8 = .ok (.lastore, 1) := by decide +kernel
theorem dL_frames_9 : decode cL_frames 9 = .ok (.goto 6, 3) := by decide +kernel
theorem dL_frames_12 : decode cL_frames 12 = .ok (.astore_n 3, 1) := by decide +kernel
theorem dL_frames_13 : decode cL_frames 13 = .ok (.iconst 1, 1) := by decide +kernel
theorem dL_frames_14 : decode cL_frames 14 = .ok (.ireturn, 1) := by decide +kernel
theorem dL_frames_15 : decode cL_frames 15 = .ok (.iconst 0, 1) := by decide +kernel
theorem dL_frames_16 : decode cL_frames 16 = .ok (.ireturn, 1) := by decide +kernel
theorem dL_value_0 : decode cL_value 0 = .ok (.aload 4, 2) := by decide +kernel
theorem dL_value_2 : decode cL_value 2 = .ok (.iconst 0, 1) := by decide +kernel
theorem dL_value_3 : decode cL_value 3 = .ok (.aload_n 0, 1) := by decide +kernel
theorem dL_value_4 : decode cL_value 4 = .ok (.iload_n 1, 1) := by decide +kernel
theorem dL_value_5 : decode cL_value 5 = .ok (.iload_n 2, 1) := by decide +kernel
theorem dL_value_6 : decode cL_value 6 = .ok (.iload_n 3, 1) := by decide +kernel
theorem dL_value_7 : decode cL_value 7 = .ok (.invokevirtual 71, 3) := by decide +kernel
theorem dL_value_10 : decode cL_value 10 = .ok (.i2l, 1) := by decide +kernel
theorem dL_value_11 : decode cL_value 11 = .ok (.lastore, 1) := by decide +kernel
theorem dL_value_12 : decode cL_value 12 = .ok (.goto 11, 3) := by decide +kernel
theorem dL_value_15 : decode cL_value 15 = .ok (.astore 5, 2) := by decide +kernel
theorem dL_value_17 : decode cL_value 17 = .ok (.iconst 1, 1) := by decide +kernel
theorem dL_value_18 : decode cL_value 18 = .ok (.ireturn, 1) := by decide +kernel
theorem dL_value_19 : decode cL_value 19 = .ok (.astore 5, 2) := by decide +kernel
theorem dL_value_21 : decode cL_value 21 = .ok (.iconst 2, 1) := by decide +kernel
theorem dL_value_22 : decode cL_value 22 = .ok (.ireturn, 1) := by decide +kernel
theorem dL_value_23 : decode cL_value 23 = .ok (.iconst 0, 1) := by decide +kernel
theorem dL_value_24 : decode cL_value 24 = .ok (.ireturn, 1) := by decide +kernel
theorem dL_power_0 : decode cL_power 0 = .ok (.aload 4, 2) := by decide +kernel
theorem dL_power_2 : decode cL_power 2 = .ok (.iconst 0, 1) := by decide +kernel
theorem dL_power_3 : decode cL_power 3 = .ok (.aload_n 0, 1) := by decide +kernel
theorem dL_power_4 : decode cL_power 4 = .ok (.iload_n 1, 1) := by decide +kernel
theorem dL_power_5 : decode cL_power 5 = .ok (.iload_n 2, 1) := by decide +kernel
theorem dL_power_6 : decode cL_power 6 = .ok (.iload_n 3, 1) := by decide +kernel
theorem dL_power_7 : decode cL_power 7 = .ok (.invokevirtual 74, 3) := by decide +kernel
theorem dL_power_10 : decode cL_power 10 = .ok (.lastore, 1) := by decide +kernel
theorem dL_power_11 : decode cL_power 11 = .ok (.goto 11, 3) := by decide +kernel
theorem dL_power_14 : decode cL_power 14 = .ok (.astore 5, 2) := by decide +kernel
theorem dL_power_16 : decode cL_power 16 = .ok (.iconst 1, 1) := by decide +kernel
theorem dL_power_17 : decode cL_power 17 = .ok (.ireturn, 1) := by decide +kernel
theorem dL_power_18 : decode cL_power 18 = .ok (.astore 5, 2) := by decide +kernel
theorem dL_power_20 : decode cL_power 20 = .ok (.iconst 2, 1) := by decide +kernel
theorem dL_power_21 : decode cL_power 21 = .ok (.ireturn, 1) := by decide +kernel
theorem dL_power_22 : decode cL_power 22 = .ok (.iconst 0, 1) := by decide +kernel
theorem dL_power_23 : decode cL_power 23 = .ok (.ireturn, 1) := by decide +kernel
theorem dL_window_0 : decode cL_window 0 = .ok (.aload_n 3, 1) := by decide +kernel
theorem dL_window_1 : decode cL_window 1 = .ok (.iconst 0, 1) := by decide +kernel
theorem dL_window_2 : decode cL_window 2 = .ok (.aload_n 0, 1) := by decide +kernel
theorem dL_window_3 : decode cL_window 3 = .ok (.iload_n 1, 1) := by decide +kernel
theorem dL_window_4 : decode cL_window 4 = .ok (.iload_n 2, 1) := by decide +kernel
theorem dL_window_5 : decode cL_window 5 = .ok (.invokevirtual 78, 3) := by decide +kernel
theorem dL_window_8 : decode cL_window 8 = .ok (.lastore, 1) := by decide +kernel
theorem dL_window_9 : decode cL_window 9 = .ok (.goto 11, 3) := by decide +kernel
theorem dL_window_12 : decode cL_window 12 = .ok (.astore 4, 2) := by decide +kernel
theorem dL_window_14 : decode cL_window 14 = .ok (.iconst 1, 1) := by decide +kernel
theorem dL_window_15 : decode cL_window 15 = .ok (.ireturn, 1) := by decide +kernel
theorem dL_window_16 : decode cL_window 16 = .ok (.astore 4, 2) := by decide +kernel
theorem dL_window_18 : decode cL_window 18 = .ok (.iconst 2, 1) := by decide +kernel
theorem dL_window_19 : decode cL_window 19 = .ok (.ireturn, 1) := by decide +kernel
theorem dL_window_20 : decode cL_window 20 = .ok (.iconst 0, 1) := by decide +kernel
theorem dL_window_21 : decode cL_window 21 = .ok (.ireturn, 1) := by decide +kernel
theorem dL_isPeak_0 : decode cL_isPeak 0 = .ok (.aload 4, 2) := by decide +kernel
theorem dL_isPeak_2 : decode cL_isPeak 2 = .ok (.iconst 0, 1) := by decide +kernel
theorem dL_isPeak_3 : decode cL_isPeak 3 = .ok (.aload_n 0, 1) := by decide +kernel
theorem dL_isPeak_4 : decode cL_isPeak 4 = .ok (.iload_n 1, 1) := by decide +kernel
theorem dL_isPeak_5 : decode cL_isPeak 5 = .ok (.iload_n 2, 1) := by decide +kernel
theorem dL_isPeak_6 : decode cL_isPeak 6 = .ok (.iload_n 3, 1) := by decide +kernel
theorem dL_isPeak_7 : decode cL_isPeak 7 = .ok (.invokevirtual 82, 3) := by decide +kernel
theorem dL_isPeak_10 : decode cL_isPeak 10 = .ok (.ifCond .eq 7, 3) := by decide +kernel
theorem dL_isPeak_13 : decode cL_isPeak 13 = .ok (.lconst 1, 1) := by decide +kernel
theorem dL_isPeak_14 : decode cL_isPeak 14 = .ok (.goto 4, 3) := by decide +kernel
theorem dL_isPeak_17 : decode cL_isPeak 17 = .ok (.lconst 0, 1) := by decide +kernel
theorem dL_isPeak_18 : decode cL_isPeak 18 = .ok (.lastore, 1) := by decide +kernel
theorem dL_isPeak_19 : decode cL_isPeak 19 = .ok (.goto 7, 3) := by decide +kernel
theorem dL_isPeak_22 : decode cL_isPeak 22 = .ok (.astore 5, 2) := by decide +kernel
theorem dL_isPeak_24 : decode cL_isPeak 24 = .ok (.iconst 1, 1) := by decide +kernel
theorem dL_isPeak_25 : decode cL_isPeak 25 = .ok (.ireturn, 1) := by decide +kernel
theorem dL_isPeak_26 : decode cL_isPeak 26 = .ok (.iconst 0, 1) := by decide +kernel
theorem dL_isPeak_27 : decode cL_isPeak 27 = .ok (.ireturn, 1) := by decide +kernel
theorem dL_isSeenThrough_0 : decode cL_isSeenThrough 0 = .ok (.aload 5, 2) := by decide +kernel
theorem dL_isSeenThrough_2 : decode cL_isSeenThrough 2 = .ok (.iconst 0, 1) := by decide +kernel
theorem dL_isSeenThrough_3 : decode cL_isSeenThrough 3 = .ok (.aload_n 0, 1) := by decide +kernel
theorem dL_isSeenThrough_4 : decode cL_isSeenThrough 4 = .ok (.iload_n 1, 1) := by decide +kernel
theorem dL_isSeenThrough_5 : decode cL_isSeenThrough 5 = .ok (.iload_n 2, 1) := by decide +kernel
theorem dL_isSeenThrough_6 : decode cL_isSeenThrough 6 = .ok (.iload_n 3, 1) := by decide +kernel
theorem dL_isSeenThrough_7 : decode cL_isSeenThrough 7 = .ok (.iload 4, 2) := by decide +kernel
theorem dL_isSeenThrough_9 : decode cL_isSeenThrough 9 = .ok (.invokevirtual 86, 3) := by decide +kernel
theorem dL_isSeenThrough_12 : decode cL_isSeenThrough 12 = .ok (.ifCond .eq 7, 3) := by decide +kernel
theorem dL_isSeenThrough_15 : decode cL_isSeenThrough 15 = .ok (.lconst 1, 1) := by decide +kernel
theorem dL_isSeenThrough_16 : decode cL_isSeenThrough 16 = .ok (.goto 4, 3) := by decide +kernel
theorem dL_isSeenThrough_19 : decode cL_isSeenThrough 19 = .ok (.lconst 0, 1) := by decide +kernel
theorem dL_isSeenThrough_20 : decode cL_isSeenThrough 20 = .ok (.lastore, 1) := by decide +kernel
theorem dL_isSeenThrough_21 : decode cL_isSeenThrough 21 = .ok (.goto 11, 3) := by decide +kernel
theorem dL_isSeenThrough_24 : decode cL_isSeenThrough 24 = .ok (.astore 6, 2) := by decide +kernel
theorem dL_isSeenThrough_26 : decode cL_isSeenThrough 26 = .ok (.iconst 1, 1) := by decide +kernel
theorem dL_isSeenThrough_27 : decode cL_isSeenThrough 27 = .ok (.ireturn, 1) := by decide +kernel
theorem dL_isSeenThrough_28 : decode cL_isSeenThrough 28 = .ok (.astore 6, 2) := by decide +kernel
theorem dL_isSeenThrough_30 : decode cL_isSeenThrough 30 = .ok (.iconst 2, 1) := by decide +kernel
theorem dL_isSeenThrough_31 : decode cL_isSeenThrough 31 = .ok (.ireturn, 1) := by decide +kernel
theorem dL_isSeenThrough_32 : decode cL_isSeenThrough 32 = .ok (.iconst 0, 1) := by decide +kernel
theorem dL_isSeenThrough_33 : decode cL_isSeenThrough 33 = .ok (.ireturn, 1) := by decide +kernel
theorem dL_ofClaim_0 : decode cL_ofClaim 0 = .ok (.aload_n 3, 1) := by decide +kernel
theorem dL_ofClaim_1 : decode cL_ofClaim 1 = .ok (.iconst 0, 1) := by decide +kernel
theorem dL_ofClaim_2 : decode cL_ofClaim 2 = .ok (.aload_n 0, 1) := by decide +kernel
theorem dL_ofClaim_3 : decode cL_ofClaim 3 = .ok (.iload_n 1, 1) := by decide +kernel
theorem dL_ofClaim_4 : decode cL_ofClaim 4 = .ok (.iload_n 2, 1) := by decide +kernel
theorem dL_ofClaim_5 : decode cL_ofClaim 5 = .ok (.invokevirtual 90, 3) := by decide +kernel
theorem dL_ofClaim_8 : decode cL_ofClaim 8 = .ok (.i2l, 1) := by decide +kernel
theorem dL_ofClaim_9 : decode cL_ofClaim 9 = .ok (.lastore, 1) := by decide +kernel
theorem dL_ofClaim_10 : decode cL_ofClaim 10 = .ok (.goto 11, 3) := by decide +kernel
theorem dL_ofClaim_13 : decode cL_ofClaim 13 = .ok (.astore 4, 2) := by decide +kernel
theorem dL_ofClaim_15 : decode cL_ofClaim 15 = .ok (.iconst 1, 1) := by decide +kernel
theorem dL_ofClaim_16 : decode cL_ofClaim 16 = .ok (.ireturn, 1) := by decide +kernel
theorem dL_ofClaim_17 : decode cL_ofClaim 17 = .ok (.astore 4, 2) := by decide +kernel
theorem dL_ofClaim_19 : decode cL_ofClaim 19 = .ok (.iconst 2, 1) := by decide +kernel
theorem dL_ofClaim_20 : decode cL_ofClaim 20 = .ok (.ireturn, 1) := by decide +kernel
theorem dL_ofClaim_21 : decode cL_ofClaim 21 = .ok (.iconst 0, 1) := by decide +kernel
theorem dL_ofClaim_22 : decode cL_ofClaim 22 = .ok (.ireturn, 1) := by decide +kernel
theorem dL_isSound_0 : decode cL_isSound 0 = .ok (.aload_n 2, 1) := by decide +kernel
theorem dL_isSound_1 : decode cL_isSound 1 = .ok (.iconst 0, 1) := by decide +kernel
theorem dL_isSound_2 : decode cL_isSound 2 = .ok (.aload_n 0, 1) := by decide +kernel
theorem dL_isSound_3 : decode cL_isSound 3 = .ok (.iload_n 1, 1) := by decide +kernel
theorem dL_isSound_4 : decode cL_isSound 4 = .ok (.invokevirtual 93, 3) := by decide +kernel
theorem dL_isSound_7 : decode cL_isSound 7 = .ok (.ifCond .eq 7, 3) := by decide +kernel
theorem dL_isSound_10 : decode cL_isSound 10 = .ok (.lconst 1, 1) := by decide +kernel
theorem dL_isSound_11 : decode cL_isSound 11 = .ok (.goto 4, 3) := by decide +kernel
theorem dL_isSound_14 : decode cL_isSound 14 = .ok (.lconst 0, 1) := by decide +kernel
theorem dL_isSound_15 : decode cL_isSound 15 = .ok (.lastore, 1) := by decide +kernel
theorem dL_isSound_16 : decode cL_isSound 16 = .ok (.goto 6, 3) := by decide +kernel
theorem dL_isSound_19 : decode cL_isSound 19 = .ok (.astore_n 3, 1) := by decide +kernel
theorem dL_isSound_20 : decode cL_isSound 20 = .ok (.iconst 1, 1) := by decide +kernel
theorem dL_isSound_21 : decode cL_isSound 21 = .ok (.ireturn, 1) := by decide +kernel
theorem dL_isSound_22 : decode cL_isSound 22 = .ok (.iconst 0, 1) := by decide +kernel
theorem dL_isSound_23 : decode cL_isSound 23 = .ok (.ireturn, 1) := by decide +kernel
theorem dL_law_0 : decode cL_law 0 = .ok (.new 8, 3) := by decide +kernel
theorem dL_law_3 : decode cL_law 3 = .ok (.dup, 1) := by decide +kernel
theorem dL_law_4 : decode cL_law 4 = .ok (.invokespecial 97, 3) := by decide +kernel
theorem dL_law_7 : decode cL_law 7 = .ok (.astore_n 1, 1) := by decide +kernel
theorem dL_law_8 : decode cL_law 8 = .ok (.new 98, 3) := by decide +kernel
theorem dL_law_11 : decode cL_law 11 = .ok (.dup, 1) := by decide +kernel
theorem dL_law_12 : decode cL_law 12 = .ok (.invokespecial 100, 3) := by decide +kernel
theorem dL_law_15 : decode cL_law 15 = .ok (.astore_n 2, 1) := by decide +kernel
theorem dL_law_16 : decode cL_law 16 = .ok (.iconst 1, 1) := by decide +kernel
theorem dL_law_17 : decode cL_law 17 = .ok (.newarray .long, 2) := by decide +kernel
theorem dL_law_19 : decode cL_law 19 = .ok (.astore_n 3, 1) := by decide +kernel
theorem dL_law_20 : decode cL_law 20 = .ok (.iconst 0, 1) := by decide +kernel
theorem dL_law_21 : decode cL_law 21 = .ok (.istore 4, 2) := by decide +kernel
theorem dL_law_23 : decode cL_law 23 = .ok (.iload 4, 2) := by decide +kernel
theorem dL_law_25 : decode cL_law 25 = .ok (.aload_n 0, 1) := by decide +kernel
theorem dL_law_26 : decode cL_law 26 = .ok (.arraylength, 1) := by decide +kernel
theorem dL_law_27 : decode cL_law 27 = .ok (.iconst 5, 1) := by decide +kernel
theorem dL_law_28 : decode cL_law 28 = .ok (.isub, 1) := by decide +kernel
theorem dL_law_29 : decode cL_law 29 = .ok (.if_icmp .gt 1852, 3) := by decide +kernel
theorem dL_law_32 : decode cL_law 32 = .ok (.aload_n 0, 1) := by decide +kernel
theorem dL_law_33 : decode cL_law 33 = .ok (.iload 4, 2) := by decide +kernel
theorem dL_law_35 : decode cL_law 35 = .ok (.iaload, 1) := by decide +kernel
theorem dL_law_36 : decode cL_law 36 = .ok (.bipush 31, 2) := by decide +kernel
theorem dL_law_38 : decode cL_law 38 = .ok (.iand, 1) := by decide +kernel
theorem dL_law_39 : decode cL_law 39 = .ok (.tableswitch 1836 0 24 #[113, 193, 249, 341, 409, 500, 556, 624, 680, 760, 828, 884, 952, 1008, 1021, 1089, 1145, 1237, 1293, 1373, 1452, 1519, 1606, 1705, 1773], 113) := by decide +kernel
theorem dL_law_152 : decode cL_law 152 = .ok (.aload_n 1, 1) := by decide +kernel
theorem dL_law_153 : decode cL_law 153 = .ok (.aload_n 0, 1) := by decide +kernel
theorem dL_law_154 : decode cL_law 154 = .ok (.iload 4, 2) := by decide +kernel
theorem dL_law_156 : decode cL_law 156 = .ok (.iconst 1, 1) := by decide +kernel
theorem dL_law_157 : decode cL_law 157 = .ok (.iadd, 1) := by decide +kernel
theorem dL_law_158 : decode cL_law 158 = .ok (.iaload, 1) := by decide +kernel
theorem dL_law_159 : decode cL_law 159 = .ok (.aload_n 0, 1) := by decide +kernel
theorem dL_law_160 : decode cL_law 160 = .ok (.iload 4, 2) := by decide +kernel
theorem dL_law_162 : decode cL_law 162 = .ok (.iconst 2, 1) := by decide +kernel
theorem dL_law_163 : decode cL_law 163 = .ok (.iadd, 1) := by decide +kernel
theorem dL_law_164 : decode cL_law 164 = .ok (.iaload, 1) := by decide +kernel
theorem dL_law_165 : decode cL_law 165 = .ok (.aload_n 0, 1) := by decide +kernel
theorem dL_law_166 : decode cL_law 166 = .ok (.iload 4, 2) := by decide +kernel
theorem dL_law_168 : decode cL_law 168 = .ok (.iconst 3, 1) := by decide +kernel
theorem dL_law_169 : decode cL_law 169 = .ok (.iadd, 1) := by decide +kernel
theorem dL_law_170 : decode cL_law 170 = .ok (.iaload, 1) := by decide +kernel
theorem dL_law_171 : decode cL_law 171 = .ok (.aload_n 3, 1) := by decide +kernel
theorem dL_law_172 : decode cL_law 172 = .ok (.invokestatic 101, 3) := by decide +kernel
theorem dL_law_175 : decode cL_law 175 = .ok (.istore 5, 2) := by decide +kernel
theorem dL_law_177 : decode cL_law 177 = .ok (.aload_n 2, 1) := by decide +kernel
theorem dL_law_178 : decode cL_law 178 = .ok (.aload_n 0, 1) := by decide +kernel
theorem dL_law_179 : decode cL_law 179 = .ok (.iload 4, 2) := by decide +kernel
theorem dL_law_181 : decode cL_law 181 = .ok (.iconst 1, 1) := by decide +kernel
theorem dL_law_182 : decode cL_law 182 = .ok (.iadd, 1) := by decide +kernel
theorem dL_law_183 : decode cL_law 183 = .ok (.iaload, 1) := by decide +kernel
theorem dL_law_184 : decode cL_law 184 = .ok (.aload_n 0, 1) := by decide +kernel
theorem dL_law_185 : decode cL_law 185 = .ok (.iload 4, 2) := by decide +kernel
theorem dL_law_187 : decode cL_law 187 = .ok (.iconst 2, 1) := by decide +kernel
theorem dL_law_188 : decode cL_law 188 = .ok (.iadd, 1) := by decide +kernel
theorem dL_law_189 : decode cL_law 189 = .ok (.iaload, 1) := by decide +kernel
theorem dL_law_190 : decode cL_law 190 = .ok (.aload_n 0, 1) := by decide +kernel
theorem dL_law_191 : decode cL_law 191 = .ok (.iload 4, 2) := by decide +kernel
theorem dL_law_193 : decode cL_law 193 = .ok (.iconst 3, 1) := by decide +kernel
theorem dL_law_194 : decode cL_law 194 = .ok (.iadd, 1) := by decide +kernel
theorem dL_law_195 : decode cL_law 195 = .ok (.iaload, 1) := by decide +kernel
theorem dL_law_196 : decode cL_law 196 = .ok (.invokevirtual 106, 3) := by decide +kernel
theorem dL_law_199 : decode cL_law 199 = .ok (.istore 6, 2) := by decide +kernel
theorem dL_law_201 : decode cL_law 201 = .ok (.aload_n 2, 1) := by decide +kernel
theorem dL_law_202 : decode cL_law 202 = .ok (.invokevirtual 107, 3) := by decide +kernel
theorem dL_law_205 : decode cL_law 205 = .ok (.iload 5, 2) := by decide +kernel
theorem dL_law_207 : decode cL_law 207 = .ok (.if_icmp .eq 5, 3) := by decide +kernel
theorem dL_law_210 : decode cL_law 210 = .ok (.iconst 0, 1) := by decide +kernel
theorem dL_law_211 : decode cL_law 211 = .ok (.ireturn, 1) := by decide +kernel
theorem dL_law_212 : decode cL_law 212 = .ok (.iload 5, 2) := by decide +kernel
theorem dL_law_214 : decode cL_law 214 = .ok (.ifCond .ne 15, 3) := by decide +kernel
theorem dL_law_217 : decode cL_law 217 = .ok (.aload_n 3, 1) := by decide +kernel
theorem dL_law_218 : decode cL_law 218 = .ok (.iconst 0, 1) := by decide +kernel
theorem dL_law_219 : decode cL_law 219 = .ok (.laload, 1) := by decide +kernel
theorem dL_law_220 : decode cL_law 220 = .ok (.iload 6, 2) := by decide +kernel
theorem dL_law_222 : decode cL_law 222 = .ok (.i2l, 1) := by decide +kernel
theorem dL_law_223 : decode cL_law 223 = .ok (.lcmp, 1) := by decide +kernel
theorem dL_law_224 : decode cL_law 224 = .ok (.ifCond .eq 5, 3) := by decide +kernel
theorem dL_law_227 : decode cL_law 227 = .ok (.iconst 0, 1) := by decide +kernel
theorem dL_law_228 : decode cL_law 228 = .ok (.ireturn, 1) := by decide +kernel
theorem dL_law_229 : decode cL_law 229 = .ok (.goto 1646, 3) := by decide +kernel
theorem dL_law_232 : decode cL_law 232 = .ok (.aload_n 1, 1) := by decide +kernel
theorem dL_law_233 : decode cL_law 233 = .ok (.aload_n 0, 1) := by decide +kernel
theorem dL_law_234 : decode cL_law 234 = .ok (.iload 4, 2) := by decide +kernel
theorem dL_law_236 : decode cL_law 236 = .ok (.iconst 1, 1) := by decide +kernel
theorem dL_law_237 : decode cL_law 237 = .ok (.iadd, 1) := by decide +kernel
theorem dL_law_238 : decode cL_law 238 = .ok (.iaload, 1) := by decide +kernel
theorem dL_law_239 : decode cL_law 239 = .ok (.aload_n 3, 1) := by decide +kernel
theorem dL_law_240 : decode cL_law 240 = .ok (.invokestatic 111, 3) := by decide +kernel
theorem dL_law_243 : decode cL_law 243 = .ok (.istore 5, 2) := by decide +kernel
theorem dL_law_245 : decode cL_law 245 = .ok (.aload_n 2, 1) := by decide +kernel
theorem dL_law_246 : decode cL_law 246 = .ok (.aload_n 0, 1) := by decide +kernel
theorem dL_law_247 : decode cL_law 247 = .ok (.iload 4, 2) := by decide +kernel
theorem dL_law_249 : decode cL_law 249 = .ok (.iconst 1, 1) := by decide +kernel
theorem dL_law_250 : decode cL_law 250 = .ok (.iadd, 1) := by decide +kernel
theorem dL_law_251 : decode cL_law 251 = .ok (.iaload, 1) := by decide +kernel
theorem dL_law_252 : decode cL_law 252 = .ok (.invokevirtual 114, 3) := by decide +kernel
theorem dL_law_255 : decode cL_law 255 = .ok (.istore 6, 2) := by decide +kernel
theorem dL_law_257 : decode cL_law 257 = .ok (.aload_n 2, 1) := by decide +kernel
theorem dL_law_258 : decode cL_law 258 = .ok (.invokevirtual 107, 3) := by decide +kernel
theorem dL_law_261 : decode cL_law 261 = .ok (.iload 5, 2) := by decide +kernel
theorem dL_law_263 : decode cL_law 263 = .ok (.if_icmp .eq 5, 3) := by decide +kernel
theorem dL_law_266 : decode cL_law 266 = .ok (.iconst 0, 1) := by decide +kernel
theorem dL_law_267 : decode cL_law 267 = .ok (.ireturn, 1) := by decide +kernel
theorem dL_law_268 : decode cL_law 268 = .ok (.iload 5, 2) := by decide +kernel
theorem dL_law_270 : decode cL_law 270 = .ok (.ifCond .ne 15, 3) := by decide +kernel
theorem dL_law_273 : decode cL_law 273 = .ok (.aload_n 3, 1) := by decide +kernel
theorem dL_law_274 : decode cL_law 274 = .ok (.iconst 0, 1) := by decide +kernel
theorem dL_law_275 : decode cL_law 275 = .ok (.laload, 1) := by decide +kernel
theorem dL_law_276 : decode cL_law 276 = .ok (.iload 6, 2) := by decide +kernel
theorem dL_law_278 : decode cL_law 278 = .ok (.i2l, 1) := by decide +kernel
theorem dL_law_279 : decode cL_law 279 = .ok (.lcmp, 1) := by decide +kernel
theorem dL_law_280 : decode cL_law 280 = .ok (.ifCond .eq 5, 3) := by decide +kernel
theorem dL_law_283 : decode cL_law 283 = .ok (.iconst 0, 1) := by decide +kernel
theorem dL_law_284 : decode cL_law 284 = .ok (.ireturn, 1) := by decide +kernel
theorem dL_law_285 : decode cL_law 285 = .ok (.goto 1590, 3) := by decide +kernel
theorem dL_law_288 : decode cL_law 288 = .ok (.aload_n 1, 1) := by decide +kernel
theorem dL_law_289 : decode cL_law 289 = .ok (.aload_n 0, 1) := by decide +kernel
theorem dL_law_290 : decode cL_law 290 = .ok (.iload 4, 2) := by decide +kernel
theorem dL_law_292 : decode cL_law 292 = .ok (.iconst 1, 1) := by decide +kernel
theorem dL_law_293 : decode cL_law 293 = .ok (.iadd, 1) := by decide +kernel
theorem dL_law_294 : decode cL_law 294 = .ok (.iaload, 1) := by decide +kernel
theorem dL_law_295 : decode cL_law 295 = .ok (.aload_n 0, 1) := by decide +kernel
theorem dL_law_296 : decode cL_law 296 = .ok (.iload 4, 2) := by decide +kernel
theorem dL_law_298 : decode cL_law 298 = .ok (.iconst 2, 1) := by decide +kernel
theorem dL_law_299 : decode cL_law 299 = .ok (.iadd, 1) := by decide +kernel
theorem dL_law_300 : decode cL_law 300 = .ok (.iaload, 1) := by decide +kernel
theorem dL_law_301 : decode cL_law 301 = .ok (.aload_n 0, 1) := by decide +kernel
theorem dL_law_302 : decode cL_law 302 = .ok (.iload 4, 2) := by decide +kernel
theorem dL_law_304 : decode cL_law 304 = .ok (.iconst 3, 1) := by decide +kernel
theorem dL_law_305 : decode cL_law 305 = .ok (.iadd, 1) := by decide +kernel
theorem dL_law_306 : decode cL_law 306 = .ok (.iaload, 1) := by decide +kernel
theorem dL_law_307 : decode cL_law 307 = .ok (.aload_n 0, 1) := by decide +kernel
theorem dL_law_308 : decode cL_law 308 = .ok (.iload 4, 2) := by decide +kernel
theorem dL_law_310 : decode cL_law 310 = .ok (.iconst 4, 1) := by decide +kernel
theorem dL_law_311 : decode cL_law 311 = .ok (.iadd, 1) := by decide +kernel
theorem dL_law_312 : decode cL_law 312 = .ok (.iaload, 1) := by decide +kernel
theorem dL_law_313 : decode cL_law 313 = .ok (.aload_n 3, 1) := by decide +kernel
theorem dL_law_314 : decode cL_law 314 = .ok (.invokestatic 115, 3) := by decide +kernel
theorem dL_law_317 : decode cL_law 317 = .ok (.istore 5, 2) := by decide +kernel
theorem dL_law_319 : decode cL_law 319 = .ok (.aload_n 2, 1) := by decide +kernel
theorem dL_law_320 : decode cL_law 320 = .ok (.aload_n 0, 1) := by decide +kernel
theorem dL_law_321 : decode cL_law 321 = .ok (.iload 4, 2) := by decide +kernel
theorem dL_law_323 : decode cL_law 323 = .ok (.iconst 1, 1) := by decide +kernel
theorem dL_law_324 : decode cL_law 324 = .ok (.iadd, 1) := by decide +kernel
theorem dL_law_325 : decode cL_law 325 = .ok (.iaload, 1) := by decide +kernel
theorem dL_law_326 : decode cL_law 326 = .ok (.aload_n 0, 1) := by decide +kernel
theorem dL_law_327 : decode cL_law 327 = .ok (.iload 4, 2) := by decide +kernel
theorem dL_law_329 : decode cL_law 329 = .ok (.iconst 2, 1) := by decide +kernel
theorem dL_law_330 : decode cL_law 330 = .ok (.iadd, 1) := by decide +kernel
theorem dL_law_331 : decode cL_law 331 = .ok (.iaload, 1) := by decide +kernel
theorem dL_law_332 : decode cL_law 332 = .ok (.aload_n 0, 1) := by decide +kernel
theorem dL_law_333 : decode cL_law 333 = .ok (.iload 4, 2) := by decide +kernel
theorem dL_law_335 : decode cL_law 335 = .ok (.iconst 3, 1) := by decide +kernel
theorem dL_law_336 : decode cL_law 336 = .ok (.iadd, 1) := by decide +kernel
theorem dL_law_337 : decode cL_law 337 = .ok (.iaload, 1) := by decide +kernel
theorem dL_law_338 : decode cL_law 338 = .ok (.aload_n 0, 1) := by decide +kernel
theorem dL_law_339 : decode cL_law 339 = .ok (.iload 4, 2) := by decide +kernel
theorem dL_law_341 : decode cL_law 341 = .ok (.iconst 4, 1) := by decide +kernel
theorem dL_law_342 : decode cL_law 342 = .ok (.iadd, 1) := by decide +kernel
theorem dL_law_343 : decode cL_law 343 = .ok (.iaload, 1) := by decide +kernel
theorem dL_law_344 : decode cL_law 344 = .ok (.invokevirtual 118, 3) := by decide +kernel
theorem dL_law_347 : decode cL_law 347 = .ok (.istore 6, 2) := by decide +kernel
theorem dL_law_349 : decode cL_law 349 = .ok (.aload_n 2, 1) := by decide +kernel
theorem dL_law_350 : decode cL_law 350 = .ok (.invokevirtual 107, 3) := by decide +kernel
theorem dL_law_353 : decode cL_law 353 = .ok (.iload 5, 2) := by decide +kernel
theorem dL_law_355 : decode cL_law 355 = .ok (.if_icmp .eq 5, 3) := by decide +kernel
theorem dL_law_358 : decode cL_law 358 = .ok (.iconst 0, 1) := by decide +kernel
theorem dL_law_359 : decode cL_law 359 = .ok (.ireturn, 1) := by decide +kernel
theorem dL_law_360 : decode cL_law 360 = .ok (.iload 5, 2) := by decide +kernel
theorem dL_law_362 : decode cL_law 362 = .ok (.ifCond .ne 15, 3) := by decide +kernel
theorem dL_law_365 : decode cL_law 365 = .ok (.aload_n 3, 1) := by decide +kernel
theorem dL_law_366 : decode cL_law 366 = .ok (.iconst 0, 1) := by decide +kernel
theorem dL_law_367 : decode cL_law 367 = .ok (.laload, 1) := by decide +kernel
theorem dL_law_368 : decode cL_law 368 = .ok (.iload 6, 2) := by decide +kernel
theorem dL_law_370 : decode cL_law 370 = .ok (.i2l, 1) := by decide +kernel
theorem dL_law_371 : decode cL_law 371 = .ok (.lcmp, 1) := by decide +kernel
theorem dL_law_372 : decode cL_law 372 = .ok (.ifCond .eq 5, 3) := by decide +kernel
theorem dL_law_375 : decode cL_law 375 = .ok (.iconst 0, 1) := by decide +kernel
theorem dL_law_376 : decode cL_law 376 = .ok (.ireturn, 1) := by decide +kernel
theorem dL_law_377 : decode cL_law 377 = .ok (.goto 1498, 3) := by decide +kernel
theorem dL_law_380 : decode cL_law 380 = .ok (.aload_n 1, 1) := by decide +kernel
theorem dL_law_381 : decode cL_law 381 = .ok (.aload_n 0, 1) := by decide +kernel
theorem dL_law_382 : decode cL_law 382 = .ok (.iload 4, 2) := by decide +kernel
theorem dL_law_384 : decode cL_law 384 = .ok (.iconst 1, 1) := by decide +kernel
theorem dL_law_385 : decode cL_law 385 = .ok (.iadd, 1) := by decide +kernel
theorem dL_law_386 : decode cL_law 386 = .ok (.iaload, 1) := by decide +kernel
theorem dL_law_387 : decode cL_law 387 = .ok (.aload_n 0, 1) := by decide +kernel
theorem dL_law_388 : decode cL_law 388 = .ok (.iload 4, 2) := by decide +kernel
theorem dL_law_390 : decode cL_law 390 = .ok (.iconst 2, 1) := by decide +kernel
theorem dL_law_391 : decode cL_law 391 = .ok (.iadd, 1) := by decide +kernel
theorem dL_law_392 : decode cL_law 392 = .ok (.iaload, 1) := by decide +kernel
theorem dL_law_393 : decode cL_law 393 = .ok (.aload_n 3, 1) := by decide +kernel
theorem dL_law_394 : decode cL_law 394 = .ok (.invokestatic 119, 3) := by decide +kernel
theorem dL_law_397 : decode cL_law 397 = .ok (.istore 5, 2) := by decide +kernel
theorem dL_law_399 : decode cL_law 399 = .ok (.aload_n 2, 1) := by decide +kernel
theorem dL_law_400 : decode cL_law 400 = .ok (.aload_n 0, 1) := by decide +kernel
theorem dL_law_401 : decode cL_law 401 = .ok (.iload 4, 2) := by decide +kernel
theorem dL_law_403 : decode cL_law 403 = .ok (.iconst 1, 1) := by decide +kernel
theorem dL_law_404 : decode cL_law 404 = .ok (.iadd, 1) := by decide +kernel
theorem dL_law_405 : decode cL_law 405 = .ok (.iaload, 1) := by decide +kernel
theorem dL_law_406 : decode cL_law 406 = .ok (.aload_n 0, 1) := by decide +kernel
theorem dL_law_407 : decode cL_law 407 = .ok (.iload 4, 2) := by decide +kernel
theorem dL_law_409 : decode cL_law 409 = .ok (.iconst 2, 1) := by decide +kernel
theorem dL_law_410 : decode cL_law 410 = .ok (.iadd, 1) := by decide +kernel
theorem dL_law_411 : decode cL_law 411 = .ok (.iaload, 1) := by decide +kernel
theorem dL_law_412 : decode cL_law 412 = .ok (.invokevirtual 122, 3) := by decide +kernel
theorem dL_law_415 : decode cL_law 415 = .ok (.istore 6, 2) := by decide +kernel
theorem dL_law_417 : decode cL_law 417 = .ok (.aload_n 2, 1) := by decide +kernel
theorem dL_law_418 : decode cL_law 418 = .ok (.invokevirtual 107, 3) := by decide +kernel
theorem dL_law_421 : decode cL_law 421 = .ok (.iload 5, 2) := by decide +kernel
theorem dL_law_423 : decode cL_law 423 = .ok (.if_icmp .eq 5, 3) := by decide +kernel
theorem dL_law_426 : decode cL_law 426 = .ok (.iconst 0, 1) := by decide +kernel
theorem dL_law_427 : decode cL_law 427 = .ok (.ireturn, 1) := by decide +kernel
theorem dL_law_428 : decode cL_law 428 = .ok (.iload 5, 2) := by decide +kernel
theorem dL_law_430 : decode cL_law 430 = .ok (.ifCond .ne 15, 3) := by decide +kernel
theorem dL_law_433 : decode cL_law 433 = .ok (.aload_n 3, 1) := by decide +kernel
theorem dL_law_434 : decode cL_law 434 = .ok (.iconst 0, 1) := by decide +kernel
theorem dL_law_435 : decode cL_law 435 = .ok (.laload, 1) := by decide +kernel
theorem dL_law_436 : decode cL_law 436 = .ok (.iload 6, 2) := by decide +kernel
theorem dL_law_438 : decode cL_law 438 = .ok (.i2l, 1) := by decide +kernel
theorem dL_law_439 : decode cL_law 439 = .ok (.lcmp, 1) := by decide +kernel
theorem dL_law_440 : decode cL_law 440 = .ok (.ifCond .eq 5, 3) := by decide +kernel
theorem dL_law_443 : decode cL_law 443 = .ok (.iconst 0, 1) := by decide +kernel
theorem dL_law_444 : decode cL_law 444 = .ok (.ireturn, 1) := by decide +kernel
theorem dL_law_445 : decode cL_law 445 = .ok (.goto 1430, 3) := by decide +kernel
theorem dL_law_448 : decode cL_law 448 = .ok (.aload_n 1, 1) := by decide +kernel
theorem dL_law_449 : decode cL_law 449 = .ok (.aload_n 0, 1) := by decide +kernel
theorem dL_law_450 : decode cL_law 450 = .ok (.iload 4, 2) := by decide +kernel
theorem dL_law_452 : decode cL_law 452 = .ok (.iconst 1, 1) := by decide +kernel
theorem dL_law_453 : decode cL_law 453 = .ok (.iadd, 1) := by decide +kernel
theorem dL_law_454 : decode cL_law 454 = .ok (.iaload, 1) := by decide +kernel
theorem dL_law_455 : decode cL_law 455 = .ok (.aload_n 0, 1) := by decide +kernel
theorem dL_law_456 : decode cL_law 456 = .ok (.iload 4, 2) := by decide +kernel
theorem dL_law_458 : decode cL_law 458 = .ok (.iconst 2, 1) := by decide +kernel
theorem dL_law_459 : decode cL_law 459 = .ok (.iadd, 1) := by decide +kernel
theorem dL_law_460 : decode cL_law 460 = .ok (.iaload, 1) := by decide +kernel
theorem dL_law_461 : decode cL_law 461 = .ok (.ifCond .eq 7, 3) := by decide +kernel
theorem dL_law_464 : decode cL_law 464 = .ok (.iconst 1, 1) := by decide +kernel
theorem dL_law_465 : decode cL_law 465 = .ok (.goto 4, 3) := by decide +kernel
theorem dL_law_468 : decode cL_law 468 = .ok (.iconst 0, 1) := by decide +kernel
theorem dL_law_469 : decode cL_law 469 = .ok (.aload_n 3, 1) := by decide +kernel
theorem dL_law_470 : decode cL_law 470 = .ok (.invokestatic 123, 3) := by decide +kernel
theorem dL_law_473 : decode cL_law 473 = .ok (.istore 5, 2) := by decide +kernel
theorem dL_law_475 : decode cL_law 475 = .ok (.aload_n 2, 1) := by decide +kernel
theorem dL_law_476 : decode cL_law 476 = .ok (.aload_n 0, 1) := by decide +kernel
theorem dL_law_477 : decode cL_law 477 = .ok (.iload 4, 2) := by decide +kernel
theorem dL_law_479 : decode cL_law 479 = .ok (.iconst 1, 1) := by decide +kernel
theorem dL_law_480 : decode cL_law 480 = .ok (.iadd, 1) := by decide +kernel
theorem dL_law_481 : decode cL_law 481 = .ok (.iaload, 1) := by decide +kernel
theorem dL_law_482 : decode cL_law 482 = .ok (.aload_n 0, 1) := by decide +kernel
theorem dL_law_483 : decode cL_law 483 = .ok (.iload 4, 2) := by decide +kernel
theorem dL_law_485 : decode cL_law 485 = .ok (.iconst 2, 1) := by decide +kernel
theorem dL_law_486 : decode cL_law 486 = .ok (.iadd, 1) := by decide +kernel
theorem dL_law_487 : decode cL_law 487 = .ok (.iaload, 1) := by decide +kernel
theorem dL_law_488 : decode cL_law 488 = .ok (.ifCond .eq 7, 3) := by decide +kernel
theorem dL_law_491 : decode cL_law 491 = .ok (.iconst 1, 1) := by decide +kernel
theorem dL_law_492 : decode cL_law 492 = .ok (.goto 4, 3) := by decide +kernel
theorem dL_law_495 : decode cL_law 495 = .ok (.iconst 0, 1) := by decide +kernel
theorem dL_law_496 : decode cL_law 496 = .ok (.invokevirtual 126, 3) := by decide +kernel
theorem dL_law_499 : decode cL_law 499 = .ok (.istore 6, 2) := by decide +kernel
theorem dL_law_501 : decode cL_law 501 = .ok (.aload_n 2, 1) := by decide +kernel
theorem dL_law_502 : decode cL_law 502 = .ok (.invokevirtual 107, 3) := by decide +kernel
theorem dL_law_505 : decode cL_law 505 = .ok (.iload 5, 2) := by decide +kernel
theorem dL_law_507 : decode cL_law 507 = .ok (.if_icmp .eq 5, 3) := by decide +kernel
theorem dL_law_510 : decode cL_law 510 = .ok (.iconst 0, 1) := by decide +kernel
theorem dL_law_511 : decode cL_law 511 = .ok (.ireturn, 1) := by decide +kernel
theorem dL_law_512 : decode cL_law 512 = .ok (.iload 5, 2) := by decide +kernel
theorem dL_law_514 : decode cL_law 514 = .ok (.ifCond .ne 22, 3) := by decide +kernel
theorem dL_law_517 : decode cL_law 517 = .ok (.aload_n 3, 1) := by decide +kernel
theorem dL_law_518 : decode cL_law 518 = .ok (.iconst 0, 1) := by decide +kernel
theorem dL_law_519 : decode cL_law 519 = .ok (.laload, 1) := by decide +kernel
theorem dL_law_520 : decode cL_law 520 = .ok (.iload 6, 2) := by decide +kernel
theorem dL_law_522 : decode cL_law 522 = .ok (.ifCond .eq 7, 3) := by decide +kernel
theorem dL_law_525 : decode cL_law 525 = .ok (.lconst 1, 1) := by decide +kernel
theorem dL_law_526 : decode cL_law 526 = .ok (.goto 4, 3) := by decide +kernel
theorem dL_law_529 : decode cL_law 529 = .ok (.lconst 0, 1) := by decide +kernel
theorem dL_law_530 : decode cL_law 530 = .ok (.lcmp, 1) := by decide +kernel
theorem dL_law_531 : decode cL_law 531 = .ok (.ifCond .eq 5, 3) := by decide +kernel
theorem dL_law_534 : decode cL_law 534 = .ok (.iconst 0, 1) := by decide +kernel
theorem dL_law_535 : decode cL_law 535 = .ok (.ireturn, 1) := by decide +kernel
theorem dL_law_536 : decode cL_law 536 = .ok (.goto 1339, 3) := by decide +kernel
theorem dL_law_539 : decode cL_law 539 = .ok (.aload_n 1, 1) := by decide +kernel
theorem dL_law_540 : decode cL_law 540 = .ok (.aload_n 0, 1) := by decide +kernel
theorem dL_law_541 : decode cL_law 541 = .ok (.iload 4, 2) := by decide +kernel
theorem dL_law_543 : decode cL_law 543 = .ok (.iconst 1, 1) := by decide +kernel
theorem dL_law_544 : decode cL_law 544 = .ok (.iadd, 1) := by decide +kernel
theorem dL_law_545 : decode cL_law 545 = .ok (.iaload, 1) := by decide +kernel
theorem dL_law_546 : decode cL_law 546 = .ok (.aload_n 3, 1) := by decide +kernel
theorem dL_law_547 : decode cL_law 547 = .ok (.invokestatic 127, 3) := by decide +kernel
theorem dL_law_550 : decode cL_law 550 = .ok (.istore 5, 2) := by decide +kernel
theorem dL_law_552 : decode cL_law 552 = .ok (.aload_n 2, 1) := by decide +kernel
theorem dL_law_553 : decode cL_law 553 = .ok (.aload_n 0, 1) := by decide +kernel
theorem dL_law_554 : decode cL_law 554 = .ok (.iload 4, 2) := by decide +kernel
theorem dL_law_556 : decode cL_law 556 = .ok (.iconst 1, 1) := by decide +kernel
theorem dL_law_557 : decode cL_law 557 = .ok (.iadd, 1) := by decide +kernel
theorem dL_law_558 : decode cL_law 558 = .ok (.iaload, 1) := by decide +kernel
theorem dL_law_559 : decode cL_law 559 = .ok (.invokevirtual 129, 3) := by decide +kernel
theorem dL_law_562 : decode cL_law 562 = .ok (.istore 6, 2) := by decide +kernel
theorem dL_law_564 : decode cL_law 564 = .ok (.aload_n 2, 1) := by decide +kernel
theorem dL_law_565 : decode cL_law 565 = .ok (.invokevirtual 107, 3) := by decide +kernel
theorem dL_law_568 : decode cL_law 568 = .ok (.iload 5, 2) := by decide +kernel
theorem dL_law_570 : decode cL_law 570 = .ok (.if_icmp .eq 5, 3) := by decide +kernel
theorem dL_law_573 : decode cL_law 573 = .ok (.iconst 0, 1) := by decide +kernel
theorem dL_law_574 : decode cL_law 574 = .ok (.ireturn, 1) := by decide +kernel
theorem dL_law_575 : decode cL_law 575 = .ok (.iload 5, 2) := by decide +kernel
theorem dL_law_577 : decode cL_law 577 = .ok (.ifCond .ne 15, 3) := by decide +kernel
theorem dL_law_580 : decode cL_law 580 = .ok (.aload_n 3, 1) := by decide +kernel
theorem dL_law_581 : decode cL_law 581 = .ok (.iconst 0, 1) := by decide +kernel
theorem dL_law_582 : decode cL_law 582 = .ok (.laload, 1) := by decide +kernel
theorem dL_law_583 : decode cL_law 583 = .ok (.iload 6, 2) := by decide +kernel
theorem dL_law_585 : decode cL_law 585 = .ok (.i2l, 1) := by decide +kernel
theorem dL_law_586 : decode cL_law 586 = .ok (.lcmp, 1) := by decide +kernel
theorem dL_law_587 : decode cL_law 587 = .ok (.ifCond .eq 5, 3) := by decide +kernel
theorem dL_law_590 : decode cL_law 590 = .ok (.iconst 0, 1) := by decide +kernel
theorem dL_law_591 : decode cL_law 591 = .ok (.ireturn, 1) := by decide +kernel
theorem dL_law_592 : decode cL_law 592 = .ok (.goto 1283, 3) := by decide +kernel
theorem dL_law_595 : decode cL_law 595 = .ok (.aload_n 1, 1) := by decide +kernel
theorem dL_law_596 : decode cL_law 596 = .ok (.aload_n 0, 1) := by decide +kernel
theorem dL_law_597 : decode cL_law 597 = .ok (.iload 4, 2) := by decide +kernel
theorem dL_law_599 : decode cL_law 599 = .ok (.iconst 1, 1) := by decide +kernel
theorem dL_law_600 : decode cL_law 600 = .ok (.iadd, 1) := by decide +kernel
theorem dL_law_601 : decode cL_law 601 = .ok (.iaload, 1) := by decide +kernel
theorem dL_law_602 : decode cL_law 602 = .ok (.aload_n 0, 1) := by decide +kernel
theorem dL_law_603 : decode cL_law 603 = .ok (.iload 4, 2) := by decide +kernel
theorem dL_law_605 : decode cL_law 605 = .ok (.iconst 2, 1) := by decide +kernel
theorem dL_law_606 : decode cL_law 606 = .ok (.iadd, 1) := by decide +kernel
theorem dL_law_607 : decode cL_law 607 = .ok (.iaload, 1) := by decide +kernel
theorem dL_law_608 : decode cL_law 608 = .ok (.aload_n 3, 1) := by decide +kernel
theorem dL_law_609 : decode cL_law 609 = .ok (.invokestatic 130, 3) := by decide +kernel
theorem dL_law_612 : decode cL_law 612 = .ok (.istore 5, 2) := by decide +kernel
theorem dL_law_614 : decode cL_law 614 = .ok (.aload_n 2, 1) := by decide +kernel
theorem dL_law_615 : decode cL_law 615 = .ok (.aload_n 0, 1) := by decide +kernel
theorem dL_law_616 : decode cL_law 616 = .ok (.iload 4, 2) := by decide +kernel
theorem dL_law_618 : decode cL_law 618 = .ok (.iconst 1, 1) := by decide +kernel
theorem dL_law_619 : decode cL_law 619 = .ok (.iadd, 1) := by decide +kernel
theorem dL_law_620 : decode cL_law 620 = .ok (.iaload, 1) := by decide +kernel
theorem dL_law_621 : decode cL_law 621 = .ok (.aload_n 0, 1) := by decide +kernel
theorem dL_law_622 : decode cL_law 622 = .ok (.iload 4, 2) := by decide +kernel
theorem dL_law_624 : decode cL_law 624 = .ok (.iconst 2, 1) := by decide +kernel
theorem dL_law_625 : decode cL_law 625 = .ok (.iadd, 1) := by decide +kernel
theorem dL_law_626 : decode cL_law 626 = .ok (.iaload, 1) := by decide +kernel
theorem dL_law_627 : decode cL_law 627 = .ok (.invokevirtual 132, 3) := by decide +kernel
theorem dL_law_630 : decode cL_law 630 = .ok (.istore 6, 2) := by decide +kernel
theorem dL_law_632 : decode cL_law 632 = .ok (.aload_n 2, 1) := by decide +kernel
theorem dL_law_633 : decode cL_law 633 = .ok (.invokevirtual 107, 3) := by decide +kernel
theorem dL_law_636 : decode cL_law 636 = .ok (.iload 5, 2) := by decide +kernel
theorem dL_law_638 : decode cL_law 638 = .ok (.if_icmp .eq 5, 3) := by decide +kernel
theorem dL_law_641 : decode cL_law 641 = .ok (.iconst 0, 1) := by decide +kernel
theorem dL_law_642 : decode cL_law 642 = .ok (.ireturn, 1) := by decide +kernel
theorem dL_law_643 : decode cL_law 643 = .ok (.iload 5, 2) := by decide +kernel
theorem dL_law_645 : decode cL_law 645 = .ok (.ifCond .ne 15, 3) := by decide +kernel
theorem dL_law_648 : decode cL_law 648 = .ok (.aload_n 3, 1) := by decide +kernel
theorem dL_law_649 : decode cL_law 649 = .ok (.iconst 0, 1) := by decide +kernel
theorem dL_law_650 : decode cL_law 650 = .ok (.laload, 1) := by decide +kernel
theorem dL_law_651 : decode cL_law 651 = .ok (.iload 6, 2) := by decide +kernel
theorem dL_law_653 : decode cL_law 653 = .ok (.i2l, 1) := by decide +kernel
theorem dL_law_654 : decode cL_law 654 = .ok (.lcmp, 1) := by decide +kernel
theorem dL_law_655 : decode cL_law 655 = .ok (.ifCond .eq 5, 3) := by decide +kernel
theorem dL_law_658 : decode cL_law 658 = .ok (.iconst 0, 1) := by decide +kernel
theorem dL_law_659 : decode cL_law 659 = .ok (.ireturn, 1) := by decide +kernel
theorem dL_law_660 : decode cL_law 660 = .ok (.goto 1215, 3) := by decide +kernel
theorem dL_law_663 : decode cL_law 663 = .ok (.aload_n 1, 1) := by decide +kernel
theorem dL_law_664 : decode cL_law 664 = .ok (.aload_n 0, 1) := by decide +kernel
theorem dL_law_665 : decode cL_law 665 = .ok (.iload 4, 2) := by decide +kernel
theorem dL_law_667 : decode cL_law 667 = .ok (.iconst 1, 1) := by decide +kernel
theorem dL_law_668 : decode cL_law 668 = .ok (.iadd, 1) := by decide +kernel
theorem dL_law_669 : decode cL_law 669 = .ok (.iaload, 1) := by decide +kernel
theorem dL_law_670 : decode cL_law 670 = .ok (.aload_n 3, 1) := by decide +kernel
theorem dL_law_671 : decode cL_law 671 = .ok (.invokestatic 133, 3) := by decide +kernel
theorem dL_law_674 : decode cL_law 674 = .ok (.istore 5, 2) := by decide +kernel
theorem dL_law_676 : decode cL_law 676 = .ok (.aload_n 2, 1) := by decide +kernel
theorem dL_law_677 : decode cL_law 677 = .ok (.aload_n 0, 1) := by decide +kernel
theorem dL_law_678 : decode cL_law 678 = .ok (.iload 4, 2) := by decide +kernel
theorem dL_law_680 : decode cL_law 680 = .ok (.iconst 1, 1) := by decide +kernel
theorem dL_law_681 : decode cL_law 681 = .ok (.iadd, 1) := by decide +kernel
theorem dL_law_682 : decode cL_law 682 = .ok (.iaload, 1) := by decide +kernel
theorem dL_law_683 : decode cL_law 683 = .ok (.invokevirtual 135, 3) := by decide +kernel
theorem dL_law_686 : decode cL_law 686 = .ok (.istore 6, 2) := by decide +kernel
theorem dL_law_688 : decode cL_law 688 = .ok (.aload_n 2, 1) := by decide +kernel
theorem dL_law_689 : decode cL_law 689 = .ok (.invokevirtual 107, 3) := by decide +kernel
theorem dL_law_692 : decode cL_law 692 = .ok (.iload 5, 2) := by decide +kernel
theorem dL_law_694 : decode cL_law 694 = .ok (.if_icmp .eq 5, 3) := by decide +kernel
theorem dL_law_697 : decode cL_law 697 = .ok (.iconst 0, 1) := by decide +kernel
theorem dL_law_698 : decode cL_law 698 = .ok (.ireturn, 1) := by decide +kernel
theorem dL_law_699 : decode cL_law 699 = .ok (.iload 5, 2) := by decide +kernel
theorem dL_law_701 : decode cL_law 701 = .ok (.ifCond .ne 15, 3) := by decide +kernel
theorem dL_law_704 : decode cL_law 704 = .ok (.aload_n 3, 1) := by decide +kernel
theorem dL_law_705 : decode cL_law 705 = .ok (.iconst 0, 1) := by decide +kernel
theorem dL_law_706 : decode cL_law 706 = .ok (.laload, 1) := by decide +kernel
theorem dL_law_707 : decode cL_law 707 = .ok (.iload 6, 2) := by decide +kernel
theorem dL_law_709 : decode cL_law 709 = .ok (.i2l, 1) := by decide +kernel
theorem dL_law_710 : decode cL_law 710 = .ok (.lcmp, 1) := by decide +kernel
theorem dL_law_711 : decode cL_law 711 = .ok (.ifCond .eq 5, 3) := by decide +kernel
theorem dL_law_714 : decode cL_law 714 = .ok (.iconst 0, 1) := by decide +kernel
theorem dL_law_715 : decode cL_law 715 = .ok (.ireturn, 1) := by decide +kernel
theorem dL_law_716 : decode cL_law 716 = .ok (.goto 1159, 3) := by decide +kernel
theorem dL_law_719 : decode cL_law 719 = .ok (.aload_n 1, 1) := by decide +kernel
theorem dL_law_720 : decode cL_law 720 = .ok (.aload_n 0, 1) := by decide +kernel
theorem dL_law_721 : decode cL_law 721 = .ok (.iload 4, 2) := by decide +kernel
theorem dL_law_723 : decode cL_law 723 = .ok (.iconst 1, 1) := by decide +kernel
theorem dL_law_724 : decode cL_law 724 = .ok (.iadd, 1) := by decide +kernel
theorem dL_law_725 : decode cL_law 725 = .ok (.iaload, 1) := by decide +kernel
theorem dL_law_726 : decode cL_law 726 = .ok (.aload_n 0, 1) := by decide +kernel
theorem dL_law_727 : decode cL_law 727 = .ok (.iload 4, 2) := by decide +kernel
theorem dL_law_729 : decode cL_law 729 = .ok (.iconst 2, 1) := by decide +kernel
theorem dL_law_730 : decode cL_law 730 = .ok (.iadd, 1) := by decide +kernel
theorem dL_law_731 : decode cL_law 731 = .ok (.iaload, 1) := by decide +kernel
theorem dL_law_732 : decode cL_law 732 = .ok (.aload_n 0, 1) := by decide +kernel
theorem dL_law_733 : decode cL_law 733 = .ok (.iload 4, 2) := by decide +kernel
theorem dL_law_735 : decode cL_law 735 = .ok (.iconst 3, 1) := by decide +kernel
theorem dL_law_736 : decode cL_law 736 = .ok (.iadd, 1) := by decide +kernel
theorem dL_law_737 : decode cL_law 737 = .ok (.iaload, 1) := by decide +kernel
theorem dL_law_738 : decode cL_law 738 = .ok (.aload_n 3, 1) := by decide +kernel
theorem dL_law_739 : decode cL_law 739 = .ok (.invokestatic 136, 3) := by decide +kernel
theorem dL_law_742 : decode cL_law 742 = .ok (.istore 5, 2) := by decide +kernel
theorem dL_law_744 : decode cL_law 744 = .ok (.aload_n 2, 1) := by decide +kernel
theorem dL_law_745 : decode cL_law 745 = .ok (.aload_n 0, 1) := by decide +kernel
theorem dL_law_746 : decode cL_law 746 = .ok (.iload 4, 2) := by decide +kernel
theorem dL_law_748 : decode cL_law 748 = .ok (.iconst 1, 1) := by decide +kernel
theorem dL_law_749 : decode cL_law 749 = .ok (.iadd, 1) := by decide +kernel
theorem dL_law_750 : decode cL_law 750 = .ok (.iaload, 1) := by decide +kernel
theorem dL_law_751 : decode cL_law 751 = .ok (.aload_n 0, 1) := by decide +kernel
theorem dL_law_752 : decode cL_law 752 = .ok (.iload 4, 2) := by decide +kernel
theorem dL_law_754 : decode cL_law 754 = .ok (.iconst 2, 1) := by decide +kernel
theorem dL_law_755 : decode cL_law 755 = .ok (.iadd, 1) := by decide +kernel
theorem dL_law_756 : decode cL_law 756 = .ok (.iaload, 1) := by decide +kernel
theorem dL_law_757 : decode cL_law 757 = .ok (.aload_n 0, 1) := by decide +kernel
theorem dL_law_758 : decode cL_law 758 = .ok (.iload 4, 2) := by decide +kernel
theorem dL_law_760 : decode cL_law 760 = .ok (.iconst 3, 1) := by decide +kernel
theorem dL_law_761 : decode cL_law 761 = .ok (.iadd, 1) := by decide +kernel
theorem dL_law_762 : decode cL_law 762 = .ok (.iaload, 1) := by decide +kernel
theorem dL_law_763 : decode cL_law 763 = .ok (.invokevirtual 138, 3) := by decide +kernel
theorem dL_law_766 : decode cL_law 766 = .ok (.istore 6, 2) := by decide +kernel
theorem dL_law_768 : decode cL_law 768 = .ok (.aload_n 2, 1) := by decide +kernel
theorem dL_law_769 : decode cL_law 769 = .ok (.invokevirtual 107, 3) := by decide +kernel
theorem dL_law_772 : decode cL_law 772 = .ok (.iload 5, 2) := by decide +kernel
theorem dL_law_774 : decode cL_law 774 = .ok (.if_icmp .eq 5, 3) := by decide +kernel
theorem dL_law_777 : decode cL_law 777 = .ok (.iconst 0, 1) := by decide +kernel
theorem dL_law_778 : decode cL_law 778 = .ok (.ireturn, 1) := by decide +kernel
theorem dL_law_779 : decode cL_law 779 = .ok (.iload 5, 2) := by decide +kernel
theorem dL_law_781 : decode cL_law 781 = .ok (.ifCond .ne 15, 3) := by decide +kernel
theorem dL_law_784 : decode cL_law 784 = .ok (.aload_n 3, 1) := by decide +kernel
theorem dL_law_785 : decode cL_law 785 = .ok (.iconst 0, 1) := by decide +kernel
theorem dL_law_786 : decode cL_law 786 = .ok (.laload, 1) := by decide +kernel
theorem dL_law_787 : decode cL_law 787 = .ok (.iload 6, 2) := by decide +kernel
theorem dL_law_789 : decode cL_law 789 = .ok (.i2l, 1) := by decide +kernel
theorem dL_law_790 : decode cL_law 790 = .ok (.lcmp, 1) := by decide +kernel
theorem dL_law_791 : decode cL_law 791 = .ok (.ifCond .eq 5, 3) := by decide +kernel
theorem dL_law_794 : decode cL_law 794 = .ok (.iconst 0, 1) := by decide +kernel
theorem dL_law_795 : decode cL_law 795 = .ok (.ireturn, 1) := by decide +kernel
theorem dL_law_796 : decode cL_law 796 = .ok (.goto 1079, 3) := by decide +kernel
theorem dL_law_799 : decode cL_law 799 = .ok (.aload_n 1, 1) := by decide +kernel
theorem dL_law_800 : decode cL_law 800 = .ok (.aload_n 0, 1) := by decide +kernel
theorem dL_law_801 : decode cL_law 801 = .ok (.iload 4, 2) := by decide +kernel
theorem dL_law_803 : decode cL_law 803 = .ok (.iconst 1, 1) := by decide +kernel
theorem dL_law_804 : decode cL_law 804 = .ok (.iadd, 1) := by decide +kernel
theorem dL_law_805 : decode cL_law 805 = .ok (.iaload, 1) := by decide +kernel
theorem dL_law_806 : decode cL_law 806 = .ok (.aload_n 0, 1) := by decide +kernel
theorem dL_law_807 : decode cL_law 807 = .ok (.iload 4, 2) := by decide +kernel
theorem dL_law_809 : decode cL_law 809 = .ok (.iconst 2, 1) := by decide +kernel
theorem dL_law_810 : decode cL_law 810 = .ok (.iadd, 1) := by decide +kernel
theorem dL_law_811 : decode cL_law 811 = .ok (.iaload, 1) := by decide +kernel
theorem dL_law_812 : decode cL_law 812 = .ok (.aload_n 3, 1) := by decide +kernel
theorem dL_law_813 : decode cL_law 813 = .ok (.invokestatic 139, 3) := by decide +kernel
theorem dL_law_816 : decode cL_law 816 = .ok (.istore 5, 2) := by decide +kernel
theorem dL_law_818 : decode cL_law 818 = .ok (.aload_n 2, 1) := by decide +kernel
theorem dL_law_819 : decode cL_law 819 = .ok (.aload_n 0, 1) := by decide +kernel
theorem dL_law_820 : decode cL_law 820 = .ok (.iload 4, 2) := by decide +kernel
theorem dL_law_822 : decode cL_law 822 = .ok (.iconst 1, 1) := by decide +kernel
theorem dL_law_823 : decode cL_law 823 = .ok (.iadd, 1) := by decide +kernel
theorem dL_law_824 : decode cL_law 824 = .ok (.iaload, 1) := by decide +kernel
theorem dL_law_825 : decode cL_law 825 = .ok (.aload_n 0, 1) := by decide +kernel
theorem dL_law_826 : decode cL_law 826 = .ok (.iload 4, 2) := by decide +kernel
theorem dL_law_828 : decode cL_law 828 = .ok (.iconst 2, 1) := by decide +kernel
theorem dL_law_829 : decode cL_law 829 = .ok (.iadd, 1) := by decide +kernel
theorem dL_law_830 : decode cL_law 830 = .ok (.iaload, 1) := by decide +kernel
theorem dL_law_831 : decode cL_law 831 = .ok (.invokevirtual 141, 3) := by decide +kernel
theorem dL_law_834 : decode cL_law 834 = .ok (.istore 6, 2) := by decide +kernel
theorem dL_law_836 : decode cL_law 836 = .ok (.aload_n 2, 1) := by decide +kernel
theorem dL_law_837 : decode cL_law 837 = .ok (.invokevirtual 107, 3) := by decide +kernel
theorem dL_law_840 : decode cL_law 840 = .ok (.iload 5, 2) := by decide +kernel
theorem dL_law_842 : decode cL_law 842 = .ok (.if_icmp .eq 5, 3) := by decide +kernel
theorem dL_law_845 : decode cL_law 845 = .ok (.iconst 0, 1) := by decide +kernel
theorem dL_law_846 : decode cL_law 846 = .ok (.ireturn, 1) := by decide +kernel
theorem dL_law_847 : decode cL_law 847 = .ok (.iload 5, 2) := by decide +kernel
theorem dL_law_849 : decode cL_law 849 = .ok (.ifCond .ne 15, 3) := by decide +kernel
theorem dL_law_852 : decode cL_law 852 = .ok (.aload_n 3, 1) := by decide +kernel
theorem dL_law_853 : decode cL_law 853 = .ok (.iconst 0, 1) := by decide +kernel
theorem dL_law_854 : decode cL_law 854 = .ok (.laload, 1) := by decide +kernel
theorem dL_law_855 : decode cL_law 855 = .ok (.iload 6, 2) := by decide +kernel
theorem dL_law_857 : decode cL_law 857 = .ok (.i2l, 1) := by decide +kernel
theorem dL_law_858 : decode cL_law 858 = .ok (.lcmp, 1) := by decide +kernel
theorem dL_law_859 : decode cL_law 859 = .ok (.ifCond .eq 5, 3) := by decide +kernel
theorem dL_law_862 : decode cL_law 862 = .ok (.iconst 0, 1) := by decide +kernel
theorem dL_law_863 : decode cL_law 863 = .ok (.ireturn, 1) := by decide +kernel
theorem dL_law_864 : decode cL_law 864 = .ok (.goto 1011, 3) := by decide +kernel
theorem dL_law_867 : decode cL_law 867 = .ok (.aload_n 1, 1) := by decide +kernel
theorem dL_law_868 : decode cL_law 868 = .ok (.aload_n 0, 1) := by decide +kernel
theorem dL_law_869 : decode cL_law 869 = .ok (.iload 4, 2) := by decide +kernel
theorem dL_law_871 : decode cL_law 871 = .ok (.iconst 1, 1) := by decide +kernel
theorem dL_law_872 : decode cL_law 872 = .ok (.iadd, 1) := by decide +kernel
theorem dL_law_873 : decode cL_law 873 = .ok (.iaload, 1) := by decide +kernel
theorem dL_law_874 : decode cL_law 874 = .ok (.aload_n 3, 1) := by decide +kernel
theorem dL_law_875 : decode cL_law 875 = .ok (.invokestatic 142, 3) := by decide +kernel
theorem dL_law_878 : decode cL_law 878 = .ok (.istore 5, 2) := by decide +kernel
theorem dL_law_880 : decode cL_law 880 = .ok (.aload_n 2, 1) := by decide +kernel
theorem dL_law_881 : decode cL_law 881 = .ok (.aload_n 0, 1) := by decide +kernel
theorem dL_law_882 : decode cL_law 882 = .ok (.iload 4, 2) := by decide +kernel
theorem dL_law_884 : decode cL_law 884 = .ok (.iconst 1, 1) := by decide +kernel
theorem dL_law_885 : decode cL_law 885 = .ok (.iadd, 1) := by decide +kernel
theorem dL_law_886 : decode cL_law 886 = .ok (.iaload, 1) := by decide +kernel
theorem dL_law_887 : decode cL_law 887 = .ok (.invokevirtual 144, 3) := by decide +kernel
theorem dL_law_890 : decode cL_law 890 = .ok (.istore 6, 2) := by decide +kernel
theorem dL_law_892 : decode cL_law 892 = .ok (.aload_n 2, 1) := by decide +kernel
theorem dL_law_893 : decode cL_law 893 = .ok (.invokevirtual 107, 3) := by decide +kernel
theorem dL_law_896 : decode cL_law 896 = .ok (.iload 5, 2) := by decide +kernel
theorem dL_law_898 : decode cL_law 898 = .ok (.if_icmp .eq 5, 3) := by decide +kernel
theorem dL_law_901 : decode cL_law 901 = .ok (.iconst 0, 1) := by decide +kernel
theorem dL_law_902 : decode cL_law 902 = .ok (.ireturn, 1) := by decide +kernel
theorem dL_law_903 : decode cL_law 903 = .ok (.iload 5, 2) := by decide +kernel
theorem dL_law_905 : decode cL_law 905 = .ok (.ifCond .ne 15, 3) := by decide +kernel
theorem dL_law_908 : decode cL_law 908 = .ok (.aload_n 3, 1) := by decide +kernel
theorem dL_law_909 : decode cL_law 909 = .ok (.iconst 0, 1) := by decide +kernel
theorem dL_law_910 : decode cL_law 910 = .ok (.laload, 1) := by decide +kernel
theorem dL_law_911 : decode cL_law 911 = .ok (.iload 6, 2) := by decide +kernel
theorem dL_law_913 : decode cL_law 913 = .ok (.i2l, 1) := by decide +kernel
theorem dL_law_914 : decode cL_law 914 = .ok (.lcmp, 1) := by decide +kernel
theorem dL_law_915 : decode cL_law 915 = .ok (.ifCond .eq 5, 3) := by decide +kernel
theorem dL_law_918 : decode cL_law 918 = .ok (.iconst 0, 1) := by decide +kernel
theorem dL_law_919 : decode cL_law 919 = .ok (.ireturn, 1) := by decide +kernel
theorem dL_law_920 : decode cL_law 920 = .ok (.goto 955, 3) := by decide +kernel
theorem dL_law_923 : decode cL_law 923 = .ok (.aload_n 1, 1) := by decide +kernel
theorem dL_law_924 : decode cL_law 924 = .ok (.aload_n 0, 1) := by decide +kernel
theorem dL_law_925 : decode cL_law 925 = .ok (.iload 4, 2) := by decide +kernel
theorem dL_law_927 : decode cL_law 927 = .ok (.iconst 1, 1) := by decide +kernel
theorem dL_law_928 : decode cL_law 928 = .ok (.iadd, 1) := by decide +kernel
theorem dL_law_929 : decode cL_law 929 = .ok (.iaload, 1) := by decide +kernel
theorem dL_law_930 : decode cL_law 930 = .ok (.aload_n 0, 1) := by decide +kernel
theorem dL_law_931 : decode cL_law 931 = .ok (.iload 4, 2) := by decide +kernel
theorem dL_law_933 : decode cL_law 933 = .ok (.iconst 2, 1) := by decide +kernel
theorem dL_law_934 : decode cL_law 934 = .ok (.iadd, 1) := by decide +kernel
theorem dL_law_935 : decode cL_law 935 = .ok (.iaload, 1) := by decide +kernel
theorem dL_law_936 : decode cL_law 936 = .ok (.aload_n 3, 1) := by decide +kernel
theorem dL_law_937 : decode cL_law 937 = .ok (.invokestatic 145, 3) := by decide +kernel
theorem dL_law_940 : decode cL_law 940 = .ok (.istore 5, 2) := by decide +kernel
theorem dL_law_942 : decode cL_law 942 = .ok (.aload_n 2, 1) := by decide +kernel
theorem dL_law_943 : decode cL_law 943 = .ok (.aload_n 0, 1) := by decide +kernel
theorem dL_law_944 : decode cL_law 944 = .ok (.iload 4, 2) := by decide +kernel
theorem dL_law_946 : decode cL_law 946 = .ok (.iconst 1, 1) := by decide +kernel
theorem dL_law_947 : decode cL_law 947 = .ok (.iadd, 1) := by decide +kernel
theorem dL_law_948 : decode cL_law 948 = .ok (.iaload, 1) := by decide +kernel
theorem dL_law_949 : decode cL_law 949 = .ok (.aload_n 0, 1) := by decide +kernel
theorem dL_law_950 : decode cL_law 950 = .ok (.iload 4, 2) := by decide +kernel
theorem dL_law_952 : decode cL_law 952 = .ok (.iconst 2, 1) := by decide +kernel
theorem dL_law_953 : decode cL_law 953 = .ok (.iadd, 1) := by decide +kernel
theorem dL_law_954 : decode cL_law 954 = .ok (.iaload, 1) := by decide +kernel
theorem dL_law_955 : decode cL_law 955 = .ok (.invokevirtual 147, 3) := by decide +kernel
theorem dL_law_958 : decode cL_law 958 = .ok (.istore 6, 2) := by decide +kernel
theorem dL_law_960 : decode cL_law 960 = .ok (.aload_n 2, 1) := by decide +kernel
theorem dL_law_961 : decode cL_law 961 = .ok (.invokevirtual 107, 3) := by decide +kernel
theorem dL_law_964 : decode cL_law 964 = .ok (.iload 5, 2) := by decide +kernel
theorem dL_law_966 : decode cL_law 966 = .ok (.if_icmp .eq 5, 3) := by decide +kernel
theorem dL_law_969 : decode cL_law 969 = .ok (.iconst 0, 1) := by decide +kernel
theorem dL_law_970 : decode cL_law 970 = .ok (.ireturn, 1) := by decide +kernel
theorem dL_law_971 : decode cL_law 971 = .ok (.iload 5, 2) := by decide +kernel
theorem dL_law_973 : decode cL_law 973 = .ok (.ifCond .ne 15, 3) := by decide +kernel
theorem dL_law_976 : decode cL_law 976 = .ok (.aload_n 3, 1) := by decide +kernel
theorem dL_law_977 : decode cL_law 977 = .ok (.iconst 0, 1) := by decide +kernel
theorem dL_law_978 : decode cL_law 978 = .ok (.laload, 1) := by decide +kernel
theorem dL_law_979 : decode cL_law 979 = .ok (.iload 6, 2) := by decide +kernel
theorem dL_law_981 : decode cL_law 981 = .ok (.i2l, 1) := by decide +kernel
theorem dL_law_982 : decode cL_law 982 = .ok (.lcmp, 1) := by decide +kernel
theorem dL_law_983 : decode cL_law 983 = .ok (.ifCond .eq 5, 3) := by decide +kernel
theorem dL_law_986 : decode cL_law 986 = .ok (.iconst 0, 1) := by decide +kernel
theorem dL_law_987 : decode cL_law 987 = .ok (.ireturn, 1) := by decide +kernel
theorem dL_law_988 : decode cL_law 988 = .ok (.goto 887, 3) := by decide +kernel
theorem dL_law_991 : decode cL_law 991 = .ok (.aload_n 1, 1) := by decide +kernel
theorem dL_law_992 : decode cL_law 992 = .ok (.aload_n 0, 1) := by decide +kernel
theorem dL_law_993 : decode cL_law 993 = .ok (.iload 4, 2) := by decide +kernel
theorem dL_law_995 : decode cL_law 995 = .ok (.iconst 1, 1) := by decide +kernel
theorem dL_law_996 : decode cL_law 996 = .ok (.iadd, 1) := by decide +kernel
theorem dL_law_997 : decode cL_law 997 = .ok (.iaload, 1) := by decide +kernel
theorem dL_law_998 : decode cL_law 998 = .ok (.aload_n 3, 1) := by decide +kernel
theorem dL_law_999 : decode cL_law 999 = .ok (.invokestatic 148, 3) := by decide +kernel
theorem dL_law_1002 : decode cL_law 1002 = .ok (.istore 5, 2) := by decide +kernel
theorem dL_law_1004 : decode cL_law 1004 = .ok (.aload_n 2, 1) := by decide +kernel
theorem dL_law_1005 : decode cL_law 1005 = .ok (.aload_n 0, 1) := by decide +kernel
theorem dL_law_1006 : decode cL_law 1006 = .ok (.iload 4, 2) := by decide +kernel
theorem dL_law_1008 : decode cL_law 1008 = .ok (.iconst 1, 1) := by decide +kernel
theorem dL_law_1009 : decode cL_law 1009 = .ok (.iadd, 1) := by decide +kernel
theorem dL_law_1010 : decode cL_law 1010 = .ok (.iaload, 1) := by decide +kernel
theorem dL_law_1011 : decode cL_law 1011 = .ok (.invokevirtual 150, 3) := by decide +kernel
theorem dL_law_1014 : decode cL_law 1014 = .ok (.istore 6, 2) := by decide +kernel
theorem dL_law_1016 : decode cL_law 1016 = .ok (.aload_n 2, 1) := by decide +kernel
theorem dL_law_1017 : decode cL_law 1017 = .ok (.invokevirtual 107, 3) := by decide +kernel
theorem dL_law_1020 : decode cL_law 1020 = .ok (.iload 5, 2) := by decide +kernel
theorem dL_law_1022 : decode cL_law 1022 = .ok (.if_icmp .eq 5, 3) := by decide +kernel
theorem dL_law_1025 : decode cL_law 1025 = .ok (.iconst 0, 1) := by decide +kernel
theorem dL_law_1026 : decode cL_law 1026 = .ok (.ireturn, 1) := by decide +kernel
theorem dL_law_1027 : decode cL_law 1027 = .ok (.iload 5, 2) := by decide +kernel
theorem dL_law_1029 : decode cL_law 1029 = .ok (.ifCond .ne 15, 3) := by decide +kernel
theorem dL_law_1032 : decode cL_law 1032 = .ok (.aload_n 3, 1) := by decide +kernel
theorem dL_law_1033 : decode cL_law 1033 = .ok (.iconst 0, 1) := by decide +kernel
theorem dL_law_1034 : decode cL_law 1034 = .ok (.laload, 1) := by decide +kernel
theorem dL_law_1035 : decode cL_law 1035 = .ok (.iload 6, 2) := by decide +kernel
theorem dL_law_1037 : decode cL_law 1037 = .ok (.i2l, 1) := by decide +kernel
theorem dL_law_1038 : decode cL_law 1038 = .ok (.lcmp, 1) := by decide +kernel
theorem dL_law_1039 : decode cL_law 1039 = .ok (.ifCond .eq 5, 3) := by decide +kernel
theorem dL_law_1042 : decode cL_law 1042 = .ok (.iconst 0, 1) := by decide +kernel
theorem dL_law_1043 : decode cL_law 1043 = .ok (.ireturn, 1) := by decide +kernel
theorem dL_law_1044 : decode cL_law 1044 = .ok (.goto 831, 3) := by decide +kernel
theorem dL_law_1047 : decode cL_law 1047 = .ok (.aload_n 1, 1) := by decide +kernel
theorem dL_law_1048 : decode cL_law 1048 = .ok (.invokevirtual 151, 3) := by decide +kernel
theorem dL_law_1051 : decode cL_law 1051 = .ok (.aload_n 2, 1) := by decide +kernel
theorem dL_law_1052 : decode cL_law 1052 = .ok (.invokevirtual 154, 3) := by decide +kernel
theorem dL_law_1055 : decode cL_law 1055 = .ok (.if_icmp .eq 820, 3) := by decide +kernel
theorem dL_law_1058 : decode cL_law 1058 = .ok (.iconst 0, 1) := by decide +kernel
theorem dL_law_1059 : decode cL_law 1059 = .ok (.ireturn, 1) := by decide +kernel
theorem dL_law_1060 : decode cL_law 1060 = .ok (.aload_n 1, 1) := by decide +kernel
theorem dL_law_1061 : decode cL_law 1061 = .ok (.aload_n 0, 1) := by decide +kernel
theorem dL_law_1062 : decode cL_law 1062 = .ok (.iload 4, 2) := by decide +kernel
theorem dL_law_1064 : decode cL_law 1064 = .ok (.iconst 1, 1) := by decide +kernel
theorem dL_law_1065 : decode cL_law 1065 = .ok (.iadd, 1) := by decide +kernel
theorem dL_law_1066 : decode cL_law 1066 = .ok (.iaload, 1) := by decide +kernel
theorem dL_law_1067 : decode cL_law 1067 = .ok (.aload_n 0, 1) := by decide +kernel
theorem dL_law_1068 : decode cL_law 1068 = .ok (.iload 4, 2) := by decide +kernel
theorem dL_law_1070 : decode cL_law 1070 = .ok (.iconst 2, 1) := by decide +kernel
theorem dL_law_1071 : decode cL_law 1071 = .ok (.iadd, 1) := by decide +kernel
theorem dL_law_1072 : decode cL_law 1072 = .ok (.iaload, 1) := by decide +kernel
theorem dL_law_1073 : decode cL_law 1073 = .ok (.aload_n 3, 1) := by decide +kernel
theorem dL_law_1074 : decode cL_law 1074 = .ok (.invokestatic 155, 3) := by decide +kernel
theorem dL_law_1077 : decode cL_law 1077 = .ok (.istore 5, 2) := by decide +kernel
theorem dL_law_1079 : decode cL_law 1079 = .ok (.aload_n 2, 1) := by decide +kernel
theorem dL_law_1080 : decode cL_law 1080 = .ok (.aload_n 0, 1) := by decide +kernel
theorem dL_law_1081 : decode cL_law 1081 = .ok (.iload 4, 2) := by decide +kernel
theorem dL_law_1083 : decode cL_law 1083 = .ok (.iconst 1, 1) := by decide +kernel
theorem dL_law_1084 : decode cL_law 1084 = .ok (.iadd, 1) := by decide +kernel
theorem dL_law_1085 : decode cL_law 1085 = .ok (.iaload, 1) := by decide +kernel
theorem dL_law_1086 : decode cL_law 1086 = .ok (.aload_n 0, 1) := by decide +kernel
theorem dL_law_1087 : decode cL_law 1087 = .ok (.iload 4, 2) := by decide +kernel
theorem dL_law_1089 : decode cL_law 1089 = .ok (.iconst 2, 1) := by decide +kernel
theorem dL_law_1090 : decode cL_law 1090 = .ok (.iadd, 1) := by decide +kernel
theorem dL_law_1091 : decode cL_law 1091 = .ok (.iaload, 1) := by decide +kernel
theorem dL_law_1092 : decode cL_law 1092 = .ok (.invokevirtual 157, 3) := by decide +kernel
theorem dL_law_1095 : decode cL_law 1095 = .ok (.istore 6, 2) := by decide +kernel
theorem dL_law_1097 : decode cL_law 1097 = .ok (.aload_n 2, 1) := by decide +kernel
theorem dL_law_1098 : decode cL_law 1098 = .ok (.invokevirtual 107, 3) := by decide +kernel
theorem dL_law_1101 : decode cL_law 1101 = .ok (.iload 5, 2) := by decide +kernel
theorem dL_law_1103 : decode cL_law 1103 = .ok (.if_icmp .eq 5, 3) := by decide +kernel
theorem dL_law_1106 : decode cL_law 1106 = .ok (.iconst 0, 1) := by decide +kernel
theorem dL_law_1107 : decode cL_law 1107 = .ok (.ireturn, 1) := by decide +kernel
theorem dL_law_1108 : decode cL_law 1108 = .ok (.iload 5, 2) := by decide +kernel
theorem dL_law_1110 : decode cL_law 1110 = .ok (.ifCond .ne 15, 3) := by decide +kernel
theorem dL_law_1113 : decode cL_law 1113 = .ok (.aload_n 3, 1) := by decide +kernel
theorem dL_law_1114 : decode cL_law 1114 = .ok (.iconst 0, 1) := by decide +kernel
theorem dL_law_1115 : decode cL_law 1115 = .ok (.laload, 1) := by decide +kernel
theorem dL_law_1116 : decode cL_law 1116 = .ok (.iload 6, 2) := by decide +kernel
theorem dL_law_1118 : decode cL_law 1118 = .ok (.i2l, 1) := by decide +kernel
theorem dL_law_1119 : decode cL_law 1119 = .ok (.lcmp, 1) := by decide +kernel
theorem dL_law_1120 : decode cL_law 1120 = .ok (.ifCond .eq 5, 3) := by decide +kernel
theorem dL_law_1123 : decode cL_law 1123 = .ok (.iconst 0, 1) := by decide +kernel
theorem dL_law_1124 : decode cL_law 1124 = .ok (.ireturn, 1) := by decide +kernel
theorem dL_law_1125 : decode cL_law 1125 = .ok (.goto 750, 3) := by decide +kernel
theorem dL_law_1128 : decode cL_law 1128 = .ok (.aload_n 1, 1) := by decide +kernel
theorem dL_law_1129 : decode cL_law 1129 = .ok (.aload_n 0, 1) := by decide +kernel
theorem dL_law_1130 : decode cL_law 1130 = .ok (.iload 4, 2) := by decide +kernel
theorem dL_law_1132 : decode cL_law 1132 = .ok (.iconst 1, 1) := by decide +kernel
theorem dL_law_1133 : decode cL_law 1133 = .ok (.iadd, 1) := by decide +kernel
theorem dL_law_1134 : decode cL_law 1134 = .ok (.iaload, 1) := by decide +kernel
theorem dL_law_1135 : decode cL_law 1135 = .ok (.aload_n 3, 1) := by decide +kernel
theorem dL_law_1136 : decode cL_law 1136 = .ok (.invokestatic 158, 3) := by decide +kernel
theorem dL_law_1139 : decode cL_law 1139 = .ok (.istore 5, 2) := by decide +kernel
theorem dL_law_1141 : decode cL_law 1141 = .ok (.aload_n 2, 1) := by decide +kernel
theorem dL_law_1142 : decode cL_law 1142 = .ok (.aload_n 0, 1) := by decide +kernel
theorem dL_law_1143 : decode cL_law 1143 = .ok (.iload 4, 2) := by decide +kernel
theorem dL_law_1145 : decode cL_law 1145 = .ok (.iconst 1, 1) := by decide +kernel
theorem dL_law_1146 : decode cL_law 1146 = .ok (.iadd, 1) := by decide +kernel
theorem dL_law_1147 : decode cL_law 1147 = .ok (.iaload, 1) := by decide +kernel
theorem dL_law_1148 : decode cL_law 1148 = .ok (.invokevirtual 160, 3) := by decide +kernel
theorem dL_law_1151 : decode cL_law 1151 = .ok (.istore 6, 2) := by decide +kernel
theorem dL_law_1153 : decode cL_law 1153 = .ok (.aload_n 2, 1) := by decide +kernel
theorem dL_law_1154 : decode cL_law 1154 = .ok (.invokevirtual 107, 3) := by decide +kernel
theorem dL_law_1157 : decode cL_law 1157 = .ok (.iload 5, 2) := by decide +kernel
theorem dL_law_1159 : decode cL_law 1159 = .ok (.if_icmp .eq 5, 3) := by decide +kernel
theorem dL_law_1162 : decode cL_law 1162 = .ok (.iconst 0, 1) := by decide +kernel
theorem dL_law_1163 : decode cL_law 1163 = .ok (.ireturn, 1) := by decide +kernel
theorem dL_law_1164 : decode cL_law 1164 = .ok (.iload 5, 2) := by decide +kernel
theorem dL_law_1166 : decode cL_law 1166 = .ok (.ifCond .ne 15, 3) := by decide +kernel
theorem dL_law_1169 : decode cL_law 1169 = .ok (.aload_n 3, 1) := by decide +kernel
theorem dL_law_1170 : decode cL_law 1170 = .ok (.iconst 0, 1) := by decide +kernel
theorem dL_law_1171 : decode cL_law 1171 = .ok (.laload, 1) := by decide +kernel
theorem dL_law_1172 : decode cL_law 1172 = .ok (.iload 6, 2) := by decide +kernel
theorem dL_law_1174 : decode cL_law 1174 = .ok (.i2l, 1) := by decide +kernel
theorem dL_law_1175 : decode cL_law 1175 = .ok (.lcmp, 1) := by decide +kernel
theorem dL_law_1176 : decode cL_law 1176 = .ok (.ifCond .eq 5, 3) := by decide +kernel
theorem dL_law_1179 : decode cL_law 1179 = .ok (.iconst 0, 1) := by decide +kernel
theorem dL_law_1180 : decode cL_law 1180 = .ok (.ireturn, 1) := by decide +kernel
theorem dL_law_1181 : decode cL_law 1181 = .ok (.goto 694, 3) := by decide +kernel
theorem dL_law_1184 : decode cL_law 1184 = .ok (.aload_n 1, 1) := by decide +kernel
theorem dL_law_1185 : decode cL_law 1185 = .ok (.aload_n 0, 1) := by decide +kernel
theorem dL_law_1186 : decode cL_law 1186 = .ok (.iload 4, 2) := by decide +kernel
theorem dL_law_1188 : decode cL_law 1188 = .ok (.iconst 1, 1) := by decide +kernel
theorem dL_law_1189 : decode cL_law 1189 = .ok (.iadd, 1) := by decide +kernel
theorem dL_law_1190 : decode cL_law 1190 = .ok (.iaload, 1) := by decide +kernel
theorem dL_law_1191 : decode cL_law 1191 = .ok (.aload_n 0, 1) := by decide +kernel
theorem dL_law_1192 : decode cL_law 1192 = .ok (.iload 4, 2) := by decide +kernel
theorem dL_law_1194 : decode cL_law 1194 = .ok (.iconst 2, 1) := by decide +kernel
theorem dL_law_1195 : decode cL_law 1195 = .ok (.iadd, 1) := by decide +kernel
theorem dL_law_1196 : decode cL_law 1196 = .ok (.iaload, 1) := by decide +kernel
theorem dL_law_1197 : decode cL_law 1197 = .ok (.aload_n 0, 1) := by decide +kernel
theorem dL_law_1198 : decode cL_law 1198 = .ok (.iload 4, 2) := by decide +kernel
theorem dL_law_1200 : decode cL_law 1200 = .ok (.iconst 3, 1) := by decide +kernel
theorem dL_law_1201 : decode cL_law 1201 = .ok (.iadd, 1) := by decide +kernel
theorem dL_law_1202 : decode cL_law 1202 = .ok (.iaload, 1) := by decide +kernel
theorem dL_law_1203 : decode cL_law 1203 = .ok (.aload_n 0, 1) := by decide +kernel
theorem dL_law_1204 : decode cL_law 1204 = .ok (.iload 4, 2) := by decide +kernel
theorem dL_law_1206 : decode cL_law 1206 = .ok (.iconst 4, 1) := by decide +kernel
theorem dL_law_1207 : decode cL_law 1207 = .ok (.iadd, 1) := by decide +kernel
theorem dL_law_1208 : decode cL_law 1208 = .ok (.iaload, 1) := by decide +kernel
theorem dL_law_1209 : decode cL_law 1209 = .ok (.aload_n 3, 1) := by decide +kernel
theorem dL_law_1210 : decode cL_law 1210 = .ok (.invokestatic 161, 3) := by decide +kernel
theorem dL_law_1213 : decode cL_law 1213 = .ok (.istore 5, 2) := by decide +kernel
theorem dL_law_1215 : decode cL_law 1215 = .ok (.aload_n 2, 1) := by decide +kernel
theorem dL_law_1216 : decode cL_law 1216 = .ok (.aload_n 0, 1) := by decide +kernel
theorem dL_law_1217 : decode cL_law 1217 = .ok (.iload 4, 2) := by decide +kernel
theorem dL_law_1219 : decode cL_law 1219 = .ok (.iconst 1, 1) := by decide +kernel
theorem dL_law_1220 : decode cL_law 1220 = .ok (.iadd, 1) := by decide +kernel
theorem dL_law_1221 : decode cL_law 1221 = .ok (.iaload, 1) := by decide +kernel
theorem dL_law_1222 : decode cL_law 1222 = .ok (.aload_n 0, 1) := by decide +kernel
theorem dL_law_1223 : decode cL_law 1223 = .ok (.iload 4, 2) := by decide +kernel
theorem dL_law_1225 : decode cL_law 1225 = .ok (.iconst 2, 1) := by decide +kernel
theorem dL_law_1226 : decode cL_law 1226 = .ok (.iadd, 1) := by decide +kernel
theorem dL_law_1227 : decode cL_law 1227 = .ok (.iaload, 1) := by decide +kernel
theorem dL_law_1228 : decode cL_law 1228 = .ok (.aload_n 0, 1) := by decide +kernel
theorem dL_law_1229 : decode cL_law 1229 = .ok (.iload 4, 2) := by decide +kernel
theorem dL_law_1231 : decode cL_law 1231 = .ok (.iconst 3, 1) := by decide +kernel
theorem dL_law_1232 : decode cL_law 1232 = .ok (.iadd, 1) := by decide +kernel
theorem dL_law_1233 : decode cL_law 1233 = .ok (.iaload, 1) := by decide +kernel
theorem dL_law_1234 : decode cL_law 1234 = .ok (.aload_n 0, 1) := by decide +kernel
theorem dL_law_1235 : decode cL_law 1235 = .ok (.iload 4, 2) := by decide +kernel
theorem dL_law_1237 : decode cL_law 1237 = .ok (.iconst 4, 1) := by decide +kernel
theorem dL_law_1238 : decode cL_law 1238 = .ok (.iadd, 1) := by decide +kernel
theorem dL_law_1239 : decode cL_law 1239 = .ok (.iaload, 1) := by decide +kernel
theorem dL_law_1240 : decode cL_law 1240 = .ok (.invokevirtual 163, 3) := by decide +kernel
theorem dL_law_1243 : decode cL_law 1243 = .ok (.istore 6, 2) := by decide +kernel
theorem dL_law_1245 : decode cL_law 1245 = .ok (.aload_n 2, 1) := by decide +kernel
theorem dL_law_1246 : decode cL_law 1246 = .ok (.invokevirtual 107, 3) := by decide +kernel
theorem dL_law_1249 : decode cL_law 1249 = .ok (.iload 5, 2) := by decide +kernel
theorem dL_law_1251 : decode cL_law 1251 = .ok (.if_icmp .eq 5, 3) := by decide +kernel
theorem dL_law_1254 : decode cL_law 1254 = .ok (.iconst 0, 1) := by decide +kernel
theorem dL_law_1255 : decode cL_law 1255 = .ok (.ireturn, 1) := by decide +kernel
theorem dL_law_1256 : decode cL_law 1256 = .ok (.iload 5, 2) := by decide +kernel
theorem dL_law_1258 : decode cL_law 1258 = .ok (.ifCond .ne 15, 3) := by decide +kernel
theorem dL_law_1261 : decode cL_law 1261 = .ok (.aload_n 3, 1) := by decide +kernel
theorem dL_law_1262 : decode cL_law 1262 = .ok (.iconst 0, 1) := by decide +kernel
theorem dL_law_1263 : decode cL_law 1263 = .ok (.laload, 1) := by decide +kernel
theorem dL_law_1264 : decode cL_law 1264 = .ok (.iload 6, 2) := by decide +kernel
theorem dL_law_1266 : decode cL_law 1266 = .ok (.i2l, 1) := by decide +kernel
theorem dL_law_1267 : decode cL_law 1267 = .ok (.lcmp, 1) := by decide +kernel
theorem dL_law_1268 : decode cL_law 1268 = .ok (.ifCond .eq 5, 3) := by decide +kernel
theorem dL_law_1271 : decode cL_law 1271 = .ok (.iconst 0, 1) := by decide +kernel
theorem dL_law_1272 : decode cL_law 1272 = .ok (.ireturn, 1) := by decide +kernel
theorem dL_law_1273 : decode cL_law 1273 = .ok (.goto 602, 3) := by decide +kernel
theorem dL_law_1276 : decode cL_law 1276 = .ok (.aload_n 1, 1) := by decide +kernel
theorem dL_law_1277 : decode cL_law 1277 = .ok (.aload_n 0, 1) := by decide +kernel
theorem dL_law_1278 : decode cL_law 1278 = .ok (.iload 4, 2) := by decide +kernel
theorem dL_law_1280 : decode cL_law 1280 = .ok (.iconst 1, 1) := by decide +kernel
theorem dL_law_1281 : decode cL_law 1281 = .ok (.iadd, 1) := by decide +kernel
theorem dL_law_1282 : decode cL_law 1282 = .ok (.iaload, 1) := by decide +kernel
theorem dL_law_1283 : decode cL_law 1283 = .ok (.aload_n 3, 1) := by decide +kernel
theorem dL_law_1284 : decode cL_law 1284 = .ok (.invokestatic 164, 3) := by decide +kernel
theorem dL_law_1287 : decode cL_law 1287 = .ok (.istore 5, 2) := by decide +kernel
theorem dL_law_1289 : decode cL_law 1289 = .ok (.aload_n 2, 1) := by decide +kernel
theorem dL_law_1290 : decode cL_law 1290 = .ok (.aload_n 0, 1) := by decide +kernel
theorem dL_law_1291 : decode cL_law 1291 = .ok (.iload 4, 2) := by decide +kernel
theorem dL_law_1293 : decode cL_law 1293 = .ok (.iconst 1, 1) := by decide +kernel
theorem dL_law_1294 : decode cL_law 1294 = .ok (.iadd, 1) := by decide +kernel
theorem dL_law_1295 : decode cL_law 1295 = .ok (.iaload, 1) := by decide +kernel
theorem dL_law_1296 : decode cL_law 1296 = .ok (.invokevirtual 166, 3) := by decide +kernel
theorem dL_law_1299 : decode cL_law 1299 = .ok (.istore 6, 2) := by decide +kernel
theorem dL_law_1301 : decode cL_law 1301 = .ok (.aload_n 2, 1) := by decide +kernel
theorem dL_law_1302 : decode cL_law 1302 = .ok (.invokevirtual 107, 3) := by decide +kernel
theorem dL_law_1305 : decode cL_law 1305 = .ok (.iload 5, 2) := by decide +kernel
theorem dL_law_1307 : decode cL_law 1307 = .ok (.if_icmp .eq 5, 3) := by decide +kernel
theorem dL_law_1310 : decode cL_law 1310 = .ok (.iconst 0, 1) := by decide +kernel
theorem dL_law_1311 : decode cL_law 1311 = .ok (.ireturn, 1) := by decide +kernel
theorem dL_law_1312 : decode cL_law 1312 = .ok (.iload 5, 2) := by decide +kernel
theorem dL_law_1314 : decode cL_law 1314 = .ok (.ifCond .ne 15, 3) := by decide +kernel
theorem dL_law_1317 : decode cL_law 1317 = .ok (.aload_n 3, 1) := by decide +kernel
theorem dL_law_1318 : decode cL_law 1318 = .ok (.iconst 0, 1) := by decide +kernel
theorem dL_law_1319 : decode cL_law 1319 = .ok (.laload, 1) := by decide +kernel
theorem dL_law_1320 : decode cL_law 1320 = .ok (.iload 6, 2) := by decide +kernel
theorem dL_law_1322 : decode cL_law 1322 = .ok (.i2l, 1) := by decide +kernel
theorem dL_law_1323 : decode cL_law 1323 = .ok (.lcmp, 1) := by decide +kernel
theorem dL_law_1324 : decode cL_law 1324 = .ok (.ifCond .eq 5, 3) := by decide +kernel
theorem dL_law_1327 : decode cL_law 1327 = .ok (.iconst 0, 1) := by decide +kernel
theorem dL_law_1328 : decode cL_law 1328 = .ok (.ireturn, 1) := by decide +kernel
theorem dL_law_1329 : decode cL_law 1329 = .ok (.goto 546, 3) := by decide +kernel
theorem dL_law_1332 : decode cL_law 1332 = .ok (.aload_n 1, 1) := by decide +kernel
theorem dL_law_1333 : decode cL_law 1333 = .ok (.aload_n 0, 1) := by decide +kernel
theorem dL_law_1334 : decode cL_law 1334 = .ok (.iload 4, 2) := by decide +kernel
theorem dL_law_1336 : decode cL_law 1336 = .ok (.iconst 1, 1) := by decide +kernel
theorem dL_law_1337 : decode cL_law 1337 = .ok (.iadd, 1) := by decide +kernel
theorem dL_law_1338 : decode cL_law 1338 = .ok (.iaload, 1) := by decide +kernel
theorem dL_law_1339 : decode cL_law 1339 = .ok (.aload_n 0, 1) := by decide +kernel
theorem dL_law_1340 : decode cL_law 1340 = .ok (.iload 4, 2) := by decide +kernel
theorem dL_law_1342 : decode cL_law 1342 = .ok (.iconst 2, 1) := by decide +kernel
theorem dL_law_1343 : decode cL_law 1343 = .ok (.iadd, 1) := by decide +kernel
theorem dL_law_1344 : decode cL_law 1344 = .ok (.iaload, 1) := by decide +kernel
theorem dL_law_1345 : decode cL_law 1345 = .ok (.aload_n 0, 1) := by decide +kernel
theorem dL_law_1346 : decode cL_law 1346 = .ok (.iload 4, 2) := by decide +kernel
theorem dL_law_1348 : decode cL_law 1348 = .ok (.iconst 3, 1) := by decide +kernel
theorem dL_law_1349 : decode cL_law 1349 = .ok (.iadd, 1) := by decide +kernel
theorem dL_law_1350 : decode cL_law 1350 = .ok (.iaload, 1) := by decide +kernel
theorem dL_law_1351 : decode cL_law 1351 = .ok (.aload_n 3, 1) := by decide +kernel
theorem dL_law_1352 : decode cL_law 1352 = .ok (.invokestatic 167, 3) := by decide +kernel
theorem dL_law_1355 : decode cL_law 1355 = .ok (.istore 5, 2) := by decide +kernel
theorem dL_law_1357 : decode cL_law 1357 = .ok (.aload_n 2, 1) := by decide +kernel
theorem dL_law_1358 : decode cL_law 1358 = .ok (.aload_n 0, 1) := by decide +kernel
theorem dL_law_1359 : decode cL_law 1359 = .ok (.iload 4, 2) := by decide +kernel
theorem dL_law_1361 : decode cL_law 1361 = .ok (.iconst 1, 1) := by decide +kernel
theorem dL_law_1362 : decode cL_law 1362 = .ok (.iadd, 1) := by decide +kernel
theorem dL_law_1363 : decode cL_law 1363 = .ok (.iaload, 1) := by decide +kernel
theorem dL_law_1364 : decode cL_law 1364 = .ok (.aload_n 0, 1) := by decide +kernel
theorem dL_law_1365 : decode cL_law 1365 = .ok (.iload 4, 2) := by decide +kernel
theorem dL_law_1367 : decode cL_law 1367 = .ok (.iconst 2, 1) := by decide +kernel
theorem dL_law_1368 : decode cL_law 1368 = .ok (.iadd, 1) := by decide +kernel
theorem dL_law_1369 : decode cL_law 1369 = .ok (.iaload, 1) := by decide +kernel
theorem dL_law_1370 : decode cL_law 1370 = .ok (.aload_n 0, 1) := by decide +kernel
theorem dL_law_1371 : decode cL_law 1371 = .ok (.iload 4, 2) := by decide +kernel
theorem dL_law_1373 : decode cL_law 1373 = .ok (.iconst 3, 1) := by decide +kernel
theorem dL_law_1374 : decode cL_law 1374 = .ok (.iadd, 1) := by decide +kernel
theorem dL_law_1375 : decode cL_law 1375 = .ok (.iaload, 1) := by decide +kernel
theorem dL_law_1376 : decode cL_law 1376 = .ok (.invokevirtual 169, 3) := by decide +kernel
theorem dL_law_1379 : decode cL_law 1379 = .ok (.istore 6, 2) := by decide +kernel
theorem dL_law_1381 : decode cL_law 1381 = .ok (.aload_n 2, 1) := by decide +kernel
theorem dL_law_1382 : decode cL_law 1382 = .ok (.invokevirtual 107, 3) := by decide +kernel
theorem dL_law_1385 : decode cL_law 1385 = .ok (.iload 5, 2) := by decide +kernel
theorem dL_law_1387 : decode cL_law 1387 = .ok (.if_icmp .eq 5, 3) := by decide +kernel
theorem dL_law_1390 : decode cL_law 1390 = .ok (.iconst 0, 1) := by decide +kernel
theorem dL_law_1391 : decode cL_law 1391 = .ok (.ireturn, 1) := by decide +kernel
theorem dL_law_1392 : decode cL_law 1392 = .ok (.iload 5, 2) := by decide +kernel
theorem dL_law_1394 : decode cL_law 1394 = .ok (.ifCond .ne 15, 3) := by decide +kernel
theorem dL_law_1397 : decode cL_law 1397 = .ok (.aload_n 3, 1) := by decide +kernel
theorem dL_law_1398 : decode cL_law 1398 = .ok (.iconst 0, 1) := by decide +kernel
theorem dL_law_1399 : decode cL_law 1399 = .ok (.laload, 1) := by decide +kernel
theorem dL_law_1400 : decode cL_law 1400 = .ok (.iload 6, 2) := by decide +kernel
theorem dL_law_1402 : decode cL_law 1402 = .ok (.i2l, 1) := by decide +kernel
theorem dL_law_1403 : decode cL_law 1403 = .ok (.lcmp, 1) := by decide +kernel
theorem dL_law_1404 : decode cL_law 1404 = .ok (.ifCond .eq 5, 3) := by decide +kernel
theorem dL_law_1407 : decode cL_law 1407 = .ok (.iconst 0, 1) := by decide +kernel
theorem dL_law_1408 : decode cL_law 1408 = .ok (.ireturn, 1) := by decide +kernel
theorem dL_law_1409 : decode cL_law 1409 = .ok (.goto 466, 3) := by decide +kernel
theorem dL_law_1412 : decode cL_law 1412 = .ok (.aload_n 1, 1) := by decide +kernel
theorem dL_law_1413 : decode cL_law 1413 = .ok (.aload_n 0, 1) := by decide +kernel
theorem dL_law_1414 : decode cL_law 1414 = .ok (.iload 4, 2) := by decide +kernel
theorem dL_law_1416 : decode cL_law 1416 = .ok (.iconst 1, 1) := by decide +kernel
theorem dL_law_1417 : decode cL_law 1417 = .ok (.iadd, 1) := by decide +kernel
theorem dL_law_1418 : decode cL_law 1418 = .ok (.iaload, 1) := by decide +kernel
theorem dL_law_1419 : decode cL_law 1419 = .ok (.aload_n 0, 1) := by decide +kernel
theorem dL_law_1420 : decode cL_law 1420 = .ok (.iload 4, 2) := by decide +kernel
theorem dL_law_1422 : decode cL_law 1422 = .ok (.iconst 2, 1) := by decide +kernel
theorem dL_law_1423 : decode cL_law 1423 = .ok (.iadd, 1) := by decide +kernel
theorem dL_law_1424 : decode cL_law 1424 = .ok (.iaload, 1) := by decide +kernel
theorem dL_law_1425 : decode cL_law 1425 = .ok (.aload_n 0, 1) := by decide +kernel
theorem dL_law_1426 : decode cL_law 1426 = .ok (.iload 4, 2) := by decide +kernel
theorem dL_law_1428 : decode cL_law 1428 = .ok (.iconst 3, 1) := by decide +kernel
theorem dL_law_1429 : decode cL_law 1429 = .ok (.iadd, 1) := by decide +kernel
theorem dL_law_1430 : decode cL_law 1430 = .ok (.iaload, 1) := by decide +kernel
theorem dL_law_1431 : decode cL_law 1431 = .ok (.aload_n 3, 1) := by decide +kernel
theorem dL_law_1432 : decode cL_law 1432 = .ok (.invokestatic 170, 3) := by decide +kernel
theorem dL_law_1435 : decode cL_law 1435 = .ok (.istore 5, 2) := by decide +kernel
theorem dL_law_1437 : decode cL_law 1437 = .ok (.aload_n 2, 1) := by decide +kernel
theorem dL_law_1438 : decode cL_law 1438 = .ok (.aload_n 0, 1) := by decide +kernel
theorem dL_law_1439 : decode cL_law 1439 = .ok (.iload 4, 2) := by decide +kernel
theorem dL_law_1441 : decode cL_law 1441 = .ok (.iconst 1, 1) := by decide +kernel
theorem dL_law_1442 : decode cL_law 1442 = .ok (.iadd, 1) := by decide +kernel
theorem dL_law_1443 : decode cL_law 1443 = .ok (.iaload, 1) := by decide +kernel
theorem dL_law_1444 : decode cL_law 1444 = .ok (.aload_n 0, 1) := by decide +kernel
theorem dL_law_1445 : decode cL_law 1445 = .ok (.iload 4, 2) := by decide +kernel
theorem dL_law_1447 : decode cL_law 1447 = .ok (.iconst 2, 1) := by decide +kernel
theorem dL_law_1448 : decode cL_law 1448 = .ok (.iadd, 1) := by decide +kernel
theorem dL_law_1449 : decode cL_law 1449 = .ok (.iaload, 1) := by decide +kernel
theorem dL_law_1450 : decode cL_law 1450 = .ok (.aload_n 0, 1) := by decide +kernel
theorem dL_law_1451 : decode cL_law 1451 = .ok (.iload 4, 2) := by decide +kernel
theorem dL_law_1453 : decode cL_law 1453 = .ok (.iconst 3, 1) := by decide +kernel
theorem dL_law_1454 : decode cL_law 1454 = .ok (.iadd, 1) := by decide +kernel
theorem dL_law_1455 : decode cL_law 1455 = .ok (.iaload, 1) := by decide +kernel
theorem dL_law_1456 : decode cL_law 1456 = .ok (.invokevirtual 172, 3) := by decide +kernel
theorem dL_law_1459 : decode cL_law 1459 = .ok (.lstore 6, 2) := by decide +kernel
theorem dL_law_1461 : decode cL_law 1461 = .ok (.aload_n 2, 1) := by decide +kernel
theorem dL_law_1462 : decode cL_law 1462 = .ok (.invokevirtual 107, 3) := by decide +kernel
theorem dL_law_1465 : decode cL_law 1465 = .ok (.iload 5, 2) := by decide +kernel
theorem dL_law_1467 : decode cL_law 1467 = .ok (.if_icmp .eq 5, 3) := by decide +kernel
theorem dL_law_1470 : decode cL_law 1470 = .ok (.iconst 0, 1) := by decide +kernel
theorem dL_law_1471 : decode cL_law 1471 = .ok (.ireturn, 1) := by decide +kernel
theorem dL_law_1472 : decode cL_law 1472 = .ok (.iload 5, 2) := by decide +kernel
theorem dL_law_1474 : decode cL_law 1474 = .ok (.ifCond .ne 14, 3) := by decide +kernel
theorem dL_law_1477 : decode cL_law 1477 = .ok (.aload_n 3, 1) := by decide +kernel
theorem dL_law_1478 : decode cL_law 1478 = .ok (.iconst 0, 1) := by decide +kernel
theorem dL_law_1479 : decode cL_law 1479 = .ok (.laload, 1) := by decide +kernel
theorem dL_law_1480 : decode cL_law 1480 = .ok (.lload 6, 2) := by decide +kernel
theorem dL_law_1482 : decode cL_law 1482 = .ok (.lcmp, 1) := by decide +kernel
theorem dL_law_1483 : decode cL_law 1483 = .ok (.ifCond .eq 5, 3) := by decide +kernel
theorem dL_law_1486 : decode cL_law 1486 = .ok (.iconst 0, 1) := by decide +kernel
theorem dL_law_1487 : decode cL_law 1487 = .ok (.ireturn, 1) := by decide +kernel
theorem dL_law_1488 : decode cL_law 1488 = .ok (.goto 387, 3) := by decide +kernel
theorem dL_law_1491 : decode cL_law 1491 = .ok (.aload_n 1, 1) := by decide +kernel
theorem dL_law_1492 : decode cL_law 1492 = .ok (.aload_n 0, 1) := by decide +kernel
theorem dL_law_1493 : decode cL_law 1493 = .ok (.iload 4, 2) := by decide +kernel
theorem dL_law_1495 : decode cL_law 1495 = .ok (.iconst 1, 1) := by decide +kernel
theorem dL_law_1496 : decode cL_law 1496 = .ok (.iadd, 1) := by decide +kernel
theorem dL_law_1497 : decode cL_law 1497 = .ok (.iaload, 1) := by decide +kernel
theorem dL_law_1498 : decode cL_law 1498 = .ok (.aload_n 0, 1) := by decide +kernel
theorem dL_law_1499 : decode cL_law 1499 = .ok (.iload 4, 2) := by decide +kernel
theorem dL_law_1501 : decode cL_law 1501 = .ok (.iconst 2, 1) := by decide +kernel
theorem dL_law_1502 : decode cL_law 1502 = .ok (.iadd, 1) := by decide +kernel
theorem dL_law_1503 : decode cL_law 1503 = .ok (.iaload, 1) := by decide +kernel
theorem dL_law_1504 : decode cL_law 1504 = .ok (.aload_n 3, 1) := by decide +kernel
theorem dL_law_1505 : decode cL_law 1505 = .ok (.invokestatic 173, 3) := by decide +kernel
theorem dL_law_1508 : decode cL_law 1508 = .ok (.istore 5, 2) := by decide +kernel
theorem dL_law_1510 : decode cL_law 1510 = .ok (.aload_n 2, 1) := by decide +kernel
theorem dL_law_1511 : decode cL_law 1511 = .ok (.aload_n 0, 1) := by decide +kernel
theorem dL_law_1512 : decode cL_law 1512 = .ok (.iload 4, 2) := by decide +kernel
theorem dL_law_1514 : decode cL_law 1514 = .ok (.iconst 1, 1) := by decide +kernel
theorem dL_law_1515 : decode cL_law 1515 = .ok (.iadd, 1) := by decide +kernel
theorem dL_law_1516 : decode cL_law 1516 = .ok (.iaload, 1) := by decide +kernel
theorem dL_law_1517 : decode cL_law 1517 = .ok (.aload_n 0, 1) := by decide +kernel
theorem dL_law_1518 : decode cL_law 1518 = .ok (.iload 4, 2) := by decide +kernel
theorem dL_law_1520 : decode cL_law 1520 = .ok (.iconst 2, 1) := by decide +kernel
theorem dL_law_1521 : decode cL_law 1521 = .ok (.iadd, 1) := by decide +kernel
theorem dL_law_1522 : decode cL_law 1522 = .ok (.iaload, 1) := by decide +kernel
theorem dL_law_1523 : decode cL_law 1523 = .ok (.invokevirtual 175, 3) := by decide +kernel
theorem dL_law_1526 : decode cL_law 1526 = .ok (.lstore 6, 2) := by decide +kernel
theorem dL_law_1528 : decode cL_law 1528 = .ok (.aload_n 2, 1) := by decide +kernel
theorem dL_law_1529 : decode cL_law 1529 = .ok (.invokevirtual 107, 3) := by decide +kernel
theorem dL_law_1532 : decode cL_law 1532 = .ok (.iload 5, 2) := by decide +kernel
theorem dL_law_1534 : decode cL_law 1534 = .ok (.if_icmp .eq 5, 3) := by decide +kernel
theorem dL_law_1537 : decode cL_law 1537 = .ok (.iconst 0, 1) := by decide +kernel
theorem dL_law_1538 : decode cL_law 1538 = .ok (.ireturn, 1) := by decide +kernel
theorem dL_law_1539 : decode cL_law 1539 = .ok (.iload 5, 2) := by decide +kernel
theorem dL_law_1541 : decode cL_law 1541 = .ok (.ifCond .ne 14, 3) := by decide +kernel
theorem dL_law_1544 : decode cL_law 1544 = .ok (.aload_n 3, 1) := by decide +kernel
theorem dL_law_1545 : decode cL_law 1545 = .ok (.iconst 0, 1) := by decide +kernel
theorem dL_law_1546 : decode cL_law 1546 = .ok (.laload, 1) := by decide +kernel
theorem dL_law_1547 : decode cL_law 1547 = .ok (.lload 6, 2) := by decide +kernel
theorem dL_law_1549 : decode cL_law 1549 = .ok (.lcmp, 1) := by decide +kernel
theorem dL_law_1550 : decode cL_law 1550 = .ok (.ifCond .eq 5, 3) := by decide +kernel
theorem dL_law_1553 : decode cL_law 1553 = .ok (.iconst 0, 1) := by decide +kernel
theorem dL_law_1554 : decode cL_law 1554 = .ok (.ireturn, 1) := by decide +kernel
theorem dL_law_1555 : decode cL_law 1555 = .ok (.goto 320, 3) := by decide +kernel
theorem dL_law_1558 : decode cL_law 1558 = .ok (.aload_n 1, 1) := by decide +kernel
theorem dL_law_1559 : decode cL_law 1559 = .ok (.aload_n 0, 1) := by decide +kernel
theorem dL_law_1560 : decode cL_law 1560 = .ok (.iload 4, 2) := by decide +kernel
theorem dL_law_1562 : decode cL_law 1562 = .ok (.iconst 1, 1) := by decide +kernel
theorem dL_law_1563 : decode cL_law 1563 = .ok (.iadd, 1) := by decide +kernel
theorem dL_law_1564 : decode cL_law 1564 = .ok (.iaload, 1) := by decide +kernel
theorem dL_law_1565 : decode cL_law 1565 = .ok (.aload_n 0, 1) := by decide +kernel
theorem dL_law_1566 : decode cL_law 1566 = .ok (.iload 4, 2) := by decide +kernel
theorem dL_law_1568 : decode cL_law 1568 = .ok (.iconst 2, 1) := by decide +kernel
theorem dL_law_1569 : decode cL_law 1569 = .ok (.iadd, 1) := by decide +kernel
theorem dL_law_1570 : decode cL_law 1570 = .ok (.iaload, 1) := by decide +kernel
theorem dL_law_1571 : decode cL_law 1571 = .ok (.aload_n 0, 1) := by decide +kernel
theorem dL_law_1572 : decode cL_law 1572 = .ok (.iload 4, 2) := by decide +kernel
theorem dL_law_1574 : decode cL_law 1574 = .ok (.iconst 3, 1) := by decide +kernel
theorem dL_law_1575 : decode cL_law 1575 = .ok (.iadd, 1) := by decide +kernel
theorem dL_law_1576 : decode cL_law 1576 = .ok (.iaload, 1) := by decide +kernel
theorem dL_law_1577 : decode cL_law 1577 = .ok (.aload_n 3, 1) := by decide +kernel
theorem dL_law_1578 : decode cL_law 1578 = .ok (.invokestatic 176, 3) := by decide +kernel
theorem dL_law_1581 : decode cL_law 1581 = .ok (.istore 5, 2) := by decide +kernel
theorem dL_law_1583 : decode cL_law 1583 = .ok (.aload_n 2, 1) := by decide +kernel
theorem dL_law_1584 : decode cL_law 1584 = .ok (.aload_n 0, 1) := by decide +kernel
theorem dL_law_1585 : decode cL_law 1585 = .ok (.iload 4, 2) := by decide +kernel
theorem dL_law_1587 : decode cL_law 1587 = .ok (.iconst 1, 1) := by decide +kernel
theorem dL_law_1588 : decode cL_law 1588 = .ok (.iadd, 1) := by decide +kernel
theorem dL_law_1589 : decode cL_law 1589 = .ok (.iaload, 1) := by decide +kernel
theorem dL_law_1590 : decode cL_law 1590 = .ok (.aload_n 0, 1) := by decide +kernel
theorem dL_law_1591 : decode cL_law 1591 = .ok (.iload 4, 2) := by decide +kernel
theorem dL_law_1593 : decode cL_law 1593 = .ok (.iconst 2, 1) := by decide +kernel
theorem dL_law_1594 : decode cL_law 1594 = .ok (.iadd, 1) := by decide +kernel
theorem dL_law_1595 : decode cL_law 1595 = .ok (.iaload, 1) := by decide +kernel
theorem dL_law_1596 : decode cL_law 1596 = .ok (.aload_n 0, 1) := by decide +kernel
theorem dL_law_1597 : decode cL_law 1597 = .ok (.iload 4, 2) := by decide +kernel
theorem dL_law_1599 : decode cL_law 1599 = .ok (.iconst 3, 1) := by decide +kernel
theorem dL_law_1600 : decode cL_law 1600 = .ok (.iadd, 1) := by decide +kernel
theorem dL_law_1601 : decode cL_law 1601 = .ok (.iaload, 1) := by decide +kernel
theorem dL_law_1602 : decode cL_law 1602 = .ok (.invokevirtual 178, 3) := by decide +kernel
theorem dL_law_1605 : decode cL_law 1605 = .ok (.istore 6, 2) := by decide +kernel
theorem dL_law_1607 : decode cL_law 1607 = .ok (.aload_n 2, 1) := by decide +kernel
theorem dL_law_1608 : decode cL_law 1608 = .ok (.invokevirtual 107, 3) := by decide +kernel
theorem dL_law_1611 : decode cL_law 1611 = .ok (.iload 5, 2) := by decide +kernel
theorem dL_law_1613 : decode cL_law 1613 = .ok (.if_icmp .eq 5, 3) := by decide +kernel
theorem dL_law_1616 : decode cL_law 1616 = .ok (.iconst 0, 1) := by decide +kernel
theorem dL_law_1617 : decode cL_law 1617 = .ok (.ireturn, 1) := by decide +kernel
theorem dL_law_1618 : decode cL_law 1618 = .ok (.iload 5, 2) := by decide +kernel
theorem dL_law_1620 : decode cL_law 1620 = .ok (.ifCond .ne 22, 3) := by decide +kernel
theorem dL_law_1623 : decode cL_law 1623 = .ok (.aload_n 3, 1) := by decide +kernel
theorem dL_law_1624 : decode cL_law 1624 = .ok (.iconst 0, 1) := by decide +kernel
theorem dL_law_1625 : decode cL_law 1625 = .ok (.laload, 1) := by decide +kernel
theorem dL_law_1626 : decode cL_law 1626 = .ok (.iload 6, 2) := by decide +kernel
theorem dL_law_1628 : decode cL_law 1628 = .ok (.ifCond .eq 7, 3) := by decide +kernel
theorem dL_law_1631 : decode cL_law 1631 = .ok (.lconst 1, 1) := by decide +kernel
theorem dL_law_1632 : decode cL_law 1632 = .ok (.goto 4, 3) := by decide +kernel
theorem dL_law_1635 : decode cL_law 1635 = .ok (.lconst 0, 1) := by decide +kernel
theorem dL_law_1636 : decode cL_law 1636 = .ok (.lcmp, 1) := by decide +kernel
theorem dL_law_1637 : decode cL_law 1637 = .ok (.ifCond .eq 5, 3) := by decide +kernel
theorem dL_law_1640 : decode cL_law 1640 = .ok (.iconst 0, 1) := by decide +kernel
theorem dL_law_1641 : decode cL_law 1641 = .ok (.ireturn, 1) := by decide +kernel
theorem dL_law_1642 : decode cL_law 1642 = .ok (.goto 233, 3) := by decide +kernel
theorem dL_law_1645 : decode cL_law 1645 = .ok (.aload_n 1, 1) := by decide +kernel
theorem dL_law_1646 : decode cL_law 1646 = .ok (.aload_n 0, 1) := by decide +kernel
theorem dL_law_1647 : decode cL_law 1647 = .ok (.iload 4, 2) := by decide +kernel
theorem dL_law_1649 : decode cL_law 1649 = .ok (.iconst 1, 1) := by decide +kernel
theorem dL_law_1650 : decode cL_law 1650 = .ok (.iadd, 1) := by decide +kernel
theorem dL_law_1651 : decode cL_law 1651 = .ok (.iaload, 1) := by decide +kernel
theorem dL_law_1652 : decode cL_law 1652 = .ok (.aload_n 0, 1) := by decide +kernel
theorem dL_law_1653 : decode cL_law 1653 = .ok (.iload 4, 2) := by decide +kernel
theorem dL_law_1655 : decode cL_law 1655 = .ok (.iconst 2, 1) := by decide +kernel
theorem dL_law_1656 : decode cL_law 1656 = .ok (.iadd, 1) := by decide +kernel
theorem dL_law_1657 : decode cL_law 1657 = .ok (.iaload, 1) := by decide +kernel
theorem dL_law_1658 : decode cL_law 1658 = .ok (.aload_n 0, 1) := by decide +kernel
theorem dL_law_1659 : decode cL_law 1659 = .ok (.iload 4, 2) := by decide +kernel
theorem dL_law_1661 : decode cL_law 1661 = .ok (.iconst 3, 1) := by decide +kernel
theorem dL_law_1662 : decode cL_law 1662 = .ok (.iadd, 1) := by decide +kernel
theorem dL_law_1663 : decode cL_law 1663 = .ok (.iaload, 1) := by decide +kernel
theorem dL_law_1664 : decode cL_law 1664 = .ok (.aload_n 0, 1) := by decide +kernel
theorem dL_law_1665 : decode cL_law 1665 = .ok (.iload 4, 2) := by decide +kernel
theorem dL_law_1667 : decode cL_law 1667 = .ok (.iconst 4, 1) := by decide +kernel
theorem dL_law_1668 : decode cL_law 1668 = .ok (.iadd, 1) := by decide +kernel
theorem dL_law_1669 : decode cL_law 1669 = .ok (.iaload, 1) := by decide +kernel
theorem dL_law_1670 : decode cL_law 1670 = .ok (.aload_n 3, 1) := by decide +kernel
theorem dL_law_1671 : decode cL_law 1671 = .ok (.invokestatic 179, 3) := by decide +kernel
theorem dL_law_1674 : decode cL_law 1674 = .ok (.istore 5, 2) := by decide +kernel
theorem dL_law_1676 : decode cL_law 1676 = .ok (.aload_n 2, 1) := by decide +kernel
theorem dL_law_1677 : decode cL_law 1677 = .ok (.aload_n 0, 1) := by decide +kernel
theorem dL_law_1678 : decode cL_law 1678 = .ok (.iload 4, 2) := by decide +kernel
theorem dL_law_1680 : decode cL_law 1680 = .ok (.iconst 1, 1) := by decide +kernel
theorem dL_law_1681 : decode cL_law 1681 = .ok (.iadd, 1) := by decide +kernel
theorem dL_law_1682 : decode cL_law 1682 = .ok (.iaload, 1) := by decide +kernel
theorem dL_law_1683 : decode cL_law 1683 = .ok (.aload_n 0, 1) := by decide +kernel
theorem dL_law_1684 : decode cL_law 1684 = .ok (.iload 4, 2) := by decide +kernel
theorem dL_law_1686 : decode cL_law 1686 = .ok (.iconst 2, 1) := by decide +kernel
theorem dL_law_1687 : decode cL_law 1687 = .ok (.iadd, 1) := by decide +kernel
theorem dL_law_1688 : decode cL_law 1688 = .ok (.iaload, 1) := by decide +kernel
theorem dL_law_1689 : decode cL_law 1689 = .ok (.aload_n 0, 1) := by decide +kernel
theorem dL_law_1690 : decode cL_law 1690 = .ok (.iload 4, 2) := by decide +kernel
theorem dL_law_1692 : decode cL_law 1692 = .ok (.iconst 3, 1) := by decide +kernel
theorem dL_law_1693 : decode cL_law 1693 = .ok (.iadd, 1) := by decide +kernel
theorem dL_law_1694 : decode cL_law 1694 = .ok (.iaload, 1) := by decide +kernel
theorem dL_law_1695 : decode cL_law 1695 = .ok (.aload_n 0, 1) := by decide +kernel
theorem dL_law_1696 : decode cL_law 1696 = .ok (.iload 4, 2) := by decide +kernel
theorem dL_law_1698 : decode cL_law 1698 = .ok (.iconst 4, 1) := by decide +kernel
theorem dL_law_1699 : decode cL_law 1699 = .ok (.iadd, 1) := by decide +kernel
theorem dL_law_1700 : decode cL_law 1700 = .ok (.iaload, 1) := by decide +kernel
theorem dL_law_1701 : decode cL_law 1701 = .ok (.invokevirtual 181, 3) := by decide +kernel
theorem dL_law_1704 : decode cL_law 1704 = .ok (.istore 6, 2) := by decide +kernel
theorem dL_law_1706 : decode cL_law 1706 = .ok (.aload_n 2, 1) := by decide +kernel
theorem dL_law_1707 : decode cL_law 1707 = .ok (.invokevirtual 107, 3) := by decide +kernel
theorem dL_law_1710 : decode cL_law 1710 = .ok (.iload 5, 2) := by decide +kernel
theorem dL_law_1712 : decode cL_law 1712 = .ok (.if_icmp .eq 5, 3) := by decide +kernel
theorem dL_law_1715 : decode cL_law 1715 = .ok (.iconst 0, 1) := by decide +kernel
theorem dL_law_1716 : decode cL_law 1716 = .ok (.ireturn, 1) := by decide +kernel
theorem dL_law_1717 : decode cL_law 1717 = .ok (.iload 5, 2) := by decide +kernel
theorem dL_law_1719 : decode cL_law 1719 = .ok (.ifCond .ne 22, 3) := by decide +kernel
theorem dL_law_1722 : decode cL_law 1722 = .ok (.aload_n 3, 1) := by decide +kernel
theorem dL_law_1723 : decode cL_law 1723 = .ok (.iconst 0, 1) := by decide +kernel
theorem dL_law_1724 : decode cL_law 1724 = .ok (.laload, 1) := by decide +kernel
theorem dL_law_1725 : decode cL_law 1725 = .ok (.iload 6, 2) := by decide +kernel
theorem dL_law_1727 : decode cL_law 1727 = .ok (.ifCond .eq 7, 3) := by decide +kernel
theorem dL_law_1730 : decode cL_law 1730 = .ok (.lconst 1, 1) := by decide +kernel
theorem dL_law_1731 : decode cL_law 1731 = .ok (.goto 4, 3) := by decide +kernel
theorem dL_law_1734 : decode cL_law 1734 = .ok (.lconst 0, 1) := by decide +kernel
theorem dL_law_1735 : decode cL_law 1735 = .ok (.lcmp, 1) := by decide +kernel
theorem dL_law_1736 : decode cL_law 1736 = .ok (.ifCond .eq 5, 3) := by decide +kernel
theorem dL_law_1739 : decode cL_law 1739 = .ok (.iconst 0, 1) := by decide +kernel
theorem dL_law_1740 : decode cL_law 1740 = .ok (.ireturn, 1) := by decide +kernel
theorem dL_law_1741 : decode cL_law 1741 = .ok (.goto 134, 3) := by decide +kernel
theorem dL_law_1744 : decode cL_law 1744 = .ok (.aload_n 1, 1) := by decide +kernel
theorem dL_law_1745 : decode cL_law 1745 = .ok (.aload_n 0, 1) := by decide +kernel
theorem dL_law_1746 : decode cL_law 1746 = .ok (.iload 4, 2) := by decide +kernel
theorem dL_law_1748 : decode cL_law 1748 = .ok (.iconst 1, 1) := by decide +kernel
theorem dL_law_1749 : decode cL_law 1749 = .ok (.iadd, 1) := by decide +kernel
theorem dL_law_1750 : decode cL_law 1750 = .ok (.iaload, 1) := by decide +kernel
theorem dL_law_1751 : decode cL_law 1751 = .ok (.aload_n 0, 1) := by decide +kernel
theorem dL_law_1752 : decode cL_law 1752 = .ok (.iload 4, 2) := by decide +kernel
theorem dL_law_1754 : decode cL_law 1754 = .ok (.iconst 2, 1) := by decide +kernel
theorem dL_law_1755 : decode cL_law 1755 = .ok (.iadd, 1) := by decide +kernel
theorem dL_law_1756 : decode cL_law 1756 = .ok (.iaload, 1) := by decide +kernel
theorem dL_law_1757 : decode cL_law 1757 = .ok (.aload_n 3, 1) := by decide +kernel
theorem dL_law_1758 : decode cL_law 1758 = .ok (.invokestatic 182, 3) := by decide +kernel
theorem dL_law_1761 : decode cL_law 1761 = .ok (.istore 5, 2) := by decide +kernel
theorem dL_law_1763 : decode cL_law 1763 = .ok (.aload_n 2, 1) := by decide +kernel
theorem dL_law_1764 : decode cL_law 1764 = .ok (.aload_n 0, 1) := by decide +kernel
theorem dL_law_1765 : decode cL_law 1765 = .ok (.iload 4, 2) := by decide +kernel
theorem dL_law_1767 : decode cL_law 1767 = .ok (.iconst 1, 1) := by decide +kernel
theorem dL_law_1768 : decode cL_law 1768 = .ok (.iadd, 1) := by decide +kernel
theorem dL_law_1769 : decode cL_law 1769 = .ok (.iaload, 1) := by decide +kernel
theorem dL_law_1770 : decode cL_law 1770 = .ok (.aload_n 0, 1) := by decide +kernel
theorem dL_law_1771 : decode cL_law 1771 = .ok (.iload 4, 2) := by decide +kernel
theorem dL_law_1773 : decode cL_law 1773 = .ok (.iconst 2, 1) := by decide +kernel
theorem dL_law_1774 : decode cL_law 1774 = .ok (.iadd, 1) := by decide +kernel
theorem dL_law_1775 : decode cL_law 1775 = .ok (.iaload, 1) := by decide +kernel
theorem dL_law_1776 : decode cL_law 1776 = .ok (.invokevirtual 184, 3) := by decide +kernel
theorem dL_law_1779 : decode cL_law 1779 = .ok (.istore 6, 2) := by decide +kernel
theorem dL_law_1781 : decode cL_law 1781 = .ok (.aload_n 2, 1) := by decide +kernel
theorem dL_law_1782 : decode cL_law 1782 = .ok (.invokevirtual 107, 3) := by decide +kernel
theorem dL_law_1785 : decode cL_law 1785 = .ok (.iload 5, 2) := by decide +kernel
theorem dL_law_1787 : decode cL_law 1787 = .ok (.if_icmp .eq 5, 3) := by decide +kernel
theorem dL_law_1790 : decode cL_law 1790 = .ok (.iconst 0, 1) := by decide +kernel
theorem dL_law_1791 : decode cL_law 1791 = .ok (.ireturn, 1) := by decide +kernel
theorem dL_law_1792 : decode cL_law 1792 = .ok (.iload 5, 2) := by decide +kernel
theorem dL_law_1794 : decode cL_law 1794 = .ok (.ifCond .ne 15, 3) := by decide +kernel
theorem dL_law_1797 : decode cL_law 1797 = .ok (.aload_n 3, 1) := by decide +kernel
theorem dL_law_1798 : decode cL_law 1798 = .ok (.iconst 0, 1) := by decide +kernel
theorem dL_law_1799 : decode cL_law 1799 = .ok (.laload, 1) := by decide +kernel
theorem dL_law_1800 : decode cL_law 1800 = .ok (.iload 6, 2) := by decide +kernel
theorem dL_law_1802 : decode cL_law 1802 = .ok (.i2l, 1) := by decide +kernel
theorem dL_law_1803 : decode cL_law 1803 = .ok (.lcmp, 1) := by decide +kernel
theorem dL_law_1804 : decode cL_law 1804 = .ok (.ifCond .eq 5, 3) := by decide +kernel
theorem dL_law_1807 : decode cL_law 1807 = .ok (.iconst 0, 1) := by decide +kernel
theorem dL_law_1808 : decode cL_law 1808 = .ok (.ireturn, 1) := by decide +kernel
theorem dL_law_1809 : decode cL_law 1809 = .ok (.goto 66, 3) := by decide +kernel
theorem dL_law_1812 : decode cL_law 1812 = .ok (.aload_n 1, 1) := by decide +kernel
theorem dL_law_1813 : decode cL_law 1813 = .ok (.aload_n 0, 1) := by decide +kernel
theorem dL_law_1814 : decode cL_law 1814 = .ok (.iload 4, 2) := by decide +kernel
theorem dL_law_1816 : decode cL_law 1816 = .ok (.iconst 1, 1) := by decide +kernel
theorem dL_law_1817 : decode cL_law 1817 = .ok (.iadd, 1) := by decide +kernel
theorem dL_law_1818 : decode cL_law 1818 = .ok (.iaload, 1) := by decide +kernel
theorem dL_law_1819 : decode cL_law 1819 = .ok (.aload_n 3, 1) := by decide +kernel
theorem dL_law_1820 : decode cL_law 1820 = .ok (.invokestatic 185, 3) := by decide +kernel
theorem dL_law_1823 : decode cL_law 1823 = .ok (.istore 5, 2) := by decide +kernel
theorem dL_law_1825 : decode cL_law 1825 = .ok (.aload_n 2, 1) := by decide +kernel
theorem dL_law_1826 : decode cL_law 1826 = .ok (.aload_n 0, 1) := by decide +kernel
theorem dL_law_1827 : decode cL_law 1827 = .ok (.iload 4, 2) := by decide +kernel
theorem dL_law_1829 : decode cL_law 1829 = .ok (.iconst 1, 1) := by decide +kernel
theorem dL_law_1830 : decode cL_law 1830 = .ok (.iadd, 1) := by decide +kernel
theorem dL_law_1831 : decode cL_law 1831 = .ok (.iaload, 1) := by decide +kernel
theorem dL_law_1832 : decode cL_law 1832 = .ok (.invokevirtual 187, 3) := by decide +kernel
theorem dL_law_1835 : decode cL_law 1835 = .ok (.istore 6, 2) := by decide +kernel
theorem dL_law_1837 : decode cL_law 1837 = .ok (.aload_n 2, 1) := by decide +kernel
theorem dL_law_1838 : decode cL_law 1838 = .ok (.invokevirtual 107, 3) := by decide +kernel
theorem dL_law_1841 : decode cL_law 1841 = .ok (.iload 5, 2) := by decide +kernel
theorem dL_law_1843 : decode cL_law 1843 = .ok (.if_icmp .eq 5, 3) := by decide +kernel
theorem dL_law_1846 : decode cL_law 1846 = .ok (.iconst 0, 1) := by decide +kernel
theorem dL_law_1847 : decode cL_law 1847 = .ok (.ireturn, 1) := by decide +kernel
theorem dL_law_1848 : decode cL_law 1848 = .ok (.iload 5, 2) := by decide +kernel
theorem dL_law_1850 : decode cL_law 1850 = .ok (.ifCond .ne 22, 3) := by decide +kernel
theorem dL_law_1853 : decode cL_law 1853 = .ok (.aload_n 3, 1) := by decide +kernel
theorem dL_law_1854 : decode cL_law 1854 = .ok (.iconst 0, 1) := by decide +kernel
theorem dL_law_1855 : decode cL_law 1855 = .ok (.laload, 1) := by decide +kernel
theorem dL_law_1856 : decode cL_law 1856 = .ok (.iload 6, 2) := by decide +kernel
theorem dL_law_1858 : decode cL_law 1858 = .ok (.ifCond .eq 7, 3) := by decide +kernel
theorem dL_law_1861 : decode cL_law 1861 = .ok (.lconst 1, 1) := by decide +kernel
theorem dL_law_1862 : decode cL_law 1862 = .ok (.goto 4, 3) := by decide +kernel
theorem dL_law_1865 : decode cL_law 1865 = .ok (.lconst 0, 1) := by decide +kernel
theorem dL_law_1866 : decode cL_law 1866 = .ok (.lcmp, 1) := by decide +kernel
theorem dL_law_1867 : decode cL_law 1867 = .ok (.ifCond .eq 5, 3) := by decide +kernel
theorem dL_law_1870 : decode cL_law 1870 = .ok (.iconst 0, 1) := by decide +kernel
theorem dL_law_1871 : decode cL_law 1871 = .ok (.ireturn, 1) := by decide +kernel
theorem dL_law_1872 : decode cL_law 1872 = .ok (.goto 3, 3) := by decide +kernel
theorem dL_law_1875 : decode cL_law 1875 = .ok (.iinc 4 5, 3) := by decide +kernel
theorem dL_law_1878 : decode cL_law 1878 = .ok (.goto (-1855), 3) := by decide +kernel
theorem dL_law_1881 : decode cL_law 1881 = .ok (.iconst 1, 1) := by decide +kernel
theorem dL_law_1882 : decode cL_law 1882 = .ok (.ireturn, 1) := by decide +kernel
