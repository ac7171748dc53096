theorem dX6_init_0 : decode cX6_init 0 = .ok (.aload_n 0, 1) := by decide +kernel
theorem dX6_init_1 : decode cX6_init 1 = .ok (.invokespecial 1, 3) := by decide +kernel
theorem dX6_init_4 : decode cX6_init 4 = .ok (.aload_n 0, 1) := by decide +kernel
theorem dX6_init_5 : decode cX6_init 5 = .ok (.bipush 22, 2) := by decide +kernel
theorem dX6_init_7 : decode cX6_init 7 = .ok (.newarray .int, 2) := by decide +kernel
theorem dX6_init_9 : decode cX6_init 9 = .ok (.putfield 7, 3) := by decide +kernel
theorem dX6_init_12 : decode cX6_init 12 = .ok (.aload_n 0, 1) := by decide +kernel
theorem dX6_init_13 : decode cX6_init 13 = .ok (.bipush 12, 2) := by decide +kernel
theorem dX6_init_15 : decode cX6_init 15 = .ok (.newarray .int, 2) := by decide +kernel
theorem dX6_init_17 : decode cX6_init 17 = .ok (.putfield 13, 3) := by decide +kernel
theorem dX6_init_20 : decode cX6_init 20 = .ok (.aload_n 0, 1) := by decide +kernel
theorem dX6_init_21 : decode cX6_init 21 = .ok (.bipush 9, 2) := by decide +kernel
theorem dX6_init_23 : decode cX6_init 23 = .ok (.newarray .int, 2) := by decide +kernel
theorem dX6_init_25 : decode cX6_init 25 = .ok (.putfield 16, 3) := by decide +kernel
theorem dX6_init_28 : decode cX6_init 28 = .ok (.aload_n 0, 1) := by decide +kernel
theorem dX6_init_29 : decode cX6_init 29 = .ok (.bipush 16, 2) := by decide +kernel
theorem dX6_init_31 : decode cX6_init 31 = .ok (.newarray .int, 2) := by decide +kernel
theorem dX6_init_33 : decode cX6_init 33 = .ok (.putfield 19, 3) := by decide +kernel
theorem dX6_init_36 : decode cX6_init 36 = .ok (.aload_n 0, 1) := by decide +kernel
theorem dX6_init_37 : decode cX6_init 37 = .ok (.bipush 8, 2) := by decide +kernel
theorem dX6_init_39 : decode cX6_init 39 = .ok (.newarray .int, 2) := by decide +kernel
theorem dX6_init_41 : decode cX6_init 41 = .ok (.putfield 22, 3) := by decide +kernel
theorem dX6_init_44 : decode cX6_init 44 = .ok (.aload_n 0, 1) := by decide +kernel
theorem dX6_init_45 : decode cX6_init 45 = .ok (.bipush 12, 2) := by decide +kernel
theorem dX6_init_47 : decode cX6_init 47 = .ok (.newarray .int, 2) := by decide +kernel
theorem dX6_init_49 : decode cX6_init 49 = .ok (.putfield 25, 3) := by decide +kernel
theorem dX6_init_52 : decode cX6_init 52 = .ok (.aload_n 0, 1) := by decide +kernel
theorem dX6_init_53 : decode cX6_init 53 = .ok (.bipush 9, 2) := by decide +kernel
theorem dX6_init_55 : decode cX6_init 55 = .ok (.newarray .int, 2) := by decide +kernel
theorem dX6_init_57 : decode cX6_init 57 = .ok (.putfield 28, 3) := by decide +kernel
theorem dX6_init_60 : decode cX6_init 60 = .ok (.aload_n 0, 1) := by decide +kernel
theorem dX6_init_61 : decode cX6_init 61 = .ok (.bipush 16, 2) := by decide +kernel
theorem dX6_init_63 : decode cX6_init 63 = .ok (.newarray .int, 2) := by decide +kernel
theorem dX6_init_65 : decode cX6_init 65 = .ok (.putfield 31, 3) := by decide +kernel
theorem dX6_init_68 : decode cX6_init 68 = .ok (.aload_n 0, 1) := by decide +kernel
theorem dX6_init_69 : decode cX6_init 69 = .ok (.iconst (-1), 1) := by decide +kernel
theorem dX6_init_70 : decode cX6_init 70 = .ok (.putfield 34, 3) := by decide +kernel
theorem dX6_init_73 : decode cX6_init 73 = .ok (.return_, 1) := by decide +kernel
theorem dX6_in_0 : decode cX6_in 0 = .ok (.lload_n 0, 1) := by decide +kernel
theorem dX6_in_1 : decode cX6_in 1 = .ok (.lload_n 2, 1) := by decide +kernel
theorem dX6_in_2 : decode cX6_in 2 = .ok (.lcmp, 1) := by decide +kernel
theorem dX6_in_3 : decode cX6_in 3 = .ok (.ifCond .lt 14, 3) := by decide +kernel
theorem dX6_in_6 : decode cX6_in 6 = .ok (.lload_n 0, 1) := by decide +kernel
theorem dX6_in_7 : decode cX6_in 7 = .ok (.lload 4, 2) := by decide +kernel
theorem dX6_in_9 : decode cX6_in 9 = .ok (.lcmp, 1) := by decide +kernel
theorem dX6_in_10 : decode cX6_in 10 = .ok (.ifCond .gt 7, 3) := by decide +kernel
theorem dX6_in_13 : decode cX6_in 13 = .ok (.iconst 1, 1) := by decide +kernel
theorem dX6_in_14 : decode cX6_in 14 = .ok (.goto 4, 3) := by decide +kernel
theorem dX6_in_17 : decode cX6_in 17 = .ok (.iconst 0, 1) := by decide +kernel
theorem dX6_in_18 : decode cX6_in 18 = .ok (.ireturn, 1) := by decide +kernel
theorem dX6_copy_0 : decode cX6_copy 0 = .ok (.iconst 0, 1) := by decide +kernel
theorem dX6_copy_1 : decode cX6_copy 1 = .ok (.istore_n 2, 1) := by decide +kernel
theorem dX6_copy_2 : decode cX6_copy 2 = .ok (.iload_n 2, 1) := by decide +kernel
theorem dX6_copy_3 : decode cX6_copy 3 = .ok (.aload_n 0, 1) := by decide +kernel
theorem dX6_copy_4 : decode cX6_copy 4 = .ok (.arraylength, 1) := by decide +kernel
theorem dX6_copy_5 : decode cX6_copy 5 = .ok (.if_icmp .ge 15, 3) := by decide +kernel
theorem dX6_copy_8 : decode cX6_copy 8 = .ok (.aload_n 1, 1) := by decide +kernel
theorem dX6_copy_9 : decode cX6_copy 9 = .ok (.iload_n 2, 1) := by decide +kernel
theorem dX6_copy_10 : decode cX6_copy 10 = .ok (.aload_n 0, 1) := by decide +kernel
theorem dX6_copy_11 : decode cX6_copy 11 = .ok (.iload_n 2, 1) := by decide +kernel
theorem dX6_copy_12 : decode cX6_copy 12 = .ok (.iaload, 1) := by decide +kernel
theorem dX6_copy_13 : decode cX6_copy 13 = .ok (.iastore, 1) := by decide +kernel
theorem dX6_copy_14 : decode cX6_copy 14 = .ok (.iinc 2 1, 3) := by decide +kernel
theorem dX6_copy_17 : decode cX6_copy 17 = .ok (.goto (-15), 3) := by decide +kernel
theorem dX6_copy_20 : decode cX6_copy 20 = .ok (.return_, 1) := by decide +kernel
theorem dX6_ones_0 : decode cX6_ones 0 = .ok (.iconst 0, 1) := by decide +kernel
theorem dX6_ones_1 : decode cX6_ones 1 = .ok (.istore_n 1, 1) := by decide +kernel
theorem dX6_ones_2 : decode cX6_ones 2 = .ok (.iconst 0, 1) := by decide +kernel
theorem dX6_ones_3 : decode cX6_ones 3 = .ok (.istore_n 2, 1) := by decide +kernel
theorem dX6_ones_4 : decode cX6_ones 4 = .ok (.iload_n 2, 1) := by decide +kernel
theorem dX6_ones_5 : decode cX6_ones 5 = .ok (.bipush 6, 2) := by decide +kernel
theorem dX6_ones_7 : decode cX6_ones 7 = .ok (.if_icmp .ge 17, 3) := by decide +kernel
theorem dX6_ones_10 : decode cX6_ones 10 = .ok (.iload_n 1, 1) := by decide +kernel
theorem dX6_ones_11 : decode cX6_ones 11 = .ok (.iload_n 0, 1) := by decide +kernel
theorem dX6_ones_12 : decode cX6_ones 12 = .ok (.iload_n 2, 1) := by decide +kernel
theorem dX6_ones_13 : decode cX6_ones 13 = .ok (.ishr, 1) := by decide +kernel
theorem dX6_ones_14 : decode cX6_ones 14 = .ok (.iconst 1, 1) := by decide +kernel
theorem dX6_ones_15 : decode cX6_ones 15 = .ok (.iand, 1) := by decide +kernel
theorem dX6_ones_16 : decode cX6_ones 16 = .ok (.iadd, 1) := by decide +kernel
theorem dX6_ones_17 : decode cX6_ones 17 = .ok (.istore_n 1, 1) := by decide +kernel
theorem dX6_ones_18 : decode cX6_ones 18 = .ok (.iinc 2 1, 3) := by decide +kernel
theorem dX6_ones_21 : decode cX6_ones 21 = .ok (.goto (-17), 3) := by decide +kernel
theorem dX6_ones_24 : decode cX6_ones 24 = .ok (.iload_n 1, 1) := by decide +kernel
theorem dX6_ones_25 : decode cX6_ones 25 = .ok (.ireturn, 1) := by decide +kernel
theorem dX6_letter_0 : decode cX6_letter 0 = .ok (.iload_n 1, 1) := by decide +kernel
theorem dX6_letter_1 : decode cX6_letter 1 = .ok (.i2l, 1) := by decide +kernel
theorem dX6_letter_2 : decode cX6_letter 2 = .ok (.lconst 1, 1) := by decide +kernel
theorem dX6_letter_3 : decode cX6_letter 3 = .ok (.ldc2_w 38, 3) := by decide +kernel
theorem dX6_letter_6 : decode cX6_letter 6 = .ok (.invokestatic 40, 3) := by decide +kernel
theorem dX6_letter_9 : decode cX6_letter 9 = .ok (.ifCond .ne 6, 3) := by decide +kernel
theorem dX6_letter_12 : decode cX6_letter 12 = .ok (.bipush (-102), 2) := by decide +kernel
theorem dX6_letter_14 : decode cX6_letter 14 = .ok (.ireturn, 1) := by decide +kernel
theorem dX6_letter_15 : decode cX6_letter 15 = .ok (.aload_n 0, 1) := by decide +kernel
theorem dX6_letter_16 : decode cX6_letter 16 = .ok (.getfield 44, 3) := by decide +kernel
theorem dX6_letter_19 : decode cX6_letter 19 = .ok (.bipush 22, 2) := by decide +kernel
theorem dX6_letter_21 : decode cX6_letter 21 = .ok (.if_icmp .ne 6, 3) := by decide +kernel
theorem dX6_letter_24 : decode cX6_letter 24 = .ok (.bipush (-104), 2) := by decide +kernel
theorem dX6_letter_26 : decode cX6_letter 26 = .ok (.ireturn, 1) := by decide +kernel
theorem dX6_letter_27 : decode cX6_letter 27 = .ok (.aload_n 0, 1) := by decide +kernel
theorem dX6_letter_28 : decode cX6_letter 28 = .ok (.getfield 7, 3) := by decide +kernel
theorem dX6_letter_31 : decode cX6_letter 31 = .ok (.aload_n 0, 1) := by decide +kernel
theorem dX6_letter_32 : decode cX6_letter 32 = .ok (.getfield 44, 3) := by decide +kernel
theorem dX6_letter_35 : decode cX6_letter 35 = .ok (.iload_n 1, 1) := by decide +kernel
theorem dX6_letter_36 : decode cX6_letter 36 = .ok (.iastore, 1) := by decide +kernel
theorem dX6_letter_37 : decode cX6_letter 37 = .ok (.aload_n 0, 1) := by decide +kernel
theorem dX6_letter_38 : decode cX6_letter 38 = .ok (.dup, 1) := by decide +kernel
theorem dX6_letter_39 : decode cX6_letter 39 = .ok (.getfield 44, 3) := by decide +kernel
theorem dX6_letter_42 : decode cX6_letter 42 = .ok (.iconst 1, 1) := by decide +kernel
theorem dX6_letter_43 : decode cX6_letter 43 = .ok (.iadd, 1) := by decide +kernel
theorem dX6_letter_44 : decode cX6_letter 44 = .ok (.putfield 44, 3) := by decide +kernel
theorem dX6_letter_47 : decode cX6_letter 47 = .ok (.aload_n 0, 1) := by decide +kernel
theorem dX6_letter_48 : decode cX6_letter 48 = .ok (.getfield 44, 3) := by decide +kernel
theorem dX6_letter_51 : decode cX6_letter 51 = .ok (.ireturn, 1) := by decide +kernel
theorem dX6_blank_0 : decode cX6_blank 0 = .ok (.aload_n 0, 1) := by decide +kernel
theorem dX6_blank_1 : decode cX6_blank 1 = .ok (.getfield 44, 3) := by decide +kernel
theorem dX6_blank_4 : decode cX6_blank 4 = .ok (.istore_n 1, 1) := by decide +kernel
theorem dX6_blank_5 : decode cX6_blank 5 = .ok (.aload_n 0, 1) := by decide +kernel
theorem dX6_blank_6 : decode cX6_blank 6 = .ok (.iconst 0, 1) := by decide +kernel
theorem dX6_blank_7 : decode cX6_blank 7 = .ok (.putfield 44, 3) := by decide +kernel
theorem dX6_blank_10 : decode cX6_blank 10 = .ok (.iload_n 1, 1) := by decide +kernel
theorem dX6_blank_11 : decode cX6_blank 11 = .ok (.ireturn, 1) := by decide +kernel
theorem dX6_kindBy_0 : decode cX6_kindBy 0 = .ok (.iload_n 0, 1) := by decide +kernel
theorem dX6_kindBy_1 : decode cX6_kindBy 1 = .ok (.bipush 109, 2) := by decide +kernel
theorem dX6_kindBy_3 : decode cX6_kindBy 3 = .ok (.if_icmp .ne 7, 3) := by decide +kernel
theorem dX6_kindBy_6 : decode cX6_kindBy 6 = .ok (.iconst 0, 1) := by decide +kernel
theorem dX6_kindBy_7 : decode cX6_kindBy 7 = .ok (.goto 44, 3) := by decide +kernel
theorem dX6_kindBy_10 : decode cX6_kindBy 10 = .ok (.iload_n 0, 1) := by decide +kernel
theorem dX6_kindBy_11 : decode cX6_kindBy 11 = .ok (.bipush 115, 2) := by decide +kernel
theorem dX6_kindBy_13 : decode cX6_kindBy 13 = .ok (.if_icmp .ne 7, 3) := by decide +kernel
theorem dX6_kindBy_16 : decode cX6_kindBy 16 = .ok (.iconst 1, 1) := by decide +kernel
theorem dX6_kindBy_17 : decode cX6_kindBy 17 = .ok (.goto 34, 3) := by decide +kernel
theorem dX6_kindBy_20 : decode cX6_kindBy 20 = .ok (.iload_n 0, 1) := by decide +kernel
theorem dX6_kindBy_21 : decode cX6_kindBy 21 = .ok (.bipush 103, 2) := by decide +kernel
theorem dX6_kindBy_23 : decode cX6_kindBy 23 = .ok (.if_icmp .ne 7, 3) := by decide +kernel
theorem dX6_kindBy_26 : decode cX6_kindBy 26 = .ok (.iconst 2, 1) := by decide +kernel
theorem dX6_kindBy_27 : decode cX6_kindBy 27 = .ok (.goto 24, 3) := by decide +kernel
theorem dX6_kindBy_30 : decode cX6_kindBy 30 = .ok (.iload_n 0, 1) := by decide +kernel
theorem dX6_kindBy_31 : decode cX6_kindBy 31 = .ok (.bipush 99, 2) := by decide +kernel
theorem dX6_kindBy_33 : decode cX6_kindBy 33 = .ok (.if_icmp .ne 7, 3) := by decide +kernel
theorem dX6_kindBy_36 : decode cX6_kindBy 36 = .ok (.iconst 3, 1) := by decide +kernel
theorem dX6_kindBy_37 : decode cX6_kindBy 37 = .ok (.goto 14, 3) := by decide +kernel
theorem dX6_kindBy_40 : decode cX6_kindBy 40 = .ok (.iload_n 0, 1) := by decide +kernel
theorem dX6_kindBy_41 : decode cX6_kindBy 41 = .ok (.bipush 112, 2) := by decide +kernel
theorem dX6_kindBy_43 : decode cX6_kindBy 43 = .ok (.if_icmp .ne 7, 3) := by decide +kernel
theorem dX6_kindBy_46 : decode cX6_kindBy 46 = .ok (.iconst 4, 1) := by decide +kernel
theorem dX6_kindBy_47 : decode cX6_kindBy 47 = .ok (.goto 4, 3) := by decide +kernel
theorem dX6_kindBy_50 : decode cX6_kindBy 50 = .ok (.iconst (-1), 1) := by decide +kernel
theorem dX6_kindBy_51 : decode cX6_kindBy 51 = .ok (.ireturn, 1) := by decide +kernel
theorem dX6_isGood_0 : decode cX6_isGood 0 = .ok (.aload_n 0, 1) := by decide +kernel
theorem dX6_isGood_1 : decode cX6_isGood 1 = .ok (.getfield 7, 3) := by decide +kernel
theorem dX6_isGood_4 : decode cX6_isGood 4 = .ok (.iload_n 1, 1) := by decide +kernel
theorem dX6_isGood_5 : decode cX6_isGood 5 = .ok (.iaload, 1) := by decide +kernel
theorem dX6_isGood_6 : decode cX6_isGood 6 = .ok (.istore_n 2, 1) := by decide +kernel
theorem dX6_isGood_7 : decode cX6_isGood 7 = .ok (.aload_n 0, 1) := by decide +kernel
theorem dX6_isGood_8 : decode cX6_isGood 8 = .ok (.getfield 47, 3) := by decide +kernel
theorem dX6_isGood_11 : decode cX6_isGood 11 = .ok (.iconst (-1), 1) := by decide +kernel
theorem dX6_isGood_12 : decode cX6_isGood 12 = .ok (.if_icmp .eq 33, 3) := by decide +kernel
theorem dX6_isGood_15 : decode cX6_isGood 15 = .ok (.iload_n 1, 1) := by decide +kernel
theorem dX6_isGood_16 : decode cX6_isGood 16 = .ok (.aload_n 0, 1) := by decide +kernel
theorem dX6_isGood_17 : decode cX6_isGood 17 = .ok (.getfield 47, 3) := by decide +kernel
theorem dX6_isGood_20 : decode cX6_isGood 20 = .ok (.iconst 1, 1) := by decide +kernel
theorem dX6_isGood_21 : decode cX6_isGood 21 = .ok (.iadd, 1) := by decide +kernel
theorem dX6_isGood_22 : decode cX6_isGood 22 = .ok (.if_icmp .ne 21, 3) := by decide +kernel
theorem dX6_isGood_25 : decode cX6_isGood 25 = .ok (.iload_n 2, 1) := by decide +kernel
theorem dX6_isGood_26 : decode cX6_isGood 26 = .ok (.i2l, 1) := by decide +kernel
theorem dX6_isGood_27 : decode cX6_isGood 27 = .ok (.ldc2_w 50, 3) := by decide +kernel
theorem dX6_isGood_30 : decode cX6_isGood 30 = .ok (.ldc2_w 52, 3) := by decide +kernel
theorem dX6_isGood_33 : decode cX6_isGood 33 = .ok (.invokestatic 40, 3) := by decide +kernel
theorem dX6_isGood_36 : decode cX6_isGood 36 = .ok (.ifCond .eq 7, 3) := by decide +kernel
theorem dX6_isGood_39 : decode cX6_isGood 39 = .ok (.iconst 1, 1) := by decide +kernel
theorem dX6_isGood_40 : decode cX6_isGood 40 = .ok (.goto 4, 3) := by decide +kernel
theorem dX6_isGood_43 : decode cX6_isGood 43 = .ok (.iconst 0, 1) := by decide +kernel
theorem dX6_isGood_44 : decode cX6_isGood 44 = .ok (.ireturn, 1) := by decide +kernel
theorem dX6_isGood_45 : decode cX6_isGood 45 = .ok (.iload_n 1, 1) := by decide +kernel
theorem dX6_isGood_46 : decode cX6_isGood 46 = .ok (.iconst 3, 1) := by decide +kernel
theorem dX6_isGood_47 : decode cX6_isGood 47 = .ok (.irem, 1) := by decide +kernel
theorem dX6_isGood_48 : decode cX6_isGood 48 = .ok (.iconst 2, 1) := by decide +kernel
theorem dX6_isGood_49 : decode cX6_isGood 49 = .ok (.if_icmp .ne 39, 3) := by decide +kernel
theorem dX6_isGood_52 : decode cX6_isGood 52 = .ok (.iload_n 2, 1) := by decide +kernel
theorem dX6_isGood_53 : decode cX6_isGood 53 = .ok (.bipush 59, 2) := by decide +kernel
theorem dX6_isGood_55 : decode cX6_isGood 55 = .ok (.if_icmp .ne 15, 3) := by decide +kernel
theorem dX6_isGood_58 : decode cX6_isGood 58 = .ok (.iload_n 1, 1) := by decide +kernel
theorem dX6_isGood_59 : decode cX6_isGood 59 = .ok (.iconst 4, 1) := by decide +kernel
theorem dX6_isGood_60 : decode cX6_isGood 60 = .ok (.if_icmp .le 10, 3) := by decide +kernel
theorem dX6_isGood_63 : decode cX6_isGood 63 = .ok (.aload_n 0, 1) := by decide +kernel
theorem dX6_isGood_64 : decode cX6_isGood 64 = .ok (.iload_n 1, 1) := by decide +kernel
theorem dX6_isGood_65 : decode cX6_isGood 65 = .ok (.putfield 47, 3) := by decide +kernel
theorem dX6_isGood_68 : decode cX6_isGood 68 = .ok (.iconst 1, 1) := by decide +kernel
theorem dX6_isGood_69 : decode cX6_isGood 69 = .ok (.ireturn, 1) := by decide +kernel
theorem dX6_isGood_70 : decode cX6_isGood 70 = .ok (.iload_n 2, 1) := by decide +kernel
theorem dX6_isGood_71 : decode cX6_isGood 71 = .ok (.bipush 44, 2) := by decide +kernel
theorem dX6_isGood_73 : decode cX6_isGood 73 = .ok (.if_icmp .ne 13, 3) := by decide +kernel
theorem dX6_isGood_76 : decode cX6_isGood 76 = .ok (.iload_n 1, 1) := by decide +kernel
theorem dX6_isGood_77 : decode cX6_isGood 77 = .ok (.bipush 17, 2) := by decide +kernel
theorem dX6_isGood_79 : decode cX6_isGood 79 = .ok (.if_icmp .ge 7, 3) := by decide +kernel
theorem dX6_isGood_82 : decode cX6_isGood 82 = .ok (.iconst 1, 1) := by decide +kernel
theorem dX6_isGood_83 : decode cX6_isGood 83 = .ok (.goto 4, 3) := by decide +kernel
theorem dX6_isGood_86 : decode cX6_isGood 86 = .ok (.iconst 0, 1) := by decide +kernel
theorem dX6_isGood_87 : decode cX6_isGood 87 = .ok (.ireturn, 1) := by decide +kernel
theorem dX6_isGood_88 : decode cX6_isGood 88 = .ok (.iload_n 1, 1) := by decide +kernel
theorem dX6_isGood_89 : decode cX6_isGood 89 = .ok (.iconst 3, 1) := by decide +kernel
theorem dX6_isGood_90 : decode cX6_isGood 90 = .ok (.irem, 1) := by decide +kernel
theorem dX6_isGood_91 : decode cX6_isGood 91 = .ok (.ifCond .ne 19, 3) := by decide +kernel
theorem dX6_isGood_94 : decode cX6_isGood 94 = .ok (.iload_n 2, 1) := by decide +kernel
theorem dX6_isGood_95 : decode cX6_isGood 95 = .ok (.invokestatic 54, 3) := by decide +kernel
theorem dX6_isGood_98 : decode cX6_isGood 98 = .ok (.iconst (-1), 1) := by decide +kernel
theorem dX6_isGood_99 : decode cX6_isGood 99 = .ok (.if_icmp .eq 7, 3) := by decide +kernel
theorem dX6_isGood_102 : decode cX6_isGood 102 = .ok (.iconst 1, 1) := by decide +kernel
theorem dX6_isGood_103 : decode cX6_isGood 103 = .ok (.goto 18, 3) := by decide +kernel
theorem dX6_isGood_106 : decode cX6_isGood 106 = .ok (.iconst 0, 1) := by decide +kernel
theorem dX6_isGood_107 : decode cX6_isGood 107 = .ok (.goto 14, 3) := by decide +kernel
theorem dX6_isGood_110 : decode cX6_isGood 110 = .ok (.iload_n 2, 1) := by decide +kernel
theorem dX6_isGood_111 : decode cX6_isGood 111 = .ok (.i2l, 1) := by decide +kernel
theorem dX6_isGood_112 : decode cX6_isGood 112 = .ok (.ldc2_w 58, 3) := by decide +kernel
theorem dX6_isGood_115 : decode cX6_isGood 115 = .ok (.ldc2_w 52, 3) := by decide +kernel
theorem dX6_isGood_118 : decode cX6_isGood 118 = .ok (.invokestatic 40, 3) := by decide +kernel
theorem dX6_isGood_121 : decode cX6_isGood 121 = .ok (.ireturn, 1) := by decide +kernel
theorem dX6_faultOf_0 : decode cX6_faultOf 0 = .ok (.aload_n 0, 1) := by decide +kernel
theorem dX6_faultOf_1 : decode cX6_faultOf 1 = .ok (.iconst (-1), 1) := by decide +kernel
theorem dX6_faultOf_2 : decode cX6_faultOf 2 = .ok (.putfield 47, 3) := by decide +kernel
theorem dX6_faultOf_5 : decode cX6_faultOf 5 = .ok (.iconst 0, 1) := by decide +kernel
theorem dX6_faultOf_6 : decode cX6_faultOf 6 = .ok (.istore_n 1, 1) := by decide +kernel
theorem dX6_faultOf_7 : decode cX6_faultOf 7 = .ok (.iload_n 1, 1) := by decide +kernel
theorem dX6_faultOf_8 : decode cX6_faultOf 8 = .ok (.aload_n 0, 1) := by decide +kernel
theorem dX6_faultOf_9 : decode cX6_faultOf 9 = .ok (.getfield 44, 3) := by decide +kernel
theorem dX6_faultOf_12 : decode cX6_faultOf 12 = .ok (.if_icmp .ge 17, 3) := by decide +kernel
theorem dX6_faultOf_15 : decode cX6_faultOf 15 = .ok (.aload_n 0, 1) := by decide +kernel
theorem dX6_faultOf_16 : decode cX6_faultOf 16 = .ok (.iload_n 1, 1) := by decide +kernel
theorem dX6_faultOf_17 : decode cX6_faultOf 17 = .ok (.invokevirtual 60, 3) := by decide +kernel
theorem dX6_faultOf_20 : decode cX6_faultOf 20 = .ok (.ifCond .eq 9, 3) := by decide +kernel
theorem dX6_faultOf_23 : decode cX6_faultOf 23 = .ok (.iinc 1 1, 3) := by decide +kernel
theorem dX6_faultOf_26 : decode cX6_faultOf 26 = .ok (.goto (-19), 3) := by decide +kernel
theorem dX6_faultOf_29 : decode cX6_faultOf 29 = .ok (.iload_n 1, 1) := by decide +kernel
theorem dX6_faultOf_30 : decode cX6_faultOf 30 = .ok (.ireturn, 1) := by decide +kernel
theorem dX6_fault_0 : decode cX6_fault 0 = .ok (.aload_n 0, 1) := by decide +kernel
theorem dX6_fault_1 : decode cX6_fault 1 = .ok (.invokevirtual 64, 3) := by decide +kernel
theorem dX6_fault_4 : decode cX6_fault 4 = .ok (.ireturn, 1) := by decide +kernel
theorem dX6_hill_0 : decode cX6_hill 0 = .ok (.aload_n 0, 1) := by decide +kernel
theorem dX6_hill_1 : decode cX6_hill 1 = .ok (.invokevirtual 64, 3) := by decide +kernel
theorem dX6_hill_4 : decode cX6_hill 4 = .ok (.aload_n 0, 1) := by decide +kernel
theorem dX6_hill_5 : decode cX6_hill 5 = .ok (.getfield 44, 3) := by decide +kernel
theorem dX6_hill_8 : decode cX6_hill 8 = .ok (.if_icmp .lt 24, 3) := by decide +kernel
theorem dX6_hill_11 : decode cX6_hill 11 = .ok (.aload_n 0, 1) := by decide +kernel
theorem dX6_hill_12 : decode cX6_hill 12 = .ok (.getfield 47, 3) := by decide +kernel
theorem dX6_hill_15 : decode cX6_hill 15 = .ok (.iconst (-1), 1) := by decide +kernel
theorem dX6_hill_16 : decode cX6_hill 16 = .ok (.if_icmp .eq 16, 3) := by decide +kernel
theorem dX6_hill_19 : decode cX6_hill 19 = .ok (.aload_n 0, 1) := by decide +kernel
theorem dX6_hill_20 : decode cX6_hill 20 = .ok (.getfield 44, 3) := by decide +kernel
theorem dX6_hill_23 : decode cX6_hill 23 = .ok (.aload_n 0, 1) := by decide +kernel
theorem dX6_hill_24 : decode cX6_hill 24 = .ok (.getfield 47, 3) := by decide +kernel
theorem dX6_hill_27 : decode cX6_hill 27 = .ok (.iconst 2, 1) := by decide +kernel
theorem dX6_hill_28 : decode cX6_hill 28 = .ok (.iadd, 1) := by decide +kernel
theorem dX6_hill_29 : decode cX6_hill 29 = .ok (.if_icmp .eq 6, 3) := by decide +kernel
theorem dX6_hill_32 : decode cX6_hill 32 = .ok (.bipush (-103), 2) := by decide +kernel
theorem dX6_hill_34 : decode cX6_hill 34 = .ok (.ireturn, 1) := by decide +kernel
theorem dX6_hill_35 : decode cX6_hill 35 = .ok (.aload_n 0, 1) := by decide +kernel
theorem dX6_hill_36 : decode cX6_hill 36 = .ok (.aload_n 0, 1) := by decide +kernel
theorem dX6_hill_37 : decode cX6_hill 37 = .ok (.getfield 47, 3) := by decide +kernel
theorem dX6_hill_40 : decode cX6_hill 40 = .ok (.iconst 1, 1) := by decide +kernel
theorem dX6_hill_41 : decode cX6_hill 41 = .ok (.iadd, 1) := by decide +kernel
theorem dX6_hill_42 : decode cX6_hill 42 = .ok (.iconst 3, 1) := by decide +kernel
theorem dX6_hill_43 : decode cX6_hill 43 = .ok (.idiv, 1) := by decide +kernel
theorem dX6_hill_44 : decode cX6_hill 44 = .ok (.putfield 68, 3) := by decide +kernel
theorem dX6_hill_47 : decode cX6_hill 47 = .ok (.iconst 0, 1) := by decide +kernel
theorem dX6_hill_48 : decode cX6_hill 48 = .ok (.istore_n 1, 1) := by decide +kernel
theorem dX6_hill_49 : decode cX6_hill 49 = .ok (.iload_n 1, 1) := by decide +kernel
theorem dX6_hill_50 : decode cX6_hill 50 = .ok (.aload_n 0, 1) := by decide +kernel
theorem dX6_hill_51 : decode cX6_hill 51 = .ok (.getfield 68, 3) := by decide +kernel
theorem dX6_hill_54 : decode cX6_hill 54 = .ok (.if_icmp .ge 70, 3) := by decide +kernel
theorem dX6_hill_57 : decode cX6_hill 57 = .ok (.aload_n 0, 1) := by decide +kernel
theorem dX6_hill_58 : decode cX6_hill 58 = .ok (.getfield 7, 3) := by decide +kernel
theorem dX6_hill_61 : decode cX6_hill 61 = .ok (.iconst 3, 1) := by decide +kernel
theorem dX6_hill_62 : decode cX6_hill 62 = .ok (.iload_n 1, 1) := by decide +kernel
theorem dX6_hill_63 : decode cX6_hill 63 = .ok (.imul, 1) := by decide +kernel
theorem dX6_hill_64 : decode cX6_hill 64 = .ok (.iconst 1, 1) := by decide +kernel
theorem dX6_hill_65 : decode cX6_hill 65 = .ok (.iadd, 1) := by decide +kernel
theorem dX6_hill_66 : decode cX6_hill 66 = .ok (.iaload, 1) := by decide +kernel
theorem dX6_hill_67 : decode cX6_hill 67 = .ok (.bipush 48, 2) := by decide +kernel
theorem dX6_hill_69 : decode cX6_hill 69 = .ok (.isub, 1) := by decide +kernel
theorem dX6_hill_70 : decode cX6_hill 70 = .ok (.istore_n 2, 1) := by decide +kernel
theorem dX6_hill_71 : decode cX6_hill 71 = .ok (.aload_n 0, 1) := by decide +kernel
theorem dX6_hill_72 : decode cX6_hill 72 = .ok (.getfield 13, 3) := by decide +kernel
theorem dX6_hill_75 : decode cX6_hill 75 = .ok (.iconst 2, 1) := by decide +kernel
theorem dX6_hill_76 : decode cX6_hill 76 = .ok (.iload_n 1, 1) := by decide +kernel
theorem dX6_hill_77 : decode cX6_hill 77 = .ok (.imul, 1) := by decide +kernel
theorem dX6_hill_78 : decode cX6_hill 78 = .ok (.aload_n 0, 1) := by decide +kernel
theorem dX6_hill_79 : decode cX6_hill 79 = .ok (.getfield 7, 3) := by decide +kernel
theorem dX6_hill_82 : decode cX6_hill 82 = .ok (.iconst 3, 1) := by decide +kernel
theorem dX6_hill_83 : decode cX6_hill 83 = .ok (.iload_n 1, 1) := by decide +kernel
theorem dX6_hill_84 : decode cX6_hill 84 = .ok (.imul, 1) := by decide +kernel
theorem dX6_hill_85 : decode cX6_hill 85 = .ok (.iaload, 1) := by decide +kernel
theorem dX6_hill_86 : decode cX6_hill 86 = .ok (.invokestatic 54, 3) := by decide +kernel
theorem dX6_hill_89 : decode cX6_hill 89 = .ok (.iastore, 1) := by decide +kernel
theorem dX6_hill_90 : decode cX6_hill 90 = .ok (.aload_n 0, 1) := by decide +kernel
theorem dX6_hill_91 : decode cX6_hill 91 = .ok (.getfield 13, 3) := by decide +kernel
theorem dX6_hill_94 : decode cX6_hill 94 = .ok (.iconst 2, 1) := by decide +kernel
theorem dX6_hill_95 : decode cX6_hill 95 = .ok (.iload_n 1, 1) := by decide +kernel
theorem dX6_hill_96 : decode cX6_hill 96 = .ok (.imul, 1) := by decide +kernel
theorem dX6_hill_97 : decode cX6_hill 97 = .ok (.iconst 1, 1) := by decide +kernel
theorem dX6_hill_98 : decode cX6_hill 98 = .ok (.iadd, 1) := by decide +kernel
theorem dX6_hill_99 : decode cX6_hill 99 = .ok (.iload_n 2, 1) := by decide +kernel
theorem dX6_hill_100 : decode cX6_hill 100 = .ok (.iload_n 1, 1) := by decide +kernel
theorem dX6_hill_101 : decode cX6_hill 101 = .ok (.if_icmp .eq 11, 3) := by decide +kernel
theorem dX6_hill_104 : decode cX6_hill 104 = .ok (.iload_n 2, 1) := by decide +kernel
theorem dX6_hill_105 : decode cX6_hill 105 = .ok (.aload_n 0, 1) := by decide +kernel
theorem dX6_hill_106 : decode cX6_hill 106 = .ok (.getfield 68, 3) := by decide +kernel
theorem dX6_hill_109 : decode cX6_hill 109 = .ok (.if_icmp .lt 7, 3) := by decide +kernel
theorem dX6_hill_112 : decode cX6_hill 112 = .ok (.iconst (-1), 1) := by decide +kernel
theorem dX6_hill_113 : decode cX6_hill 113 = .ok (.goto 4, 3) := by decide +kernel
theorem dX6_hill_116 : decode cX6_hill 116 = .ok (.iload_n 2, 1) := by decide +kernel
theorem dX6_hill_117 : decode cX6_hill 117 = .ok (.iastore, 1) := by decide +kernel
theorem dX6_hill_118 : decode cX6_hill 118 = .ok (.iinc 1 1, 3) := by decide +kernel
theorem dX6_hill_121 : decode cX6_hill 121 = .ok (.goto (-72), 3) := by decide +kernel
theorem dX6_hill_124 : decode cX6_hill 124 = .ok (.aload_n 0, 1) := by decide +kernel
theorem dX6_hill_125 : decode cX6_hill 125 = .ok (.aload_n 0, 1) := by decide +kernel
theorem dX6_hill_126 : decode cX6_hill 126 = .ok (.getfield 7, 3) := by decide +kernel
theorem dX6_hill_129 : decode cX6_hill 129 = .ok (.aload_n 0, 1) := by decide +kernel
theorem dX6_hill_130 : decode cX6_hill 130 = .ok (.getfield 47, 3) := by decide +kernel
theorem dX6_hill_133 : decode cX6_hill 133 = .ok (.iconst 1, 1) := by decide +kernel
theorem dX6_hill_134 : decode cX6_hill 134 = .ok (.iadd, 1) := by decide +kernel
theorem dX6_hill_135 : decode cX6_hill 135 = .ok (.iaload, 1) := by decide +kernel
theorem dX6_hill_136 : decode cX6_hill 136 = .ok (.bipush 48, 2) := by decide +kernel
theorem dX6_hill_138 : decode cX6_hill 138 = .ok (.isub, 1) := by decide +kernel
theorem dX6_hill_139 : decode cX6_hill 139 = .ok (.putfield 71, 3) := by decide +kernel
theorem dX6_hill_142 : decode cX6_hill 142 = .ok (.iconst 0, 1) := by decide +kernel
theorem dX6_hill_143 : decode cX6_hill 143 = .ok (.istore_n 1, 1) := by decide +kernel
theorem dX6_hill_144 : decode cX6_hill 144 = .ok (.iload_n 1, 1) := by decide +kernel
theorem dX6_hill_145 : decode cX6_hill 145 = .ok (.bipush 9, 2) := by decide +kernel
theorem dX6_hill_147 : decode cX6_hill 147 = .ok (.if_icmp .ge 16, 3) := by decide +kernel
theorem dX6_hill_150 : decode cX6_hill 150 = .ok (.aload_n 0, 1) := by decide +kernel
theorem dX6_hill_151 : decode cX6_hill 151 = .ok (.getfield 16, 3) := by decide +kernel
theorem dX6_hill_154 : decode cX6_hill 154 = .ok (.iload_n 1, 1) := by decide +kernel
theorem dX6_hill_155 : decode cX6_hill 155 = .ok (.iconst 0, 1) := by decide +kernel
theorem dX6_hill_156 : decode cX6_hill 156 = .ok (.iastore, 1) := by decide +kernel
theorem dX6_hill_157 : decode cX6_hill 157 = .ok (.iinc 1 1, 3) := by decide +kernel
theorem dX6_hill_160 : decode cX6_hill 160 = .ok (.goto (-16), 3) := by decide +kernel
theorem dX6_hill_163 : decode cX6_hill 163 = .ok (.aload_n 0, 1) := by decide +kernel
theorem dX6_hill_164 : decode cX6_hill 164 = .ok (.iconst 0, 1) := by decide +kernel
theorem dX6_hill_165 : decode cX6_hill 165 = .ok (.putfield 74, 3) := by decide +kernel
theorem dX6_hill_168 : decode cX6_hill 168 = .ok (.aload_n 0, 1) := by decide +kernel
theorem dX6_hill_169 : decode cX6_hill 169 = .ok (.iconst 0, 1) := by decide +kernel
theorem dX6_hill_170 : decode cX6_hill 170 = .ok (.putfield 77, 3) := by decide +kernel
theorem dX6_hill_173 : decode cX6_hill 173 = .ok (.aload_n 0, 1) := by decide +kernel
theorem dX6_hill_174 : decode cX6_hill 174 = .ok (.iconst 0, 1) := by decide +kernel
theorem dX6_hill_175 : decode cX6_hill 175 = .ok (.putfield 80, 3) := by decide +kernel
theorem dX6_hill_178 : decode cX6_hill 178 = .ok (.aload_n 0, 1) := by decide +kernel
theorem dX6_hill_179 : decode cX6_hill 179 = .ok (.dup, 1) := by decide +kernel
theorem dX6_hill_180 : decode cX6_hill 180 = .ok (.getfield 83, 3) := by decide +kernel
theorem dX6_hill_183 : decode cX6_hill 183 = .ok (.iconst 1, 1) := by decide +kernel
theorem dX6_hill_184 : decode cX6_hill 184 = .ok (.iadd, 1) := by decide +kernel
theorem dX6_hill_185 : decode cX6_hill 185 = .ok (.putfield 83, 3) := by decide +kernel
theorem dX6_hill_188 : decode cX6_hill 188 = .ok (.aload_n 0, 1) := by decide +kernel
theorem dX6_hill_189 : decode cX6_hill 189 = .ok (.iconst 0, 1) := by decide +kernel
theorem dX6_hill_190 : decode cX6_hill 190 = .ok (.putfield 44, 3) := by decide +kernel
theorem dX6_hill_193 : decode cX6_hill 193 = .ok (.aload_n 0, 1) := by decide +kernel
theorem dX6_hill_194 : decode cX6_hill 194 = .ok (.getfield 68, 3) := by decide +kernel
theorem dX6_hill_197 : decode cX6_hill 197 = .ok (.ireturn, 1) := by decide +kernel
theorem dX6_lacks_0 : decode cX6_lacks 0 = .ok (.aload_n 0, 1) := by decide +kernel
theorem dX6_lacks_1 : decode cX6_lacks 1 = .ok (.getfield 68, 3) := by decide +kernel
theorem dX6_lacks_4 : decode cX6_lacks 4 = .ok (.ifCond .ne 7, 3) := by decide +kernel
theorem dX6_lacks_7 : decode cX6_lacks 7 = .ok (.iconst 1, 1) := by decide +kernel
theorem dX6_lacks_8 : decode cX6_lacks 8 = .ok (.goto 4, 3) := by decide +kernel
theorem dX6_lacks_11 : decode cX6_lacks 11 = .ok (.iconst 0, 1) := by decide +kernel
theorem dX6_lacks_12 : decode cX6_lacks 12 = .ok (.ireturn, 1) := by decide +kernel
theorem dX6_isPerson_0 : decode cX6_isPerson 0 = .ok (.iload_n 1, 1) := by decide +kernel
theorem dX6_isPerson_1 : decode cX6_isPerson 1 = .ok (.i2l, 1) := by decide +kernel
theorem dX6_isPerson_2 : decode cX6_isPerson 2 = .ok (.lconst 0, 1) := by decide +kernel
theorem dX6_isPerson_3 : decode cX6_isPerson 3 = .ok (.aload_n 0, 1) := by decide +kernel
theorem dX6_isPerson_4 : decode cX6_isPerson 4 = .ok (.getfield 68, 3) := by decide +kernel
theorem dX6_isPerson_7 : decode cX6_isPerson 7 = .ok (.iconst 1, 1) := by decide +kernel
theorem dX6_isPerson_8 : decode cX6_isPerson 8 = .ok (.isub, 1) := by decide +kernel
theorem dX6_isPerson_9 : decode cX6_isPerson 9 = .ok (.i2l, 1) := by decide +kernel
theorem dX6_isPerson_10 : decode cX6_isPerson 10 = .ok (.invokestatic 40, 3) := by decide +kernel
theorem dX6_isPerson_13 : decode cX6_isPerson 13 = .ok (.ireturn, 1) := by decide +kernel
theorem dX6_isTunnel_0 : decode cX6_isTunnel 0 = .ok (.aload_n 0, 1) := by decide +kernel
theorem dX6_isTunnel_1 : decode cX6_isTunnel 1 = .ok (.invokevirtual 86, 3) := by decide +kernel
theorem dX6_isTunnel_4 : decode cX6_isTunnel 4 = .ok (.ifCond .ne 19, 3) := by decide +kernel
theorem dX6_isTunnel_7 : decode cX6_isTunnel 7 = .ok (.iload_n 1, 1) := by decide +kernel
theorem dX6_isTunnel_8 : decode cX6_isTunnel 8 = .ok (.i2l, 1) := by decide +kernel
theorem dX6_isTunnel_9 : decode cX6_isTunnel 9 = .ok (.lconst 0, 1) := by decide +kernel
theorem dX6_isTunnel_10 : decode cX6_isTunnel 10 = .ok (.ldc2_w 90, 3) := by decide +kernel
theorem dX6_isTunnel_13 : decode cX6_isTunnel 13 = .ok (.invokestatic 40, 3) := by decide +kernel
theorem dX6_isTunnel_16 : decode cX6_isTunnel 16 = .ok (.ifCond .eq 7, 3) := by decide +kernel
theorem dX6_isTunnel_19 : decode cX6_isTunnel 19 = .ok (.iconst 1, 1) := by decide +kernel
theorem dX6_isTunnel_20 : decode cX6_isTunnel 20 = .ok (.goto 4, 3) := by decide +kernel
theorem dX6_isTunnel_23 : decode cX6_isTunnel 23 = .ok (.iconst 0, 1) := by decide +kernel
theorem dX6_isTunnel_24 : decode cX6_isTunnel 24 = .ok (.ireturn, 1) := by decide +kernel
theorem dX6_tellsOf_0 : decode cX6_tellsOf 0 = .ok (.aload_n 0, 1) := by decide +kernel
theorem dX6_tellsOf_1 : decode cX6_tellsOf 1 = .ok (.getfield 13, 3) := by decide +kernel
theorem dX6_tellsOf_4 : decode cX6_tellsOf 4 = .ok (.iconst 2, 1) := by decide +kernel
theorem dX6_tellsOf_5 : decode cX6_tellsOf 5 = .ok (.iload_n 1, 1) := by decide +kernel
theorem dX6_tellsOf_6 : decode cX6_tellsOf 6 = .ok (.imul, 1) := by decide +kernel
theorem dX6_tellsOf_7 : decode cX6_tellsOf 7 = .ok (.iaload, 1) := by decide +kernel
theorem dX6_tellsOf_8 : decode cX6_tellsOf 8 = .ok (.istore_n 2, 1) := by decide +kernel
theorem dX6_tellsOf_9 : decode cX6_tellsOf 9 = .ok (.aload_n 0, 1) := by decide +kernel
theorem dX6_tellsOf_10 : decode cX6_tellsOf 10 = .ok (.getfield 13, 3) := by decide +kernel
theorem dX6_tellsOf_13 : decode cX6_tellsOf 13 = .ok (.iconst 2, 1) := by decide +kernel
theorem dX6_tellsOf_14 : decode cX6_tellsOf 14 = .ok (.iload_n 1, 1) := by decide +kernel
theorem dX6_tellsOf_15 : decode cX6_tellsOf 15 = .ok (.imul, 1) := by decide +kernel
theorem dX6_tellsOf_16 : decode cX6_tellsOf 16 = .ok (.iconst 1, 1) := by decide +kernel
theorem dX6_tellsOf_17 : decode cX6_tellsOf 17 = .ok (.iadd, 1) := by decide +kernel
theorem dX6_tellsOf_18 : decode cX6_tellsOf 18 = .ok (.iaload, 1) := by decide +kernel
theorem dX6_tellsOf_19 : decode cX6_tellsOf 19 = .ok (.istore_n 3, 1) := by decide +kernel
theorem dX6_tellsOf_20 : decode cX6_tellsOf 20 = .ok (.iload_n 2, 1) := by decide +kernel
theorem dX6_tellsOf_21 : decode cX6_tellsOf 21 = .ok (.iconst 1, 1) := by decide +kernel
theorem dX6_tellsOf_22 : decode cX6_tellsOf 22 = .ok (.if_icmp .eq 8, 3) := by decide +kernel
theorem dX6_tellsOf_25 : decode cX6_tellsOf 25 = .ok (.iload_n 3, 1) := by decide +kernel
theorem dX6_tellsOf_26 : decode cX6_tellsOf 26 = .ok (.iconst (-1), 1) := by decide +kernel
theorem dX6_tellsOf_27 : decode cX6_tellsOf 27 = .ok (.if_icmp .ne 5, 3) := by decide +kernel
theorem dX6_tellsOf_30 : decode cX6_tellsOf 30 = .ok (.iconst 0, 1) := by decide +kernel
theorem dX6_tellsOf_31 : decode cX6_tellsOf 31 = .ok (.ireturn, 1) := by decide +kernel
theorem dX6_tellsOf_32 : decode cX6_tellsOf 32 = .ok (.iconst 1, 1) := by decide +kernel
theorem dX6_tellsOf_33 : decode cX6_tellsOf 33 = .ok (.iload_n 3, 1) := by decide +kernel
theorem dX6_tellsOf_34 : decode cX6_tellsOf 34 = .ok (.ishl, 1) := by decide +kernel
theorem dX6_tellsOf_35 : decode cX6_tellsOf 35 = .ok (.istore 4, 2) := by decide +kernel
theorem dX6_tellsOf_37 : decode cX6_tellsOf 37 = .ok (.iload_n 2, 1) := by decide +kernel
theorem dX6_tellsOf_38 : decode cX6_tellsOf 38 = .ok (.iconst 2, 1) := by decide +kernel
theorem dX6_tellsOf_39 : decode cX6_tellsOf 39 = .ok (.if_icmp .eq 8, 3) := by decide +kernel
theorem dX6_tellsOf_42 : decode cX6_tellsOf 42 = .ok (.iload_n 2, 1) := by decide +kernel
theorem dX6_tellsOf_43 : decode cX6_tellsOf 43 = .ok (.iconst 4, 1) := by decide +kernel
theorem dX6_tellsOf_44 : decode cX6_tellsOf 44 = .ok (.if_icmp .ne 7, 3) := by decide +kernel
theorem dX6_tellsOf_47 : decode cX6_tellsOf 47 = .ok (.iconst 1, 1) := by decide +kernel
theorem dX6_tellsOf_48 : decode cX6_tellsOf 48 = .ok (.goto 4, 3) := by decide +kernel
theorem dX6_tellsOf_51 : decode cX6_tellsOf 51 = .ok (.iconst 0, 1) := by decide +kernel
theorem dX6_tellsOf_52 : decode cX6_tellsOf 52 = .ok (.istore 5, 2) := by decide +kernel
theorem dX6_tellsOf_54 : decode cX6_tellsOf 54 = .ok (.iload 5, 2) := by decide +kernel
theorem dX6_tellsOf_56 : decode cX6_tellsOf 56 = .ok (.ifCond .eq 31, 3) := by decide +kernel
theorem dX6_tellsOf_59 : decode cX6_tellsOf 59 = .ok (.iload_n 3, 1) := by decide +kernel
theorem dX6_tellsOf_60 : decode cX6_tellsOf 60 = .ok (.iconst 1, 1) := by decide +kernel
theorem dX6_tellsOf_61 : decode cX6_tellsOf 61 = .ok (.iadd, 1) := by decide +kernel
theorem dX6_tellsOf_62 : decode cX6_tellsOf 62 = .ok (.aload_n 0, 1) := by decide +kernel
theorem dX6_tellsOf_63 : decode cX6_tellsOf 63 = .ok (.getfield 68, 3) := by decide +kernel
theorem dX6_tellsOf_66 : decode cX6_tellsOf 66 = .ok (.if_icmp .ge 21, 3) := by decide +kernel
theorem dX6_tellsOf_69 : decode cX6_tellsOf 69 = .ok (.iload_n 3, 1) := by decide +kernel
theorem dX6_tellsOf_70 : decode cX6_tellsOf 70 = .ok (.iconst 1, 1) := by decide +kernel
theorem dX6_tellsOf_71 : decode cX6_tellsOf 71 = .ok (.iadd, 1) := by decide +kernel
theorem dX6_tellsOf_72 : decode cX6_tellsOf 72 = .ok (.iload_n 1, 1) := by decide +kernel
theorem dX6_tellsOf_73 : decode cX6_tellsOf 73 = .ok (.if_icmp .eq 14, 3) := by decide +kernel
theorem dX6_tellsOf_76 : decode cX6_tellsOf 76 = .ok (.iload 4, 2) := by decide +kernel
theorem dX6_tellsOf_78 : decode cX6_tellsOf 78 = .ok (.iconst 1, 1) := by decide +kernel
theorem dX6_tellsOf_79 : decode cX6_tellsOf 79 = .ok (.iload_n 3, 1) := by decide +kernel
theorem dX6_tellsOf_80 : decode cX6_tellsOf 80 = .ok (.iconst 1, 1) := by decide +kernel
theorem dX6_tellsOf_81 : decode cX6_tellsOf 81 = .ok (.iadd, 1) := by decide +kernel
theorem dX6_tellsOf_82 : decode cX6_tellsOf 82 = .ok (.ishl, 1) := by decide +kernel
theorem dX6_tellsOf_83 : decode cX6_tellsOf 83 = .ok (.ior, 1) := by decide +kernel
theorem dX6_tellsOf_84 : decode cX6_tellsOf 84 = .ok (.goto 5, 3) := by decide +kernel
theorem dX6_tellsOf_87 : decode cX6_tellsOf 87 = .ok (.iload 4, 2) := by decide +kernel
theorem dX6_tellsOf_89 : decode cX6_tellsOf 89 = .ok (.ireturn, 1) := by decide +kernel
theorem dX6_toldBy_0 : decode cX6_toldBy 0 = .ok (.iconst 0, 1) := by decide +kernel
theorem dX6_toldBy_1 : decode cX6_toldBy 1 = .ok (.istore_n 2, 1) := by decide +kernel
theorem dX6_toldBy_2 : decode cX6_toldBy 2 = .ok (.iconst 0, 1) := by decide +kernel
theorem dX6_toldBy_3 : decode cX6_toldBy 3 = .ok (.istore_n 3, 1) := by decide +kernel
theorem dX6_toldBy_4 : decode cX6_toldBy 4 = .ok (.iload_n 3, 1) := by decide +kernel
theorem dX6_toldBy_5 : decode cX6_toldBy 5 = .ok (.aload_n 0, 1) := by decide +kernel
theorem dX6_toldBy_6 : decode cX6_toldBy 6 = .ok (.getfield 68, 3) := by decide +kernel
theorem dX6_toldBy_9 : decode cX6_toldBy 9 = .ok (.if_icmp .ge 30, 3) := by decide +kernel
theorem dX6_toldBy_12 : decode cX6_toldBy 12 = .ok (.iload_n 2, 1) := by decide +kernel
theorem dX6_toldBy_13 : decode cX6_toldBy 13 = .ok (.iload_n 1, 1) := by decide +kernel
theorem dX6_toldBy_14 : decode cX6_toldBy 14 = .ok (.iload_n 3, 1) := by decide +kernel
theorem dX6_toldBy_15 : decode cX6_toldBy 15 = .ok (.ishr, 1) := by decide +kernel
theorem dX6_toldBy_16 : decode cX6_toldBy 16 = .ok (.iconst 1, 1) := by decide +kernel
theorem dX6_toldBy_17 : decode cX6_toldBy 17 = .ok (.iand, 1) := by decide +kernel
theorem dX6_toldBy_18 : decode cX6_toldBy 18 = .ok (.iconst 1, 1) := by decide +kernel
theorem dX6_toldBy_19 : decode cX6_toldBy 19 = .ok (.if_icmp .ne 11, 3) := by decide +kernel
theorem dX6_toldBy_22 : decode cX6_toldBy 22 = .ok (.aload_n 0, 1) := by decide +kernel
theorem dX6_toldBy_23 : decode cX6_toldBy 23 = .ok (.iload_n 3, 1) := by decide +kernel
theorem dX6_toldBy_24 : decode cX6_toldBy 24 = .ok (.invokevirtual 92, 3) := by decide +kernel
theorem dX6_toldBy_27 : decode cX6_toldBy 27 = .ok (.goto 4, 3) := by decide +kernel
theorem dX6_toldBy_30 : decode cX6_toldBy 30 = .ok (.iconst 0, 1) := by decide +kernel
theorem dX6_toldBy_31 : decode cX6_toldBy 31 = .ok (.ior, 1) := by decide +kernel
theorem dX6_toldBy_32 : decode cX6_toldBy 32 = .ok (.istore_n 2, 1) := by decide +kernel
theorem dX6_toldBy_33 : decode cX6_toldBy 33 = .ok (.iinc 3 1, 3) := by decide +kernel
theorem dX6_toldBy_36 : decode cX6_toldBy 36 = .ok (.goto (-32), 3) := by decide +kernel
theorem dX6_toldBy_39 : decode cX6_toldBy 39 = .ok (.iload_n 2, 1) := by decide +kernel
theorem dX6_toldBy_40 : decode cX6_toldBy 40 = .ok (.ireturn, 1) := by decide +kernel
theorem dX6_endBy_0 : decode cX6_endBy 0 = .ok (.iload_n 1, 1) := by decide +kernel
theorem dX6_endBy_1 : decode cX6_endBy 1 = .ok (.istore_n 3, 1) := by decide +kernel
theorem dX6_endBy_2 : decode cX6_endBy 2 = .ok (.iload_n 2, 1) := by decide +kernel
theorem dX6_endBy_3 : decode cX6_endBy 3 = .ok (.istore 4, 2) := by decide +kernel
theorem dX6_endBy_5 : decode cX6_endBy 5 = .ok (.iload 4, 2) := by decide +kernel
theorem dX6_endBy_7 : decode cX6_endBy 7 = .ok (.ifCond .eq 23, 3) := by decide +kernel
theorem dX6_endBy_10 : decode cX6_endBy 10 = .ok (.aload_n 0, 1) := by decide +kernel
theorem dX6_endBy_11 : decode cX6_endBy 11 = .ok (.iload 4, 2) := by decide +kernel
theorem dX6_endBy_13 : decode cX6_endBy 13 = .ok (.invokevirtual 95, 3) := by decide +kernel
theorem dX6_endBy_16 : decode cX6_endBy 16 = .ok (.iload_n 3, 1) := by decide +kernel
theorem dX6_endBy_17 : decode cX6_endBy 17 = .ok (.iconst (-1), 1) := by decide +kernel
theorem dX6_endBy_18 : decode cX6_endBy 18 = .ok (.ixor, 1) := by decide +kernel
theorem dX6_endBy_19 : decode cX6_endBy 19 = .ok (.iand, 1) := by decide +kernel
theorem dX6_endBy_20 : decode cX6_endBy 20 = .ok (.istore 4, 2) := by decide +kernel
theorem dX6_endBy_22 : decode cX6_endBy 22 = .ok (.iload_n 3, 1) := by decide +kernel
theorem dX6_endBy_23 : decode cX6_endBy 23 = .ok (.iload 4, 2) := by decide +kernel
theorem dX6_endBy_25 : decode cX6_endBy 25 = .ok (.ior, 1) := by decide +kernel
theorem dX6_endBy_26 : decode cX6_endBy 26 = .ok (.istore_n 3, 1) := by decide +kernel
theorem dX6_endBy_27 : decode cX6_endBy 27 = .ok (.goto (-22), 3) := by decide +kernel
theorem dX6_endBy_30 : decode cX6_endBy 30 = .ok (.iload_n 3, 1) := by decide +kernel
theorem dX6_endBy_31 : decode cX6_endBy 31 = .ok (.ireturn, 1) := by decide +kernel
theorem dX6_yardsBy_0 : decode cX6_yardsBy 0 = .ok (.iload_n 0, 1) := by decide +kernel
theorem dX6_yardsBy_1 : decode cX6_yardsBy 1 = .ok (.iconst 1, 1) := by decide +kernel
theorem dX6_yardsBy_2 : decode cX6_yardsBy 2 = .ok (.if_icmp .ne 7, 3) := by decide +kernel
theorem dX6_yardsBy_5 : decode cX6_yardsBy 5 = .ok (.iconst (-1), 1) := by decide +kernel
theorem dX6_yardsBy_6 : decode cX6_yardsBy 6 = .ok (.goto 18, 3) := by decide +kernel
theorem dX6_yardsBy_9 : decode cX6_yardsBy 9 = .ok (.iload_n 0, 1) := by decide +kernel
theorem dX6_yardsBy_10 : decode cX6_yardsBy 10 = .ok (.iconst 3, 1) := by decide +kernel
theorem dX6_yardsBy_11 : decode cX6_yardsBy 11 = .ok (.if_icmp .eq 8, 3) := by decide +kernel
theorem dX6_yardsBy_14 : decode cX6_yardsBy 14 = .ok (.iload_n 0, 1) := by decide +kernel
theorem dX6_yardsBy_15 : decode cX6_yardsBy 15 = .ok (.iconst 4, 1) := by decide +kernel
theorem dX6_yardsBy_16 : decode cX6_yardsBy 16 = .ok (.if_icmp .ne 7, 3) := by decide +kernel
theorem dX6_yardsBy_19 : decode cX6_yardsBy 19 = .ok (.iconst 2, 1) := by decide +kernel
theorem dX6_yardsBy_20 : decode cX6_yardsBy 20 = .ok (.goto 4, 3) := by decide +kernel
theorem dX6_yardsBy_23 : decode cX6_yardsBy 23 = .ok (.iconst 1, 1) := by decide +kernel
theorem dX6_yardsBy_24 : decode cX6_yardsBy 24 = .ok (.ireturn, 1) := by decide +kernel
theorem dX6_lengthBy_0 : decode cX6_lengthBy 0 = .ok (.iload_n 2, 1) := by decide +kernel
theorem dX6_lengthBy_1 : decode cX6_lengthBy 1 = .ok (.ineg, 1) := by decide +kernel
theorem dX6_lengthBy_2 : decode cX6_lengthBy 2 = .ok (.istore_n 3, 1) := by decide +kernel
theorem dX6_lengthBy_3 : decode cX6_lengthBy 3 = .ok (.iconst 0, 1) := by decide +kernel
theorem dX6_lengthBy_4 : decode cX6_lengthBy 4 = .ok (.istore 4, 2) := by decide +kernel
theorem dX6_lengthBy_6 : decode cX6_lengthBy 6 = .ok (.iconst 0, 1) := by decide +kernel
theorem dX6_lengthBy_7 : decode cX6_lengthBy 7 = .ok (.istore 5, 2) := by decide +kernel
theorem dX6_lengthBy_9 : decode cX6_lengthBy 9 = .ok (.iload 5, 2) := by decide +kernel
theorem dX6_lengthBy_11 : decode cX6_lengthBy 11 = .ok (.aload_n 0, 1) := by decide +kernel
theorem dX6_lengthBy_12 : decode cX6_lengthBy 12 = .ok (.getfield 68, 3) := by decide +kernel
theorem dX6_lengthBy_15 : decode cX6_lengthBy 15 = .ok (.if_icmp .ge 80, 3) := by decide +kernel
theorem dX6_lengthBy_18 : decode cX6_lengthBy 18 = .ok (.iload_n 1, 1) := by decide +kernel
theorem dX6_lengthBy_19 : decode cX6_lengthBy 19 = .ok (.iload 5, 2) := by decide +kernel
theorem dX6_lengthBy_21 : decode cX6_lengthBy 21 = .ok (.ishr, 1) := by decide +kernel
theorem dX6_lengthBy_22 : decode cX6_lengthBy 22 = .ok (.iconst 1, 1) := by decide +kernel
theorem dX6_lengthBy_23 : decode cX6_lengthBy 23 = .ok (.iand, 1) := by decide +kernel
theorem dX6_lengthBy_24 : decode cX6_lengthBy 24 = .ok (.iconst 1, 1) := by decide +kernel
theorem dX6_lengthBy_25 : decode cX6_lengthBy 25 = .ok (.if_icmp .ne 7, 3) := by decide +kernel
theorem dX6_lengthBy_28 : decode cX6_lengthBy 28 = .ok (.iconst 1, 1) := by decide +kernel
theorem dX6_lengthBy_29 : decode cX6_lengthBy 29 = .ok (.goto 4, 3) := by decide +kernel
theorem dX6_lengthBy_32 : decode cX6_lengthBy 32 = .ok (.iconst 0, 1) := by decide +kernel
theorem dX6_lengthBy_33 : decode cX6_lengthBy 33 = .ok (.istore 6, 2) := by decide +kernel
theorem dX6_lengthBy_35 : decode cX6_lengthBy 35 = .ok (.iload_n 3, 1) := by decide +kernel
theorem dX6_lengthBy_36 : decode cX6_lengthBy 36 = .ok (.iload 6, 2) := by decide +kernel
theorem dX6_lengthBy_38 : decode cX6_lengthBy 38 = .ok (.ifCond .eq 18, 3) := by decide +kernel
theorem dX6_lengthBy_41 : decode cX6_lengthBy 41 = .ok (.aload_n 0, 1) := by decide +kernel
theorem dX6_lengthBy_42 : decode cX6_lengthBy 42 = .ok (.getfield 13, 3) := by decide +kernel
theorem dX6_lengthBy_45 : decode cX6_lengthBy 45 = .ok (.iconst 2, 1) := by decide +kernel
theorem dX6_lengthBy_46 : decode cX6_lengthBy 46 = .ok (.iload 5, 2) := by decide +kernel
theorem dX6_lengthBy_48 : decode cX6_lengthBy 48 = .ok (.imul, 1) := by decide +kernel
theorem dX6_lengthBy_49 : decode cX6_lengthBy 49 = .ok (.iaload, 1) := by decide +kernel
theorem dX6_lengthBy_50 : decode cX6_lengthBy 50 = .ok (.invokestatic 98, 3) := by decide +kernel
theorem dX6_lengthBy_53 : decode cX6_lengthBy 53 = .ok (.goto 4, 3) := by decide +kernel
theorem dX6_lengthBy_56 : decode cX6_lengthBy 56 = .ok (.iconst 0, 1) := by decide +kernel
theorem dX6_lengthBy_57 : decode cX6_lengthBy 57 = .ok (.iadd, 1) := by decide +kernel
theorem dX6_lengthBy_58 : decode cX6_lengthBy 58 = .ok (.istore_n 3, 1) := by decide +kernel
theorem dX6_lengthBy_59 : decode cX6_lengthBy 59 = .ok (.iload 4, 2) := by decide +kernel
theorem dX6_lengthBy_61 : decode cX6_lengthBy 61 = .ok (.ifCond .ne 21, 3) := by decide +kernel
theorem dX6_lengthBy_64 : decode cX6_lengthBy 64 = .ok (.iload 6, 2) := by decide +kernel
theorem dX6_lengthBy_66 : decode cX6_lengthBy 66 = .ok (.ifCond .eq 20, 3) := by decide +kernel
theorem dX6_lengthBy_69 : decode cX6_lengthBy 69 = .ok (.aload_n 0, 1) := by decide +kernel
theorem dX6_lengthBy_70 : decode cX6_lengthBy 70 = .ok (.getfield 13, 3) := by decide +kernel
theorem dX6_lengthBy_73 : decode cX6_lengthBy 73 = .ok (.iconst 2, 1) := by decide +kernel
theorem dX6_lengthBy_74 : decode cX6_lengthBy 74 = .ok (.iload 5, 2) := by decide +kernel
theorem dX6_lengthBy_76 : decode cX6_lengthBy 76 = .ok (.imul, 1) := by decide +kernel
theorem dX6_lengthBy_77 : decode cX6_lengthBy 77 = .ok (.iaload, 1) := by decide +kernel
theorem dX6_lengthBy_78 : decode cX6_lengthBy 78 = .ok (.iconst 4, 1) := by decide +kernel
theorem dX6_lengthBy_79 : decode cX6_lengthBy 79 = .ok (.if_icmp .ne 7, 3) := by decide +kernel
theorem dX6_lengthBy_82 : decode cX6_lengthBy 82 = .ok (.iconst 1, 1) := by decide +kernel
theorem dX6_lengthBy_83 : decode cX6_lengthBy 83 = .ok (.goto 4, 3) := by decide +kernel
theorem dX6_lengthBy_86 : decode cX6_lengthBy 86 = .ok (.iconst 0, 1) := by decide +kernel
theorem dX6_lengthBy_87 : decode cX6_lengthBy 87 = .ok (.istore 4, 2) := by decide +kernel
theorem dX6_lengthBy_89 : decode cX6_lengthBy 89 = .ok (.iinc 5 1, 3) := by decide +kernel
theorem dX6_lengthBy_92 : decode cX6_lengthBy 92 = .ok (.goto (-83), 3) := by decide +kernel
theorem dX6_lengthBy_95 : decode cX6_lengthBy 95 = .ok (.iload_n 3, 1) := by decide +kernel
theorem dX6_lengthBy_96 : decode cX6_lengthBy 96 = .ok (.ifCond .ge 7, 3) := by decide +kernel
theorem dX6_lengthBy_99 : decode cX6_lengthBy 99 = .ok (.iconst 0, 1) := by decide +kernel
theorem dX6_lengthBy_100 : decode cX6_lengthBy 100 = .ok (.goto 4, 3) := by decide +kernel
theorem dX6_lengthBy_103 : decode cX6_lengthBy 103 = .ok (.iload_n 3, 1) := by decide +kernel
theorem dX6_lengthBy_104 : decode cX6_lengthBy 104 = .ok (.istore 5, 2) := by decide +kernel
theorem dX6_lengthBy_106 : decode cX6_lengthBy 106 = .ok (.iload 5, 2) := by decide +kernel
theorem dX6_lengthBy_108 : decode cX6_lengthBy 108 = .ok (.aload_n 0, 1) := by decide +kernel
theorem dX6_lengthBy_109 : decode cX6_lengthBy 109 = .ok (.getfield 71, 3) := by decide +kernel
theorem dX6_lengthBy_112 : decode cX6_lengthBy 112 = .ok (.if_icmp .le 15, 3) := by decide +kernel
theorem dX6_lengthBy_115 : decode cX6_lengthBy 115 = .ok (.iload 4, 2) := by decide +kernel
theorem dX6_lengthBy_117 : decode cX6_lengthBy 117 = .ok (.ifCond .ne 10, 3) := by decide +kernel
theorem dX6_lengthBy_120 : decode cX6_lengthBy 120 = .ok (.aload_n 0, 1) := by decide +kernel
theorem dX6_lengthBy_121 : decode cX6_lengthBy 121 = .ok (.getfield 71, 3) := by decide +kernel
theorem dX6_lengthBy_124 : decode cX6_lengthBy 124 = .ok (.goto 5, 3) := by decide +kernel
theorem dX6_lengthBy_127 : decode cX6_lengthBy 127 = .ok (.iload 5, 2) := by decide +kernel
theorem dX6_lengthBy_129 : decode cX6_lengthBy 129 = .ok (.ireturn, 1) := by decide +kernel
theorem dX6_endsOf_0 : decode cX6_endsOf 0 = .ok (.aload_n 0, 1) := by decide +kernel
theorem dX6_endsOf_1 : decode cX6_endsOf 1 = .ok (.aload_n 0, 1) := by decide +kernel
theorem dX6_endsOf_2 : decode cX6_endsOf 2 = .ok (.iload_n 1, 1) := by decide +kernel
theorem dX6_endsOf_3 : decode cX6_endsOf 3 = .ok (.iload_n 1, 1) := by decide +kernel
theorem dX6_endsOf_4 : decode cX6_endsOf 4 = .ok (.invokevirtual 101, 3) := by decide +kernel
theorem dX6_endsOf_7 : decode cX6_endsOf 7 = .ok (.iconst 0, 1) := by decide +kernel
theorem dX6_endsOf_8 : decode cX6_endsOf 8 = .ok (.invokevirtual 105, 3) := by decide +kernel
theorem dX6_endsOf_11 : decode cX6_endsOf 11 = .ok (.ireturn, 1) := by decide +kernel
theorem dX6_dayOf_0 : decode cX6_dayOf 0 = .ok (.iconst 1, 1) := by decide +kernel
theorem dX6_dayOf_1 : decode cX6_dayOf 1 = .ok (.iload_n 2, 1) := by decide +kernel
theorem dX6_dayOf_2 : decode cX6_dayOf 2 = .ok (.ishl, 1) := by decide +kernel
theorem dX6_dayOf_3 : decode cX6_dayOf 3 = .ok (.istore_n 3, 1) := by decide +kernel
theorem dX6_dayOf_4 : decode cX6_dayOf 4 = .ok (.iload_n 3, 1) := by decide +kernel
theorem dX6_dayOf_5 : decode cX6_dayOf 5 = .ok (.istore 4, 2) := by decide +kernel
theorem dX6_dayOf_7 : decode cX6_dayOf 7 = .ok (.iconst 0, 1) := by decide +kernel
theorem dX6_dayOf_8 : decode cX6_dayOf 8 = .ok (.istore 5, 2) := by decide +kernel
theorem dX6_dayOf_10 : decode cX6_dayOf 10 = .ok (.iload 4, 2) := by decide +kernel
theorem dX6_dayOf_12 : decode cX6_dayOf 12 = .ok (.ifCond .eq 35, 3) := by decide +kernel
theorem dX6_dayOf_15 : decode cX6_dayOf 15 = .ok (.iload 4, 2) := by decide +kernel
theorem dX6_dayOf_17 : decode cX6_dayOf 17 = .ok (.iload_n 1, 1) := by decide +kernel
theorem dX6_dayOf_18 : decode cX6_dayOf 18 = .ok (.ishr, 1) := by decide +kernel
theorem dX6_dayOf_19 : decode cX6_dayOf 19 = .ok (.iconst 1, 1) := by decide +kernel
theorem dX6_dayOf_20 : decode cX6_dayOf 20 = .ok (.iand, 1) := by decide +kernel
theorem dX6_dayOf_21 : decode cX6_dayOf 21 = .ok (.ifCond .ne 26, 3) := by decide +kernel
theorem dX6_dayOf_24 : decode cX6_dayOf 24 = .ok (.aload_n 0, 1) := by decide +kernel
theorem dX6_dayOf_25 : decode cX6_dayOf 25 = .ok (.iload 4, 2) := by decide +kernel
theorem dX6_dayOf_27 : decode cX6_dayOf 27 = .ok (.invokevirtual 95, 3) := by decide +kernel
theorem dX6_dayOf_30 : decode cX6_dayOf 30 = .ok (.iload_n 3, 1) := by decide +kernel
theorem dX6_dayOf_31 : decode cX6_dayOf 31 = .ok (.iconst (-1), 1) := by decide +kernel
theorem dX6_dayOf_32 : decode cX6_dayOf 32 = .ok (.ixor, 1) := by decide +kernel
theorem dX6_dayOf_33 : decode cX6_dayOf 33 = .ok (.iand, 1) := by decide +kernel
theorem dX6_dayOf_34 : decode cX6_dayOf 34 = .ok (.istore 4, 2) := by decide +kernel
theorem dX6_dayOf_36 : decode cX6_dayOf 36 = .ok (.iload_n 3, 1) := by decide +kernel
theorem dX6_dayOf_37 : decode cX6_dayOf 37 = .ok (.iload 4, 2) := by decide +kernel
theorem dX6_dayOf_39 : decode cX6_dayOf 39 = .ok (.ior, 1) := by decide +kernel
theorem dX6_dayOf_40 : decode cX6_dayOf 40 = .ok (.istore_n 3, 1) := by decide +kernel
theorem dX6_dayOf_41 : decode cX6_dayOf 41 = .ok (.iinc 5 1, 3) := by decide +kernel
theorem dX6_dayOf_44 : decode cX6_dayOf 44 = .ok (.goto (-34), 3) := by decide +kernel
theorem dX6_dayOf_47 : decode cX6_dayOf 47 = .ok (.iload 4, 2) := by decide +kernel
theorem dX6_dayOf_49 : decode cX6_dayOf 49 = .ok (.ifCond .ne 7, 3) := by decide +kernel
theorem dX6_dayOf_52 : decode cX6_dayOf 52 = .ok (.iconst (-1), 1) := by decide +kernel
theorem dX6_dayOf_53 : decode cX6_dayOf 53 = .ok (.goto 5, 3) := by decide +kernel
theorem dX6_dayOf_56 : decode cX6_dayOf 56 = .ok (.iload 5, 2) := by decide +kernel
theorem dX6_dayOf_58 : decode cX6_dayOf 58 = .ok (.ireturn, 1) := by decide +kernel
theorem dX6_lastsOf_0 : decode cX6_lastsOf 0 = .ok (.iconst 0, 1) := by decide +kernel
theorem dX6_lastsOf_1 : decode cX6_lastsOf 1 = .ok (.istore_n 2, 1) := by decide +kernel
theorem dX6_lastsOf_2 : decode cX6_lastsOf 2 = .ok (.iconst 0, 1) := by decide +kernel
theorem dX6_lastsOf_3 : decode cX6_lastsOf 3 = .ok (.istore_n 3, 1) := by decide +kernel
theorem dX6_lastsOf_4 : decode cX6_lastsOf 4 = .ok (.iload_n 3, 1) := by decide +kernel
theorem dX6_lastsOf_5 : decode cX6_lastsOf 5 = .ok (.aload_n 0, 1) := by decide +kernel
theorem dX6_lastsOf_6 : decode cX6_lastsOf 6 = .ok (.getfield 68, 3) := by decide +kernel
theorem dX6_lastsOf_9 : decode cX6_lastsOf 9 = .ok (.if_icmp .ge 30, 3) := by decide +kernel
theorem dX6_lastsOf_12 : decode cX6_lastsOf 12 = .ok (.aload_n 0, 1) := by decide +kernel
theorem dX6_lastsOf_13 : decode cX6_lastsOf 13 = .ok (.iload_n 3, 1) := by decide +kernel
theorem dX6_lastsOf_14 : decode cX6_lastsOf 14 = .ok (.iload_n 1, 1) := by decide +kernel
theorem dX6_lastsOf_15 : decode cX6_lastsOf 15 = .ok (.invokevirtual 108, 3) := by decide +kernel
theorem dX6_lastsOf_18 : decode cX6_lastsOf 18 = .ok (.istore 4, 2) := by decide +kernel
theorem dX6_lastsOf_20 : decode cX6_lastsOf 20 = .ok (.iload 4, 2) := by decide +kernel
theorem dX6_lastsOf_22 : decode cX6_lastsOf 22 = .ok (.iload_n 2, 1) := by decide +kernel
theorem dX6_lastsOf_23 : decode cX6_lastsOf 23 = .ok (.if_icmp .le 8, 3) := by decide +kernel
theorem dX6_lastsOf_26 : decode cX6_lastsOf 26 = .ok (.iload 4, 2) := by decide +kernel
theorem dX6_lastsOf_28 : decode cX6_lastsOf 28 = .ok (.goto 4, 3) := by decide +kernel
theorem dX6_lastsOf_31 : decode cX6_lastsOf 31 = .ok (.iload_n 2, 1) := by decide +kernel
theorem dX6_lastsOf_32 : decode cX6_lastsOf 32 = .ok (.istore_n 2, 1) := by decide +kernel
theorem dX6_lastsOf_33 : decode cX6_lastsOf 33 = .ok (.iinc 3 1, 3) := by decide +kernel
theorem dX6_lastsOf_36 : decode cX6_lastsOf 36 = .ok (.goto (-32), 3) := by decide +kernel
theorem dX6_lastsOf_39 : decode cX6_lastsOf 39 = .ok (.iload_n 2, 1) := by decide +kernel
theorem dX6_lastsOf_40 : decode cX6_lastsOf 40 = .ok (.ireturn, 1) := by decide +kernel
theorem dX6_tunnelsOf_0 : decode cX6_tunnelsOf 0 = .ok (.iconst 0, 1) := by decide +kernel
theorem dX6_tunnelsOf_1 : decode cX6_tunnelsOf 1 = .ok (.istore_n 2, 1) := by decide +kernel
theorem dX6_tunnelsOf_2 : decode cX6_tunnelsOf 2 = .ok (.iconst 0, 1) := by decide +kernel
theorem dX6_tunnelsOf_3 : decode cX6_tunnelsOf 3 = .ok (.istore_n 3, 1) := by decide +kernel
theorem dX6_tunnelsOf_4 : decode cX6_tunnelsOf 4 = .ok (.iload_n 3, 1) := by decide +kernel
theorem dX6_tunnelsOf_5 : decode cX6_tunnelsOf 5 = .ok (.iconst 3, 1) := by decide +kernel
theorem dX6_tunnelsOf_6 : decode cX6_tunnelsOf 6 = .ok (.if_icmp .ge 26, 3) := by decide +kernel
theorem dX6_tunnelsOf_9 : decode cX6_tunnelsOf 9 = .ok (.iload_n 2, 1) := by decide +kernel
theorem dX6_tunnelsOf_10 : decode cX6_tunnelsOf 10 = .ok (.aload_n 0, 1) := by decide +kernel
theorem dX6_tunnelsOf_11 : decode cX6_tunnelsOf 11 = .ok (.getfield 16, 3) := by decide +kernel
theorem dX6_tunnelsOf_14 : decode cX6_tunnelsOf 14 = .ok (.iconst 3, 1) := by decide +kernel
theorem dX6_tunnelsOf_15 : decode cX6_tunnelsOf 15 = .ok (.iload_n 3, 1) := by decide +kernel
theorem dX6_tunnelsOf_16 : decode cX6_tunnelsOf 16 = .ok (.imul, 1) := by decide +kernel
theorem dX6_tunnelsOf_17 : decode cX6_tunnelsOf 17 = .ok (.iaload, 1) := by decide +kernel
theorem dX6_tunnelsOf_18 : decode cX6_tunnelsOf 18 = .ok (.iload_n 1, 1) := by decide +kernel
theorem dX6_tunnelsOf_19 : decode cX6_tunnelsOf 19 = .ok (.ishr, 1) := by decide +kernel
theorem dX6_tunnelsOf_20 : decode cX6_tunnelsOf 20 = .ok (.iconst 1, 1) := by decide +kernel
theorem dX6_tunnelsOf_21 : decode cX6_tunnelsOf 21 = .ok (.iand, 1) := by decide +kernel
theorem dX6_tunnelsOf_22 : decode cX6_tunnelsOf 22 = .ok (.iload_n 3, 1) := by decide +kernel
theorem dX6_tunnelsOf_23 : decode cX6_tunnelsOf 23 = .ok (.ishl, 1) := by decide +kernel
theorem dX6_tunnelsOf_24 : decode cX6_tunnelsOf 24 = .ok (.ior, 1) := by decide +kernel
theorem dX6_tunnelsOf_25 : decode cX6_tunnelsOf 25 = .ok (.istore_n 2, 1) := by decide +kernel
theorem dX6_tunnelsOf_26 : decode cX6_tunnelsOf 26 = .ok (.iinc 3 1, 3) := by decide +kernel
theorem dX6_tunnelsOf_29 : decode cX6_tunnelsOf 29 = .ok (.goto (-25), 3) := by decide +kernel
theorem dX6_tunnelsOf_32 : decode cX6_tunnelsOf 32 = .ok (.iload_n 2, 1) := by decide +kernel
theorem dX6_tunnelsOf_33 : decode cX6_tunnelsOf 33 = .ok (.ireturn, 1) := by decide +kernel
theorem dX6_tellPerson_0 : decode cX6_tellPerson 0 = .ok (.iload_n 2, 1) := by decide +kernel
theorem dX6_tellPerson_1 : decode cX6_tellPerson 1 = .ok (.tableswitch 76 0 5 #[39, 39, 50, 56, 62, 70], 39) := by decide +kernel
theorem dX6_tellPerson_40 : decode cX6_tellPerson 40 = .ok (.aload_n 0, 1) := by decide +kernel
theorem dX6_tellPerson_41 : decode cX6_tellPerson 41 = .ok (.getfield 13, 3) := by decide +kernel
theorem dX6_tellPerson_44 : decode cX6_tellPerson 44 = .ok (.iconst 2, 1) := by decide +kernel
theorem dX6_tellPerson_45 : decode cX6_tellPerson 45 = .ok (.iload_n 1, 1) := by decide +kernel
theorem dX6_tellPerson_46 : decode cX6_tellPerson 46 = .ok (.imul, 1) := by decide +kernel
theorem dX6_tellPerson_47 : decode cX6_tellPerson 47 = .ok (.iload_n 2, 1) := by decide +kernel
theorem dX6_tellPerson_48 : decode cX6_tellPerson 48 = .ok (.iadd, 1) := by decide +kernel
theorem dX6_tellPerson_49 : decode cX6_tellPerson 49 = .ok (.iaload, 1) := by decide +kernel
theorem dX6_tellPerson_50 : decode cX6_tellPerson 50 = .ok (.ireturn, 1) := by decide +kernel
theorem dX6_tellPerson_51 : decode cX6_tellPerson 51 = .ok (.aload_n 0, 1) := by decide +kernel
theorem dX6_tellPerson_52 : decode cX6_tellPerson 52 = .ok (.iload_n 1, 1) := by decide +kernel
theorem dX6_tellPerson_53 : decode cX6_tellPerson 53 = .ok (.invokevirtual 92, 3) := by decide +kernel
theorem dX6_tellPerson_56 : decode cX6_tellPerson 56 = .ok (.ireturn, 1) := by decide +kernel
theorem dX6_tellPerson_57 : decode cX6_tellPerson 57 = .ok (.aload_n 0, 1) := by decide +kernel
theorem dX6_tellPerson_58 : decode cX6_tellPerson 58 = .ok (.iload_n 1, 1) := by decide +kernel
theorem dX6_tellPerson_59 : decode cX6_tellPerson 59 = .ok (.invokevirtual 111, 3) := by decide +kernel
theorem dX6_tellPerson_62 : decode cX6_tellPerson 62 = .ok (.ireturn, 1) := by decide +kernel
theorem dX6_tellPerson_63 : decode cX6_tellPerson 63 = .ok (.aload_n 0, 1) := by decide +kernel
theorem dX6_tellPerson_64 : decode cX6_tellPerson 64 = .ok (.iconst 1, 1) := by decide +kernel
theorem dX6_tellPerson_65 : decode cX6_tellPerson 65 = .ok (.iload_n 1, 1) := by decide +kernel
theorem dX6_tellPerson_66 : decode cX6_tellPerson 66 = .ok (.ishl, 1) := by decide +kernel
theorem dX6_tellPerson_67 : decode cX6_tellPerson 67 = .ok (.invokevirtual 114, 3) := by decide +kernel
theorem dX6_tellPerson_70 : decode cX6_tellPerson 70 = .ok (.ireturn, 1) := by decide +kernel
theorem dX6_tellPerson_71 : decode cX6_tellPerson 71 = .ok (.aload_n 0, 1) := by decide +kernel
theorem dX6_tellPerson_72 : decode cX6_tellPerson 72 = .ok (.iload_n 1, 1) := by decide +kernel
theorem dX6_tellPerson_73 : decode cX6_tellPerson 73 = .ok (.invokevirtual 117, 3) := by decide +kernel
theorem dX6_tellPerson_76 : decode cX6_tellPerson 76 = .ok (.ireturn, 1) := by decide +kernel
theorem dX6_tellPerson_77 : decode cX6_tellPerson 77 = .ok (.bipush (-102), 2) := by decide +kernel
theorem dX6_tellPerson_79 : decode cX6_tellPerson 79 = .ok (.ireturn, 1) := by decide +kernel
theorem dX6_person_0 : decode cX6_person 0 = .ok (.aload_n 0, 1) := by decide +kernel
theorem dX6_person_1 : decode cX6_person 1 = .ok (.iload_n 1, 1) := by decide +kernel
theorem dX6_person_2 : decode cX6_person 2 = .ok (.invokevirtual 120, 3) := by decide +kernel
theorem dX6_person_5 : decode cX6_person 5 = .ok (.ifCond .eq 12, 3) := by decide +kernel
theorem dX6_person_8 : decode cX6_person 8 = .ok (.aload_n 0, 1) := by decide +kernel
theorem dX6_person_9 : decode cX6_person 9 = .ok (.iload_n 1, 1) := by decide +kernel
theorem dX6_person_10 : decode cX6_person 10 = .ok (.iload_n 2, 1) := by decide +kernel
theorem dX6_person_11 : decode cX6_person 11 = .ok (.invokevirtual 123, 3) := by decide +kernel
theorem dX6_person_14 : decode cX6_person 14 = .ok (.goto 5, 3) := by decide +kernel
theorem dX6_person_17 : decode cX6_person 17 = .ok (.bipush (-101), 2) := by decide +kernel
theorem dX6_person_19 : decode cX6_person 19 = .ok (.ireturn, 1) := by decide +kernel
theorem dX6_as_0 : decode cX6_as 0 = .ok (.aload_n 0, 1) := by decide +kernel
theorem dX6_as_1 : decode cX6_as 1 = .ok (.iload_n 1, 1) := by decide +kernel
theorem dX6_as_2 : decode cX6_as 2 = .ok (.invokevirtual 120, 3) := by decide +kernel
theorem dX6_as_5 : decode cX6_as 5 = .ok (.ifCond .ne 6, 3) := by decide +kernel
theorem dX6_as_8 : decode cX6_as 8 = .ok (.bipush (-101), 2) := by decide +kernel
theorem dX6_as_10 : decode cX6_as 10 = .ok (.ireturn, 1) := by decide +kernel
theorem dX6_as_11 : decode cX6_as 11 = .ok (.iload_n 2, 1) := by decide +kernel
theorem dX6_as_12 : decode cX6_as 12 = .ok (.i2l, 1) := by decide +kernel
theorem dX6_as_13 : decode cX6_as 13 = .ok (.lconst 0, 1) := by decide +kernel
theorem dX6_as_14 : decode cX6_as 14 = .ok (.ldc2_w 126, 3) := by decide +kernel
theorem dX6_as_17 : decode cX6_as 17 = .ok (.invokestatic 40, 3) := by decide +kernel
theorem dX6_as_20 : decode cX6_as 20 = .ok (.ifCond .ne 6, 3) := by decide +kernel
theorem dX6_as_23 : decode cX6_as 23 = .ok (.bipush (-102), 2) := by decide +kernel
theorem dX6_as_25 : decode cX6_as 25 = .ok (.ireturn, 1) := by decide +kernel
theorem dX6_as_26 : decode cX6_as 26 = .ok (.aload_n 0, 1) := by decide +kernel
theorem dX6_as_27 : decode cX6_as 27 = .ok (.getfield 13, 3) := by decide +kernel
theorem dX6_as_30 : decode cX6_as 30 = .ok (.iconst 2, 1) := by decide +kernel
theorem dX6_as_31 : decode cX6_as 31 = .ok (.iload_n 1, 1) := by decide +kernel
theorem dX6_as_32 : decode cX6_as 32 = .ok (.imul, 1) := by decide +kernel
theorem dX6_as_33 : decode cX6_as 33 = .ok (.iaload, 1) := by decide +kernel
theorem dX6_as_34 : decode cX6_as 34 = .ok (.istore_n 3, 1) := by decide +kernel
theorem dX6_as_35 : decode cX6_as 35 = .ok (.iload_n 2, 1) := by decide +kernel
theorem dX6_as_36 : decode cX6_as 36 = .ok (.ifCond .eq 18, 3) := by decide +kernel
theorem dX6_as_39 : decode cX6_as 39 = .ok (.iload_n 2, 1) := by decide +kernel
theorem dX6_as_40 : decode cX6_as 40 = .ok (.iload_n 3, 1) := by decide +kernel
theorem dX6_as_41 : decode cX6_as 41 = .ok (.if_icmp .eq 13, 3) := by decide +kernel
theorem dX6_as_44 : decode cX6_as 44 = .ok (.iload_n 2, 1) := by decide +kernel
theorem dX6_as_45 : decode cX6_as 45 = .ok (.iconst 2, 1) := by decide +kernel
theorem dX6_as_46 : decode cX6_as 46 = .ok (.if_icmp .ne 12, 3) := by decide +kernel
theorem dX6_as_49 : decode cX6_as 49 = .ok (.iload_n 3, 1) := by decide +kernel
theorem dX6_as_50 : decode cX6_as 50 = .ok (.iconst 4, 1) := by decide +kernel
theorem dX6_as_51 : decode cX6_as 51 = .ok (.if_icmp .ne 7, 3) := by decide +kernel
theorem dX6_as_54 : decode cX6_as 54 = .ok (.iconst 1, 1) := by decide +kernel
theorem dX6_as_55 : decode cX6_as 55 = .ok (.goto 4, 3) := by decide +kernel
theorem dX6_as_58 : decode cX6_as 58 = .ok (.iconst 0, 1) := by decide +kernel
theorem dX6_as_59 : decode cX6_as 59 = .ok (.istore 4, 2) := by decide +kernel
theorem dX6_as_61 : decode cX6_as 61 = .ok (.iload 4, 2) := by decide +kernel
theorem dX6_as_63 : decode cX6_as 63 = .ok (.ifCond .eq 7, 3) := by decide +kernel
theorem dX6_as_66 : decode cX6_as 66 = .ok (.iload_n 1, 1) := by decide +kernel
theorem dX6_as_67 : decode cX6_as 67 = .ok (.goto 4, 3) := by decide +kernel
theorem dX6_as_70 : decode cX6_as 70 = .ok (.iconst (-1), 1) := by decide +kernel
theorem dX6_as_71 : decode cX6_as 71 = .ok (.ireturn, 1) := by decide +kernel
theorem dX6_next_0 : decode cX6_next 0 = .ok (.aload_n 0, 1) := by decide +kernel
theorem dX6_next_1 : decode cX6_next 1 = .ok (.iload_n 1, 1) := by decide +kernel
theorem dX6_next_2 : decode cX6_next 2 = .ok (.invokevirtual 120, 3) := by decide +kernel
theorem dX6_next_5 : decode cX6_next 5 = .ok (.ifCond .eq 16, 3) := by decide +kernel
theorem dX6_next_8 : decode cX6_next 8 = .ok (.iload_n 2, 1) := by decide +kernel
theorem dX6_next_9 : decode cX6_next 9 = .ok (.iconst (-1), 1) := by decide +kernel
theorem dX6_next_10 : decode cX6_next 10 = .ok (.if_icmp .eq 14, 3) := by decide +kernel
theorem dX6_next_13 : decode cX6_next 13 = .ok (.aload_n 0, 1) := by decide +kernel
theorem dX6_next_14 : decode cX6_next 14 = .ok (.iload_n 2, 1) := by decide +kernel
theorem dX6_next_15 : decode cX6_next 15 = .ok (.invokevirtual 120, 3) := by decide +kernel
theorem dX6_next_18 : decode cX6_next 18 = .ok (.ifCond .ne 6, 3) := by decide +kernel
theorem dX6_next_21 : decode cX6_next 21 = .ok (.bipush (-101), 2) := by decide +kernel
theorem dX6_next_23 : decode cX6_next 23 = .ok (.ireturn, 1) := by decide +kernel
theorem dX6_next_24 : decode cX6_next 24 = .ok (.aload_n 0, 1) := by decide +kernel
theorem dX6_next_25 : decode cX6_next 25 = .ok (.getfield 13, 3) := by decide +kernel
theorem dX6_next_28 : decode cX6_next 28 = .ok (.iconst 2, 1) := by decide +kernel
theorem dX6_next_29 : decode cX6_next 29 = .ok (.iload_n 1, 1) := by decide +kernel
theorem dX6_next_30 : decode cX6_next 30 = .ok (.imul, 1) := by decide +kernel
theorem dX6_next_31 : decode cX6_next 31 = .ok (.iconst 1, 1) := by decide +kernel
theorem dX6_next_32 : decode cX6_next 32 = .ok (.iadd, 1) := by decide +kernel
theorem dX6_next_33 : decode cX6_next 33 = .ok (.iaload, 1) := by decide +kernel
theorem dX6_next_34 : decode cX6_next 34 = .ok (.istore_n 3, 1) := by decide +kernel
theorem dX6_next_35 : decode cX6_next 35 = .ok (.aload_n 0, 1) := by decide +kernel
theorem dX6_next_36 : decode cX6_next 36 = .ok (.getfield 13, 3) := by decide +kernel
theorem dX6_next_39 : decode cX6_next 39 = .ok (.iconst 2, 1) := by decide +kernel
theorem dX6_next_40 : decode cX6_next 40 = .ok (.iload_n 1, 1) := by decide +kernel
theorem dX6_next_41 : decode cX6_next 41 = .ok (.imul, 1) := by decide +kernel
theorem dX6_next_42 : decode cX6_next 42 = .ok (.iconst 1, 1) := by decide +kernel
theorem dX6_next_43 : decode cX6_next 43 = .ok (.iadd, 1) := by decide +kernel
theorem dX6_next_44 : decode cX6_next 44 = .ok (.iload_n 2, 1) := by decide +kernel
theorem dX6_next_45 : decode cX6_next 45 = .ok (.iload_n 1, 1) := by decide +kernel
theorem dX6_next_46 : decode cX6_next 46 = .ok (.if_icmp .ne 7, 3) := by decide +kernel
theorem dX6_next_49 : decode cX6_next 49 = .ok (.iconst (-1), 1) := by decide +kernel
theorem dX6_next_50 : decode cX6_next 50 = .ok (.goto 4, 3) := by decide +kernel
theorem dX6_next_53 : decode cX6_next 53 = .ok (.iload_n 2, 1) := by decide +kernel
theorem dX6_next_54 : decode cX6_next 54 = .ok (.iastore, 1) := by decide +kernel
theorem dX6_next_55 : decode cX6_next 55 = .ok (.aload_n 0, 1) := by decide +kernel
theorem dX6_next_56 : decode cX6_next 56 = .ok (.dup, 1) := by decide +kernel
theorem dX6_next_57 : decode cX6_next 57 = .ok (.getfield 77, 3) := by decide +kernel
theorem dX6_next_60 : decode cX6_next 60 = .ok (.iconst 1, 1) := by decide +kernel
theorem dX6_next_61 : decode cX6_next 61 = .ok (.iadd, 1) := by decide +kernel
theorem dX6_next_62 : decode cX6_next 62 = .ok (.putfield 77, 3) := by decide +kernel
theorem dX6_next_65 : decode cX6_next 65 = .ok (.iload_n 3, 1) := by decide +kernel
theorem dX6_next_66 : decode cX6_next 66 = .ok (.ireturn, 1) := by decide +kernel
theorem dX6_lengthOf_0 : decode cX6_lengthOf 0 = .ok (.aload_n 0, 1) := by decide +kernel
theorem dX6_lengthOf_1 : decode cX6_lengthOf 1 = .ok (.aload_n 0, 1) := by decide +kernel
theorem dX6_lengthOf_2 : decode cX6_lengthOf 2 = .ok (.getfield 16, 3) := by decide +kernel
theorem dX6_lengthOf_5 : decode cX6_lengthOf 5 = .ok (.iconst 3, 1) := by decide +kernel
theorem dX6_lengthOf_6 : decode cX6_lengthOf 6 = .ok (.iload_n 1, 1) := by decide +kernel
theorem dX6_lengthOf_7 : decode cX6_lengthOf 7 = .ok (.imul, 1) := by decide +kernel
theorem dX6_lengthOf_8 : decode cX6_lengthOf 8 = .ok (.iaload, 1) := by decide +kernel
theorem dX6_lengthOf_9 : decode cX6_lengthOf 9 = .ok (.aload_n 0, 1) := by decide +kernel
theorem dX6_lengthOf_10 : decode cX6_lengthOf 10 = .ok (.getfield 16, 3) := by decide +kernel
theorem dX6_lengthOf_13 : decode cX6_lengthOf 13 = .ok (.iconst 3, 1) := by decide +kernel
theorem dX6_lengthOf_14 : decode cX6_lengthOf 14 = .ok (.iload_n 1, 1) := by decide +kernel
theorem dX6_lengthOf_15 : decode cX6_lengthOf 15 = .ok (.imul, 1) := by decide +kernel
theorem dX6_lengthOf_16 : decode cX6_lengthOf 16 = .ok (.iconst 2, 1) := by decide +kernel
theorem dX6_lengthOf_17 : decode cX6_lengthOf 17 = .ok (.iadd, 1) := by decide +kernel
theorem dX6_lengthOf_18 : decode cX6_lengthOf 18 = .ok (.iaload, 1) := by decide +kernel
theorem dX6_lengthOf_19 : decode cX6_lengthOf 19 = .ok (.invokevirtual 105, 3) := by decide +kernel
theorem dX6_lengthOf_22 : decode cX6_lengthOf 22 = .ok (.ireturn, 1) := by decide +kernel
theorem dX6_tell_0 : decode cX6_tell 0 = .ok (.aload_n 0, 1) := by decide +kernel
theorem dX6_tell_1 : decode cX6_tell 1 = .ok (.iload_n 1, 1) := by decide +kernel
theorem dX6_tell_2 : decode cX6_tell 2 = .ok (.invokevirtual 128, 3) := by decide +kernel
theorem dX6_tell_5 : decode cX6_tell 5 = .ok (.ifCond .eq 11, 3) := by decide +kernel
theorem dX6_tell_8 : decode cX6_tell 8 = .ok (.aload_n 0, 1) := by decide +kernel
theorem dX6_tell_9 : decode cX6_tell 9 = .ok (.iload_n 2, 1) := by decide +kernel
theorem dX6_tell_10 : decode cX6_tell 10 = .ok (.invokevirtual 120, 3) := by decide +kernel
theorem dX6_tell_13 : decode cX6_tell 13 = .ok (.ifCond .ne 6, 3) := by decide +kernel
theorem dX6_tell_16 : decode cX6_tell 16 = .ok (.bipush (-101), 2) := by decide +kernel
theorem dX6_tell_18 : decode cX6_tell 18 = .ok (.ireturn, 1) := by decide +kernel
theorem dX6_tell_19 : decode cX6_tell 19 = .ok (.aload_n 0, 1) := by decide +kernel
theorem dX6_tell_20 : decode cX6_tell 20 = .ok (.getfield 16, 3) := by decide +kernel
theorem dX6_tell_23 : decode cX6_tell 23 = .ok (.iconst 3, 1) := by decide +kernel
theorem dX6_tell_24 : decode cX6_tell 24 = .ok (.iload_n 1, 1) := by decide +kernel
theorem dX6_tell_25 : decode cX6_tell 25 = .ok (.imul, 1) := by decide +kernel
theorem dX6_tell_26 : decode cX6_tell 26 = .ok (.iaload, 1) := by decide +kernel
theorem dX6_tell_27 : decode cX6_tell 27 = .ok (.iload_n 2, 1) := by decide +kernel
theorem dX6_tell_28 : decode cX6_tell 28 = .ok (.ishr, 1) := by decide +kernel
theorem dX6_tell_29 : decode cX6_tell 29 = .ok (.iconst 1, 1) := by decide +kernel
theorem dX6_tell_30 : decode cX6_tell 30 = .ok (.iand, 1) := by decide +kernel
theorem dX6_tell_31 : decode cX6_tell 31 = .ok (.iconst 1, 1) := by decide +kernel
theorem dX6_tell_32 : decode cX6_tell 32 = .ok (.if_icmp .ne 6, 3) := by decide +kernel
theorem dX6_tell_35 : decode cX6_tell 35 = .ok (.bipush (-103), 2) := by decide +kernel
theorem dX6_tell_37 : decode cX6_tell 37 = .ok (.ireturn, 1) := by decide +kernel
theorem dX6_tell_38 : decode cX6_tell 38 = .ok (.aload_n 0, 1) := by decide +kernel
theorem dX6_tell_39 : decode cX6_tell 39 = .ok (.getfield 16, 3) := by decide +kernel
theorem dX6_tell_42 : decode cX6_tell 42 = .ok (.iconst 3, 1) := by decide +kernel
theorem dX6_tell_43 : decode cX6_tell 43 = .ok (.iload_n 1, 1) := by decide +kernel
theorem dX6_tell_44 : decode cX6_tell 44 = .ok (.imul, 1) := by decide +kernel
theorem dX6_tell_45 : decode cX6_tell 45 = .ok (.dup2, 1) := by decide +kernel
theorem dX6_tell_46 : decode cX6_tell 46 = .ok (.iaload, 1) := by decide +kernel
theorem dX6_tell_47 : decode cX6_tell 47 = .ok (.iconst 1, 1) := by decide +kernel
theorem dX6_tell_48 : decode cX6_tell 48 = .ok (.iload_n 2, 1) := by decide +kernel
theorem dX6_tell_49 : decode cX6_tell 49 = .ok (.ishl, 1) := by decide +kernel
theorem dX6_tell_50 : decode cX6_tell 50 = .ok (.ior, 1) := by decide +kernel
theorem dX6_tell_51 : decode cX6_tell 51 = .ok (.iastore, 1) := by decide +kernel
theorem dX6_tell_52 : decode cX6_tell 52 = .ok (.aload_n 0, 1) := by decide +kernel
theorem dX6_tell_53 : decode cX6_tell 53 = .ok (.getfield 16, 3) := by decide +kernel
theorem dX6_tell_56 : decode cX6_tell 56 = .ok (.iconst 3, 1) := by decide +kernel
theorem dX6_tell_57 : decode cX6_tell 57 = .ok (.iload_n 1, 1) := by decide +kernel
theorem dX6_tell_58 : decode cX6_tell 58 = .ok (.imul, 1) := by decide +kernel
theorem dX6_tell_59 : decode cX6_tell 59 = .ok (.iconst 1, 1) := by decide +kernel
theorem dX6_tell_60 : decode cX6_tell 60 = .ok (.iadd, 1) := by decide +kernel
theorem dX6_tell_61 : decode cX6_tell 61 = .ok (.dup2, 1) := by decide +kernel
theorem dX6_tell_62 : decode cX6_tell 62 = .ok (.iaload, 1) := by decide +kernel
theorem dX6_tell_63 : decode cX6_tell 63 = .ok (.iconst 1, 1) := by decide +kernel
theorem dX6_tell_64 : decode cX6_tell 64 = .ok (.iload_n 2, 1) := by decide +kernel
theorem dX6_tell_65 : decode cX6_tell 65 = .ok (.ishl, 1) := by decide +kernel
theorem dX6_tell_66 : decode cX6_tell 66 = .ok (.ior, 1) := by decide +kernel
theorem dX6_tell_67 : decode cX6_tell 67 = .ok (.iastore, 1) := by decide +kernel
theorem dX6_tell_68 : decode cX6_tell 68 = .ok (.aload_n 0, 1) := by decide +kernel
theorem dX6_tell_69 : decode cX6_tell 69 = .ok (.iload_n 1, 1) := by decide +kernel
theorem dX6_tell_70 : decode cX6_tell 70 = .ok (.invokevirtual 131, 3) := by decide +kernel
theorem dX6_tell_73 : decode cX6_tell 73 = .ok (.ireturn, 1) := by decide +kernel
theorem dX6_day_0 : decode cX6_day 0 = .ok (.aload_n 0, 1) := by decide +kernel
theorem dX6_day_1 : decode cX6_day 1 = .ok (.invokevirtual 86, 3) := by decide +kernel
theorem dX6_day_4 : decode cX6_day 4 = .ok (.ifCond .eq 6, 3) := by decide +kernel
theorem dX6_day_7 : decode cX6_day 7 = .ok (.bipush (-103), 2) := by decide +kernel
theorem dX6_day_9 : decode cX6_day 9 = .ok (.ireturn, 1) := by decide +kernel
theorem dX6_day_10 : decode cX6_day 10 = .ok (.aload_n 0, 1) := by decide +kernel
theorem dX6_day_11 : decode cX6_day 11 = .ok (.getfield 74, 3) := by decide +kernel
theorem dX6_day_14 : decode cX6_day 14 = .ok (.bipush 99, 2) := by decide +kernel
theorem dX6_day_16 : decode cX6_day 16 = .ok (.if_icmp .ne 6, 3) := by decide +kernel
theorem dX6_day_19 : decode cX6_day 19 = .ok (.bipush (-104), 2) := by decide +kernel
theorem dX6_day_21 : decode cX6_day 21 = .ok (.ireturn, 1) := by decide +kernel
theorem dX6_day_22 : decode cX6_day 22 = .ok (.aload_n 0, 1) := by decide +kernel
theorem dX6_day_23 : decode cX6_day 23 = .ok (.dup, 1) := by decide +kernel
theorem dX6_day_24 : decode cX6_day 24 = .ok (.getfield 74, 3) := by decide +kernel
theorem dX6_day_27 : decode cX6_day 27 = .ok (.iconst 1, 1) := by decide +kernel
theorem dX6_day_28 : decode cX6_day 28 = .ok (.iadd, 1) := by decide +kernel
theorem dX6_day_29 : decode cX6_day 29 = .ok (.putfield 74, 3) := by decide +kernel
theorem dX6_day_32 : decode cX6_day 32 = .ok (.iconst 0, 1) := by decide +kernel
theorem dX6_day_33 : decode cX6_day 33 = .ok (.istore_n 1, 1) := by decide +kernel
theorem dX6_day_34 : decode cX6_day 34 = .ok (.iconst 0, 1) := by decide +kernel
theorem dX6_day_35 : decode cX6_day 35 = .ok (.istore_n 2, 1) := by decide +kernel
theorem dX6_day_36 : decode cX6_day 36 = .ok (.iload_n 2, 1) := by decide +kernel
theorem dX6_day_37 : decode cX6_day 37 = .ok (.iconst 3, 1) := by decide +kernel
theorem dX6_day_38 : decode cX6_day 38 = .ok (.if_icmp .ge 65, 3) := by decide +kernel
theorem dX6_day_41 : decode cX6_day 41 = .ok (.aload_n 0, 1) := by decide +kernel
theorem dX6_day_42 : decode cX6_day 42 = .ok (.aload_n 0, 1) := by decide +kernel
theorem dX6_day_43 : decode cX6_day 43 = .ok (.getfield 16, 3) := by decide +kernel
theorem dX6_day_46 : decode cX6_day 46 = .ok (.iconst 3, 1) := by decide +kernel
theorem dX6_day_47 : decode cX6_day 47 = .ok (.iload_n 2, 1) := by decide +kernel
theorem dX6_day_48 : decode cX6_day 48 = .ok (.imul, 1) := by decide +kernel
theorem dX6_day_49 : decode cX6_day 49 = .ok (.iconst 1, 1) := by decide +kernel
theorem dX6_day_50 : decode cX6_day 50 = .ok (.iadd, 1) := by decide +kernel
theorem dX6_day_51 : decode cX6_day 51 = .ok (.iaload, 1) := by decide +kernel
theorem dX6_day_52 : decode cX6_day 52 = .ok (.invokevirtual 95, 3) := by decide +kernel
theorem dX6_day_55 : decode cX6_day 55 = .ok (.aload_n 0, 1) := by decide +kernel
theorem dX6_day_56 : decode cX6_day 56 = .ok (.getfield 16, 3) := by decide +kernel
theorem dX6_day_59 : decode cX6_day 59 = .ok (.iconst 3, 1) := by decide +kernel
theorem dX6_day_60 : decode cX6_day 60 = .ok (.iload_n 2, 1) := by decide +kernel
theorem dX6_day_61 : decode cX6_day 61 = .ok (.imul, 1) := by decide +kernel
theorem dX6_day_62 : decode cX6_day 62 = .ok (.iaload, 1) := by decide +kernel
theorem dX6_day_63 : decode cX6_day 63 = .ok (.iconst (-1), 1) := by decide +kernel
theorem dX6_day_64 : decode cX6_day 64 = .ok (.ixor, 1) := by decide +kernel
theorem dX6_day_65 : decode cX6_day 65 = .ok (.iand, 1) := by decide +kernel
theorem dX6_day_66 : decode cX6_day 66 = .ok (.istore_n 3, 1) := by decide +kernel
theorem dX6_day_67 : decode cX6_day 67 = .ok (.aload_n 0, 1) := by decide +kernel
theorem dX6_day_68 : decode cX6_day 68 = .ok (.getfield 16, 3) := by decide +kernel
theorem dX6_day_71 : decode cX6_day 71 = .ok (.iconst 3, 1) := by decide +kernel
theorem dX6_day_72 : decode cX6_day 72 = .ok (.iload_n 2, 1) := by decide +kernel
theorem dX6_day_73 : decode cX6_day 73 = .ok (.imul, 1) := by decide +kernel
theorem dX6_day_74 : decode cX6_day 74 = .ok (.dup2, 1) := by decide +kernel
theorem dX6_day_75 : decode cX6_day 75 = .ok (.iaload, 1) := by decide +kernel
theorem dX6_day_76 : decode cX6_day 76 = .ok (.iload_n 3, 1) := by decide +kernel
theorem dX6_day_77 : decode cX6_day 77 = .ok (.ior, 1) := by decide +kernel
theorem dX6_day_78 : decode cX6_day 78 = .ok (.iastore, 1) := by decide +kernel
theorem dX6_day_79 : decode cX6_day 79 = .ok (.aload_n 0, 1) := by decide +kernel
theorem dX6_day_80 : decode cX6_day 80 = .ok (.getfield 16, 3) := by decide +kernel
theorem dX6_day_83 : decode cX6_day 83 = .ok (.iconst 3, 1) := by decide +kernel
theorem dX6_day_84 : decode cX6_day 84 = .ok (.iload_n 2, 1) := by decide +kernel
theorem dX6_day_85 : decode cX6_day 85 = .ok (.imul, 1) := by decide +kernel
theorem dX6_day_86 : decode cX6_day 86 = .ok (.iconst 1, 1) := by decide +kernel
theorem dX6_day_87 : decode cX6_day 87 = .ok (.iadd, 1) := by decide +kernel
theorem dX6_day_88 : decode cX6_day 88 = .ok (.iload_n 3, 1) := by decide +kernel
theorem dX6_day_89 : decode cX6_day 89 = .ok (.iastore, 1) := by decide +kernel
theorem dX6_day_90 : decode cX6_day 90 = .ok (.iload_n 1, 1) := by decide +kernel
theorem dX6_day_91 : decode cX6_day 91 = .ok (.iload_n 3, 1) := by decide +kernel
theorem dX6_day_92 : decode cX6_day 92 = .ok (.invokestatic 134, 3) := by decide +kernel
theorem dX6_day_95 : decode cX6_day 95 = .ok (.iadd, 1) := by decide +kernel
theorem dX6_day_96 : decode cX6_day 96 = .ok (.istore_n 1, 1) := by decide +kernel
theorem dX6_day_97 : decode cX6_day 97 = .ok (.iinc 2 1, 3) := by decide +kernel
theorem dX6_day_100 : decode cX6_day 100 = .ok (.goto (-64), 3) := by decide +kernel
theorem dX6_day_103 : decode cX6_day 103 = .ok (.iload_n 1, 1) := by decide +kernel
theorem dX6_day_104 : decode cX6_day 104 = .ok (.ireturn, 1) := by decide +kernel
theorem dX6_deny_0 : decode cX6_deny 0 = .ok (.aload_n 0, 1) := by decide +kernel
theorem dX6_deny_1 : decode cX6_deny 1 = .ok (.iload_n 1, 1) := by decide +kernel
theorem dX6_deny_2 : decode cX6_deny 2 = .ok (.invokevirtual 128, 3) := by decide +kernel
theorem dX6_deny_5 : decode cX6_deny 5 = .ok (.ifCond .ne 6, 3) := by decide +kernel
theorem dX6_deny_8 : decode cX6_deny 8 = .ok (.bipush (-101), 2) := by decide +kernel
theorem dX6_deny_10 : decode cX6_deny 10 = .ok (.ireturn, 1) := by decide +kernel
theorem dX6_deny_11 : decode cX6_deny 11 = .ok (.aload_n 0, 1) := by decide +kernel
theorem dX6_deny_12 : decode cX6_deny 12 = .ok (.getfield 16, 3) := by decide +kernel
theorem dX6_deny_15 : decode cX6_deny 15 = .ok (.iconst 3, 1) := by decide +kernel
theorem dX6_deny_16 : decode cX6_deny 16 = .ok (.iload_n 1, 1) := by decide +kernel
theorem dX6_deny_17 : decode cX6_deny 17 = .ok (.imul, 1) := by decide +kernel
theorem dX6_deny_18 : decode cX6_deny 18 = .ok (.iconst 2, 1) := by decide +kernel
theorem dX6_deny_19 : decode cX6_deny 19 = .ok (.iadd, 1) := by decide +kernel
theorem dX6_deny_20 : decode cX6_deny 20 = .ok (.iaload, 1) := by decide +kernel
theorem dX6_deny_21 : decode cX6_deny 21 = .ok (.bipush 9, 2) := by decide +kernel
theorem dX6_deny_23 : decode cX6_deny 23 = .ok (.if_icmp .ne 6, 3) := by decide +kernel
theorem dX6_deny_26 : decode cX6_deny 26 = .ok (.bipush (-104), 2) := by decide +kernel
theorem dX6_deny_28 : decode cX6_deny 28 = .ok (.ireturn, 1) := by decide +kernel
theorem dX6_deny_29 : decode cX6_deny 29 = .ok (.aload_n 0, 1) := by decide +kernel
theorem dX6_deny_30 : decode cX6_deny 30 = .ok (.getfield 16, 3) := by decide +kernel
theorem dX6_deny_33 : decode cX6_deny 33 = .ok (.iconst 3, 1) := by decide +kernel
theorem dX6_deny_34 : decode cX6_deny 34 = .ok (.iload_n 1, 1) := by decide +kernel
theorem dX6_deny_35 : decode cX6_deny 35 = .ok (.imul, 1) := by decide +kernel
theorem dX6_deny_36 : decode cX6_deny 36 = .ok (.iconst 2, 1) := by decide +kernel
theorem dX6_deny_37 : decode cX6_deny 37 = .ok (.iadd, 1) := by decide +kernel
theorem dX6_deny_38 : decode cX6_deny 38 = .ok (.dup2, 1) := by decide +kernel
theorem dX6_deny_39 : decode cX6_deny 39 = .ok (.iaload, 1) := by decide +kernel
theorem dX6_deny_40 : decode cX6_deny 40 = .ok (.iconst 1, 1) := by decide +kernel
theorem dX6_deny_41 : decode cX6_deny 41 = .ok (.iadd, 1) := by decide +kernel
theorem dX6_deny_42 : decode cX6_deny 42 = .ok (.iastore, 1) := by decide +kernel
theorem dX6_deny_43 : decode cX6_deny 43 = .ok (.aload_n 0, 1) := by decide +kernel
theorem dX6_deny_44 : decode cX6_deny 44 = .ok (.iload_n 1, 1) := by decide +kernel
theorem dX6_deny_45 : decode cX6_deny 45 = .ok (.invokevirtual 131, 3) := by decide +kernel
theorem dX6_deny_48 : decode cX6_deny 48 = .ok (.ireturn, 1) := by decide +kernel
theorem dX6_tellTunnel_0 : decode cX6_tellTunnel 0 = .ok (.iload_n 2, 1) := by decide +kernel
theorem dX6_tellTunnel_1 : decode cX6_tellTunnel 1 = .ok (.i2l, 1) := by decide +kernel
theorem dX6_tellTunnel_2 : decode cX6_tellTunnel 2 = .ok (.lconst 1, 1) := by decide +kernel
theorem dX6_tellTunnel_3 : decode cX6_tellTunnel 3 = .ok (.ldc2_w 137, 3) := by decide +kernel
theorem dX6_tellTunnel_6 : decode cX6_tellTunnel 6 = .ok (.invokestatic 40, 3) := by decide +kernel
theorem dX6_tellTunnel_9 : decode cX6_tellTunnel 9 = .ok (.ifCond .eq 16, 3) := by decide +kernel
theorem dX6_tellTunnel_12 : decode cX6_tellTunnel 12 = .ok (.aload_n 0, 1) := by decide +kernel
theorem dX6_tellTunnel_13 : decode cX6_tellTunnel 13 = .ok (.getfield 16, 3) := by decide +kernel
theorem dX6_tellTunnel_16 : decode cX6_tellTunnel 16 = .ok (.iconst 3, 1) := by decide +kernel
theorem dX6_tellTunnel_17 : decode cX6_tellTunnel 17 = .ok (.iload_n 1, 1) := by decide +kernel
theorem dX6_tellTunnel_18 : decode cX6_tellTunnel 18 = .ok (.imul, 1) := by decide +kernel
theorem dX6_tellTunnel_19 : decode cX6_tellTunnel 19 = .ok (.iload_n 2, 1) := by decide +kernel
theorem dX6_tellTunnel_20 : decode cX6_tellTunnel 20 = .ok (.iadd, 1) := by decide +kernel
theorem dX6_tellTunnel_21 : decode cX6_tellTunnel 21 = .ok (.iconst 1, 1) := by decide +kernel
theorem dX6_tellTunnel_22 : decode cX6_tellTunnel 22 = .ok (.isub, 1) := by decide +kernel
theorem dX6_tellTunnel_23 : decode cX6_tellTunnel 23 = .ok (.iaload, 1) := by decide +kernel
theorem dX6_tellTunnel_24 : decode cX6_tellTunnel 24 = .ok (.ireturn, 1) := by decide +kernel
theorem dX6_tellTunnel_25 : decode cX6_tellTunnel 25 = .ok (.iload_n 2, 1) := by decide +kernel
theorem dX6_tellTunnel_26 : decode cX6_tellTunnel 26 = .ok (.iconst 4, 1) := by decide +kernel
theorem dX6_tellTunnel_27 : decode cX6_tellTunnel 27 = .ok (.if_icmp .ne 40, 3) := by decide +kernel
theorem dX6_tellTunnel_30 : decode cX6_tellTunnel 30 = .ok (.aload_n 0, 1) := by decide +kernel
theorem dX6_tellTunnel_31 : decode cX6_tellTunnel 31 = .ok (.aload_n 0, 1) := by decide +kernel
theorem dX6_tellTunnel_32 : decode cX6_tellTunnel 32 = .ok (.aload_n 0, 1) := by decide +kernel
theorem dX6_tellTunnel_33 : decode cX6_tellTunnel 33 = .ok (.getfield 16, 3) := by decide +kernel
theorem dX6_tellTunnel_36 : decode cX6_tellTunnel 36 = .ok (.iconst 3, 1) := by decide +kernel
theorem dX6_tellTunnel_37 : decode cX6_tellTunnel 37 = .ok (.iload_n 1, 1) := by decide +kernel
theorem dX6_tellTunnel_38 : decode cX6_tellTunnel 38 = .ok (.imul, 1) := by decide +kernel
theorem dX6_tellTunnel_39 : decode cX6_tellTunnel 39 = .ok (.iaload, 1) := by decide +kernel
theorem dX6_tellTunnel_40 : decode cX6_tellTunnel 40 = .ok (.aload_n 0, 1) := by decide +kernel
theorem dX6_tellTunnel_41 : decode cX6_tellTunnel 41 = .ok (.getfield 16, 3) := by decide +kernel
theorem dX6_tellTunnel_44 : decode cX6_tellTunnel 44 = .ok (.iconst 3, 1) := by decide +kernel
theorem dX6_tellTunnel_45 : decode cX6_tellTunnel 45 = .ok (.iload_n 1, 1) := by decide +kernel
theorem dX6_tellTunnel_46 : decode cX6_tellTunnel 46 = .ok (.imul, 1) := by decide +kernel
theorem dX6_tellTunnel_47 : decode cX6_tellTunnel 47 = .ok (.iconst 1, 1) := by decide +kernel
theorem dX6_tellTunnel_48 : decode cX6_tellTunnel 48 = .ok (.iadd, 1) := by decide +kernel
theorem dX6_tellTunnel_49 : decode cX6_tellTunnel 49 = .ok (.iaload, 1) := by decide +kernel
theorem dX6_tellTunnel_50 : decode cX6_tellTunnel 50 = .ok (.invokevirtual 101, 3) := by decide +kernel
theorem dX6_tellTunnel_53 : decode cX6_tellTunnel 53 = .ok (.aload_n 0, 1) := by decide +kernel
theorem dX6_tellTunnel_54 : decode cX6_tellTunnel 54 = .ok (.getfield 16, 3) := by decide +kernel
theorem dX6_tellTunnel_57 : decode cX6_tellTunnel 57 = .ok (.iconst 3, 1) := by decide +kernel
theorem dX6_tellTunnel_58 : decode cX6_tellTunnel 58 = .ok (.iload_n 1, 1) := by decide +kernel
theorem dX6_tellTunnel_59 : decode cX6_tellTunnel 59 = .ok (.imul, 1) := by decide +kernel
theorem dX6_tellTunnel_60 : decode cX6_tellTunnel 60 = .ok (.iconst 2, 1) := by decide +kernel
theorem dX6_tellTunnel_61 : decode cX6_tellTunnel 61 = .ok (.iadd, 1) := by decide +kernel
theorem dX6_tellTunnel_62 : decode cX6_tellTunnel 62 = .ok (.iaload, 1) := by decide +kernel
theorem dX6_tellTunnel_63 : decode cX6_tellTunnel 63 = .ok (.invokevirtual 105, 3) := by decide +kernel
theorem dX6_tellTunnel_66 : decode cX6_tellTunnel 66 = .ok (.ireturn, 1) := by decide +kernel
theorem dX6_tellTunnel_67 : decode cX6_tellTunnel 67 = .ok (.iload_n 2, 1) := by decide +kernel
theorem dX6_tellTunnel_68 : decode cX6_tellTunnel 68 = .ok (.ifCond .ne 11, 3) := by decide +kernel
theorem dX6_tellTunnel_71 : decode cX6_tellTunnel 71 = .ok (.aload_n 0, 1) := by decide +kernel
theorem dX6_tellTunnel_72 : decode cX6_tellTunnel 72 = .ok (.iload_n 1, 1) := by decide +kernel
theorem dX6_tellTunnel_73 : decode cX6_tellTunnel 73 = .ok (.invokevirtual 131, 3) := by decide +kernel
theorem dX6_tellTunnel_76 : decode cX6_tellTunnel 76 = .ok (.goto 5, 3) := by decide +kernel
theorem dX6_tellTunnel_79 : decode cX6_tellTunnel 79 = .ok (.bipush (-102), 2) := by decide +kernel
theorem dX6_tellTunnel_81 : decode cX6_tellTunnel 81 = .ok (.ireturn, 1) := by decide +kernel
theorem dX6_tunnel_0 : decode cX6_tunnel 0 = .ok (.aload_n 0, 1) := by decide +kernel
theorem dX6_tunnel_1 : decode cX6_tunnel 1 = .ok (.iload_n 1, 1) := by decide +kernel
theorem dX6_tunnel_2 : decode cX6_tunnel 2 = .ok (.invokevirtual 128, 3) := by decide +kernel
theorem dX6_tunnel_5 : decode cX6_tunnel 5 = .ok (.ifCond .eq 12, 3) := by decide +kernel
theorem dX6_tunnel_8 : decode cX6_tunnel 8 = .ok (.aload_n 0, 1) := by decide +kernel
theorem dX6_tunnel_9 : decode cX6_tunnel 9 = .ok (.iload_n 1, 1) := by decide +kernel
theorem dX6_tunnel_10 : decode cX6_tunnel 10 = .ok (.iload_n 2, 1) := by decide +kernel
theorem dX6_tunnel_11 : decode cX6_tunnel 11 = .ok (.invokevirtual 139, 3) := by decide +kernel
theorem dX6_tunnel_14 : decode cX6_tunnel 14 = .ok (.goto 5, 3) := by decide +kernel
theorem dX6_tunnel_17 : decode cX6_tunnel 17 = .ok (.bipush (-101), 2) := by decide +kernel
theorem dX6_tunnel_19 : decode cX6_tunnel 19 = .ok (.ireturn, 1) := by decide +kernel
theorem dX6_aimOf_0 : decode cX6_aimOf 0 = .ok (.iconst (-1), 1) := by decide +kernel
theorem dX6_aimOf_1 : decode cX6_aimOf 1 = .ok (.istore_n 3, 1) := by decide +kernel
theorem dX6_aimOf_2 : decode cX6_aimOf 2 = .ok (.iconst 1, 1) := by decide +kernel
theorem dX6_aimOf_3 : decode cX6_aimOf 3 = .ok (.istore 4, 2) := by decide +kernel
theorem dX6_aimOf_5 : decode cX6_aimOf 5 = .ok (.iload 4, 2) := by decide +kernel
theorem dX6_aimOf_7 : decode cX6_aimOf 7 = .ok (.iconst 1, 1) := by decide +kernel
theorem dX6_aimOf_8 : decode cX6_aimOf 8 = .ok (.aload_n 0, 1) := by decide +kernel
theorem dX6_aimOf_9 : decode cX6_aimOf 9 = .ok (.getfield 68, 3) := by decide +kernel
theorem dX6_aimOf_12 : decode cX6_aimOf 12 = .ok (.ishl, 1) := by decide +kernel
theorem dX6_aimOf_13 : decode cX6_aimOf 13 = .ok (.if_icmp .ge 55, 3) := by decide +kernel
theorem dX6_aimOf_16 : decode cX6_aimOf 16 = .ok (.iload_n 3, 1) := by decide +kernel
theorem dX6_aimOf_17 : decode cX6_aimOf 17 = .ok (.iconst (-1), 1) := by decide +kernel
theorem dX6_aimOf_18 : decode cX6_aimOf 18 = .ok (.if_icmp .eq 15, 3) := by decide +kernel
theorem dX6_aimOf_21 : decode cX6_aimOf 21 = .ok (.iload 4, 2) := by decide +kernel
theorem dX6_aimOf_23 : decode cX6_aimOf 23 = .ok (.invokestatic 134, 3) := by decide +kernel
theorem dX6_aimOf_26 : decode cX6_aimOf 26 = .ok (.iload_n 3, 1) := by decide +kernel
theorem dX6_aimOf_27 : decode cX6_aimOf 27 = .ok (.invokestatic 134, 3) := by decide +kernel
theorem dX6_aimOf_30 : decode cX6_aimOf 30 = .ok (.if_icmp .ge 7, 3) := by decide +kernel
theorem dX6_aimOf_33 : decode cX6_aimOf 33 = .ok (.iconst 1, 1) := by decide +kernel
theorem dX6_aimOf_34 : decode cX6_aimOf 34 = .ok (.goto 4, 3) := by decide +kernel
theorem dX6_aimOf_37 : decode cX6_aimOf 37 = .ok (.iconst 0, 1) := by decide +kernel
theorem dX6_aimOf_38 : decode cX6_aimOf 38 = .ok (.istore 5, 2) := by decide +kernel
theorem dX6_aimOf_40 : decode cX6_aimOf 40 = .ok (.iload 5, 2) := by decide +kernel
theorem dX6_aimOf_42 : decode cX6_aimOf 42 = .ok (.ifCond .eq 18, 3) := by decide +kernel
theorem dX6_aimOf_45 : decode cX6_aimOf 45 = .ok (.aload_n 0, 1) := by decide +kernel
theorem dX6_aimOf_46 : decode cX6_aimOf 46 = .ok (.iload 4, 2) := by decide +kernel
theorem dX6_aimOf_48 : decode cX6_aimOf 48 = .ok (.invokevirtual 114, 3) := by decide +kernel
theorem dX6_aimOf_51 : decode cX6_aimOf 51 = .ok (.iload_n 1, 1) := by decide +kernel
theorem dX6_aimOf_52 : decode cX6_aimOf 52 = .ok (.if_icmp .ne 8, 3) := by decide +kernel
theorem dX6_aimOf_55 : decode cX6_aimOf 55 = .ok (.iload 4, 2) := by decide +kernel
theorem dX6_aimOf_57 : decode cX6_aimOf 57 = .ok (.goto 4, 3) := by decide +kernel
theorem dX6_aimOf_60 : decode cX6_aimOf 60 = .ok (.iload_n 3, 1) := by decide +kernel
theorem dX6_aimOf_61 : decode cX6_aimOf 61 = .ok (.istore_n 3, 1) := by decide +kernel
theorem dX6_aimOf_62 : decode cX6_aimOf 62 = .ok (.iinc 4 1, 3) := by decide +kernel
theorem dX6_aimOf_65 : decode cX6_aimOf 65 = .ok (.goto (-60), 3) := by decide +kernel
theorem dX6_aimOf_68 : decode cX6_aimOf 68 = .ok (.iload_n 3, 1) := by decide +kernel
theorem dX6_aimOf_69 : decode cX6_aimOf 69 = .ok (.iconst (-1), 1) := by decide +kernel
theorem dX6_aimOf_70 : decode cX6_aimOf 70 = .ok (.if_icmp .eq 8, 3) := by decide +kernel
theorem dX6_aimOf_73 : decode cX6_aimOf 73 = .ok (.iload_n 2, 1) := by decide +kernel
theorem dX6_aimOf_74 : decode cX6_aimOf 74 = .ok (.iconst 1, 1) := by decide +kernel
theorem dX6_aimOf_75 : decode cX6_aimOf 75 = .ok (.if_icmp .ne 7, 3) := by decide +kernel
theorem dX6_aimOf_78 : decode cX6_aimOf 78 = .ok (.iload_n 3, 1) := by decide +kernel
theorem dX6_aimOf_79 : decode cX6_aimOf 79 = .ok (.goto 7, 3) := by decide +kernel
theorem dX6_aimOf_82 : decode cX6_aimOf 82 = .ok (.iload_n 3, 1) := by decide +kernel
theorem dX6_aimOf_83 : decode cX6_aimOf 83 = .ok (.invokestatic 134, 3) := by decide +kernel
theorem dX6_aimOf_86 : decode cX6_aimOf 86 = .ok (.ireturn, 1) := by decide +kernel
theorem dX6_aim_0 : decode cX6_aim 0 = .ok (.iload_n 1, 1) := by decide +kernel
theorem dX6_aim_1 : decode cX6_aim 1 = .ok (.i2l, 1) := by decide +kernel
theorem dX6_aim_2 : decode cX6_aim 2 = .ok (.lconst 1, 1) := by decide +kernel
theorem dX6_aim_3 : decode cX6_aim 3 = .ok (.ldc2_w 142, 3) := by decide +kernel
theorem dX6_aim_6 : decode cX6_aim 6 = .ok (.invokestatic 40, 3) := by decide +kernel
theorem dX6_aim_9 : decode cX6_aim 9 = .ok (.ifCond .eq 13, 3) := by decide +kernel
theorem dX6_aim_12 : decode cX6_aim 12 = .ok (.iload_n 2, 1) := by decide +kernel
theorem dX6_aim_13 : decode cX6_aim 13 = .ok (.i2l, 1) := by decide +kernel
theorem dX6_aim_14 : decode cX6_aim 14 = .ok (.lconst 0, 1) := by decide +kernel
theorem dX6_aim_15 : decode cX6_aim 15 = .ok (.lconst 1, 1) := by decide +kernel
theorem dX6_aim_16 : decode cX6_aim 16 = .ok (.invokestatic 40, 3) := by decide +kernel
theorem dX6_aim_19 : decode cX6_aim 19 = .ok (.ifCond .ne 6, 3) := by decide +kernel
theorem dX6_aim_22 : decode cX6_aim 22 = .ok (.bipush (-102), 2) := by decide +kernel
theorem dX6_aim_24 : decode cX6_aim 24 = .ok (.ireturn, 1) := by decide +kernel
theorem dX6_aim_25 : decode cX6_aim 25 = .ok (.aload_n 0, 1) := by decide +kernel
theorem dX6_aim_26 : decode cX6_aim 26 = .ok (.invokevirtual 86, 3) := by decide +kernel
theorem dX6_aim_29 : decode cX6_aim 29 = .ok (.ifCond .eq 8, 3) := by decide +kernel
theorem dX6_aim_32 : decode cX6_aim 32 = .ok (.bipush (-103), 2) := by decide +kernel
theorem dX6_aim_34 : decode cX6_aim 34 = .ok (.goto 9, 3) := by decide +kernel
theorem dX6_aim_37 : decode cX6_aim 37 = .ok (.aload_n 0, 1) := by decide +kernel
theorem dX6_aim_38 : decode cX6_aim 38 = .ok (.iload_n 1, 1) := by decide +kernel
theorem dX6_aim_39 : decode cX6_aim 39 = .ok (.iload_n 2, 1) := by decide +kernel
theorem dX6_aim_40 : decode cX6_aim 40 = .ok (.invokevirtual 144, 3) := by decide +kernel
theorem dX6_aim_43 : decode cX6_aim 43 = .ok (.ireturn, 1) := by decide +kernel
theorem dX6_heard_0 : decode cX6_heard 0 = .ok (.aload_n 0, 1) := by decide +kernel
theorem dX6_heard_1 : decode cX6_heard 1 = .ok (.iload_n 1, 1) := by decide +kernel
theorem dX6_heard_2 : decode cX6_heard 2 = .ok (.invokevirtual 120, 3) := by decide +kernel
theorem dX6_heard_5 : decode cX6_heard 5 = .ok (.ifCond .ne 6, 3) := by decide +kernel
theorem dX6_heard_8 : decode cX6_heard 8 = .ok (.bipush (-101), 2) := by decide +kernel
theorem dX6_heard_10 : decode cX6_heard 10 = .ok (.ireturn, 1) := by decide +kernel
theorem dX6_heard_11 : decode cX6_heard 11 = .ok (.iload_n 2, 1) := by decide +kernel
theorem dX6_heard_12 : decode cX6_heard 12 = .ok (.i2l, 1) := by decide +kernel
theorem dX6_heard_13 : decode cX6_heard 13 = .ok (.ldc2_w 147, 3) := by decide +kernel
theorem dX6_heard_16 : decode cX6_heard 16 = .ok (.ldc2_w 149, 3) := by decide +kernel
theorem dX6_heard_19 : decode cX6_heard 19 = .ok (.invokestatic 40, 3) := by decide +kernel
theorem dX6_heard_22 : decode cX6_heard 22 = .ok (.ifCond .ne 6, 3) := by decide +kernel
theorem dX6_heard_25 : decode cX6_heard 25 = .ok (.bipush (-102), 2) := by decide +kernel
theorem dX6_heard_27 : decode cX6_heard 27 = .ok (.ireturn, 1) := by decide +kernel
theorem dX6_heard_28 : decode cX6_heard 28 = .ok (.aload_n 0, 1) := by decide +kernel
theorem dX6_heard_29 : decode cX6_heard 29 = .ok (.getfield 80, 3) := by decide +kernel
theorem dX6_heard_32 : decode cX6_heard 32 = .ok (.bipush 8, 2) := by decide +kernel
theorem dX6_heard_34 : decode cX6_heard 34 = .ok (.if_icmp .ne 6, 3) := by decide +kernel
theorem dX6_heard_37 : decode cX6_heard 37 = .ok (.bipush (-104), 2) := by decide +kernel
theorem dX6_heard_39 : decode cX6_heard 39 = .ok (.ireturn, 1) := by decide +kernel
theorem dX6_heard_40 : decode cX6_heard 40 = .ok (.aload_n 0, 1) := by decide +kernel
theorem dX6_heard_41 : decode cX6_heard 41 = .ok (.getfield 19, 3) := by decide +kernel
theorem dX6_heard_44 : decode cX6_heard 44 = .ok (.iconst 2, 1) := by decide +kernel
theorem dX6_heard_45 : decode cX6_heard 45 = .ok (.aload_n 0, 1) := by decide +kernel
theorem dX6_heard_46 : decode cX6_heard 46 = .ok (.getfield 80, 3) := by decide +kernel
theorem dX6_heard_49 : decode cX6_heard 49 = .ok (.imul, 1) := by decide +kernel
theorem dX6_heard_50 : decode cX6_heard 50 = .ok (.iload_n 1, 1) := by decide +kernel
theorem dX6_heard_51 : decode cX6_heard 51 = .ok (.iastore, 1) := by decide +kernel
theorem dX6_heard_52 : decode cX6_heard 52 = .ok (.aload_n 0, 1) := by decide +kernel
theorem dX6_heard_53 : decode cX6_heard 53 = .ok (.getfield 19, 3) := by decide +kernel
theorem dX6_heard_56 : decode cX6_heard 56 = .ok (.iconst 2, 1) := by decide +kernel
theorem dX6_heard_57 : decode cX6_heard 57 = .ok (.aload_n 0, 1) := by decide +kernel
theorem dX6_heard_58 : decode cX6_heard 58 = .ok (.getfield 80, 3) := by decide +kernel
theorem dX6_heard_61 : decode cX6_heard 61 = .ok (.imul, 1) := by decide +kernel
theorem dX6_heard_62 : decode cX6_heard 62 = .ok (.iconst 1, 1) := by decide +kernel
theorem dX6_heard_63 : decode cX6_heard 63 = .ok (.iadd, 1) := by decide +kernel
theorem dX6_heard_64 : decode cX6_heard 64 = .ok (.iload_n 2, 1) := by decide +kernel
theorem dX6_heard_65 : decode cX6_heard 65 = .ok (.iastore, 1) := by decide +kernel
theorem dX6_heard_66 : decode cX6_heard 66 = .ok (.aload_n 0, 1) := by decide +kernel
theorem dX6_heard_67 : decode cX6_heard 67 = .ok (.dup, 1) := by decide +kernel
theorem dX6_heard_68 : decode cX6_heard 68 = .ok (.getfield 80, 3) := by decide +kernel
theorem dX6_heard_71 : decode cX6_heard 71 = .ok (.iconst 1, 1) := by decide +kernel
theorem dX6_heard_72 : decode cX6_heard 72 = .ok (.iadd, 1) := by decide +kernel
theorem dX6_heard_73 : decode cX6_heard 73 = .ok (.putfield 80, 3) := by decide +kernel
theorem dX6_heard_76 : decode cX6_heard 76 = .ok (.aload_n 0, 1) := by decide +kernel
theorem dX6_heard_77 : decode cX6_heard 77 = .ok (.getfield 80, 3) := by decide +kernel
theorem dX6_heard_80 : decode cX6_heard 80 = .ok (.ireturn, 1) := by decide +kernel
theorem dX6_forget_0 : decode cX6_forget 0 = .ok (.aload_n 0, 1) := by decide +kernel
theorem dX6_forget_1 : decode cX6_forget 1 = .ok (.getfield 80, 3) := by decide +kernel
theorem dX6_forget_4 : decode cX6_forget 4 = .ok (.istore_n 1, 1) := by decide +kernel
theorem dX6_forget_5 : decode cX6_forget 5 = .ok (.aload_n 0, 1) := by decide +kernel
theorem dX6_forget_6 : decode cX6_forget 6 = .ok (.iconst 0, 1) := by decide +kernel
theorem dX6_forget_7 : decode cX6_forget 7 = .ok (.putfield 80, 3) := by decide +kernel
theorem dX6_forget_10 : decode cX6_forget 10 = .ok (.iload_n 1, 1) := by decide +kernel
theorem dX6_forget_11 : decode cX6_forget 11 = .ok (.ireturn, 1) := by decide +kernel
theorem dX6_beganOf_0 : decode cX6_beganOf 0 = .ok (.iconst 0, 1) := by decide +kernel
theorem dX6_beganOf_1 : decode cX6_beganOf 1 = .ok (.istore_n 1, 1) := by decide +kernel
theorem dX6_beganOf_2 : decode cX6_beganOf 2 = .ok (.iconst 0, 1) := by decide +kernel
theorem dX6_beganOf_3 : decode cX6_beganOf 3 = .ok (.istore_n 2, 1) := by decide +kernel
theorem dX6_beganOf_4 : decode cX6_beganOf 4 = .ok (.iload_n 2, 1) := by decide +kernel
theorem dX6_beganOf_5 : decode cX6_beganOf 5 = .ok (.aload_n 0, 1) := by decide +kernel
theorem dX6_beganOf_6 : decode cX6_beganOf 6 = .ok (.getfield 68, 3) := by decide +kernel
theorem dX6_beganOf_9 : decode cX6_beganOf 9 = .ok (.if_icmp .ge 81, 3) := by decide +kernel
theorem dX6_beganOf_12 : decode cX6_beganOf 12 = .ok (.iconst 1, 1) := by decide +kernel
theorem dX6_beganOf_13 : decode cX6_beganOf 13 = .ok (.istore_n 3, 1) := by decide +kernel
theorem dX6_beganOf_14 : decode cX6_beganOf 14 = .ok (.iconst 0, 1) := by decide +kernel
theorem dX6_beganOf_15 : decode cX6_beganOf 15 = .ok (.istore 4, 2) := by decide +kernel
theorem dX6_beganOf_17 : decode cX6_beganOf 17 = .ok (.iload 4, 2) := by decide +kernel
theorem dX6_beganOf_19 : decode cX6_beganOf 19 = .ok (.aload_n 0, 1) := by decide +kernel
theorem dX6_beganOf_20 : decode cX6_beganOf 20 = .ok (.getfield 80, 3) := by decide +kernel
theorem dX6_beganOf_23 : decode cX6_beganOf 23 = .ok (.if_icmp .ge 47, 3) := by decide +kernel
theorem dX6_beganOf_26 : decode cX6_beganOf 26 = .ok (.iload_n 3, 1) := by decide +kernel
theorem dX6_beganOf_27 : decode cX6_beganOf 27 = .ok (.ifCond .eq 35, 3) := by decide +kernel
theorem dX6_beganOf_30 : decode cX6_beganOf 30 = .ok (.aload_n 0, 1) := by decide +kernel
theorem dX6_beganOf_31 : decode cX6_beganOf 31 = .ok (.aload_n 0, 1) := by decide +kernel
theorem dX6_beganOf_32 : decode cX6_beganOf 32 = .ok (.getfield 19, 3) := by decide +kernel
theorem dX6_beganOf_35 : decode cX6_beganOf 35 = .ok (.iconst 2, 1) := by decide +kernel
theorem dX6_beganOf_36 : decode cX6_beganOf 36 = .ok (.iload 4, 2) := by decide +kernel
theorem dX6_beganOf_38 : decode cX6_beganOf 38 = .ok (.imul, 1) := by decide +kernel
theorem dX6_beganOf_39 : decode cX6_beganOf 39 = .ok (.iaload, 1) := by decide +kernel
theorem dX6_beganOf_40 : decode cX6_beganOf 40 = .ok (.iload_n 2, 1) := by decide +kernel
theorem dX6_beganOf_41 : decode cX6_beganOf 41 = .ok (.invokevirtual 108, 3) := by decide +kernel
theorem dX6_beganOf_44 : decode cX6_beganOf 44 = .ok (.aload_n 0, 1) := by decide +kernel
theorem dX6_beganOf_45 : decode cX6_beganOf 45 = .ok (.getfield 19, 3) := by decide +kernel
theorem dX6_beganOf_48 : decode cX6_beganOf 48 = .ok (.iconst 2, 1) := by decide +kernel
theorem dX6_beganOf_49 : decode cX6_beganOf 49 = .ok (.iload 4, 2) := by decide +kernel
theorem dX6_beganOf_51 : decode cX6_beganOf 51 = .ok (.imul, 1) := by decide +kernel
theorem dX6_beganOf_52 : decode cX6_beganOf 52 = .ok (.iconst 1, 1) := by decide +kernel
theorem dX6_beganOf_53 : decode cX6_beganOf 53 = .ok (.iadd, 1) := by decide +kernel
theorem dX6_beganOf_54 : decode cX6_beganOf 54 = .ok (.iaload, 1) := by decide +kernel
theorem dX6_beganOf_55 : decode cX6_beganOf 55 = .ok (.if_icmp .ne 7, 3) := by decide +kernel
theorem dX6_beganOf_58 : decode cX6_beganOf 58 = .ok (.iconst 1, 1) := by decide +kernel
theorem dX6_beganOf_59 : decode cX6_beganOf 59 = .ok (.goto 4, 3) := by decide +kernel
theorem dX6_beganOf_62 : decode cX6_beganOf 62 = .ok (.iconst 0, 1) := by decide +kernel
theorem dX6_beganOf_63 : decode cX6_beganOf 63 = .ok (.istore_n 3, 1) := by decide +kernel
theorem dX6_beganOf_64 : decode cX6_beganOf 64 = .ok (.iinc 4 1, 3) := by decide +kernel
theorem dX6_beganOf_67 : decode cX6_beganOf 67 = .ok (.goto (-50), 3) := by decide +kernel
theorem dX6_beganOf_70 : decode cX6_beganOf 70 = .ok (.iload_n 1, 1) := by decide +kernel
theorem dX6_beganOf_71 : decode cX6_beganOf 71 = .ok (.iload_n 3, 1) := by decide +kernel
theorem dX6_beganOf_72 : decode cX6_beganOf 72 = .ok (.ifCond .eq 9, 3) := by decide +kernel
theorem dX6_beganOf_75 : decode cX6_beganOf 75 = .ok (.iconst 1, 1) := by decide +kernel
theorem dX6_beganOf_76 : decode cX6_beganOf 76 = .ok (.iload_n 2, 1) := by decide +kernel
theorem dX6_beganOf_77 : decode cX6_beganOf 77 = .ok (.ishl, 1) := by decide +kernel
theorem dX6_beganOf_78 : decode cX6_beganOf 78 = .ok (.goto 4, 3) := by decide +kernel
theorem dX6_beganOf_81 : decode cX6_beganOf 81 = .ok (.iconst 0, 1) := by decide +kernel
theorem dX6_beganOf_82 : decode cX6_beganOf 82 = .ok (.ior, 1) := by decide +kernel
theorem dX6_beganOf_83 : decode cX6_beganOf 83 = .ok (.istore_n 1, 1) := by decide +kernel
theorem dX6_beganOf_84 : decode cX6_beganOf 84 = .ok (.iinc 2 1, 3) := by decide +kernel
theorem dX6_beganOf_87 : decode cX6_beganOf 87 = .ok (.goto (-83), 3) := by decide +kernel
theorem dX6_beganOf_90 : decode cX6_beganOf 90 = .ok (.iload_n 1, 1) := by decide +kernel
theorem dX6_beganOf_91 : decode cX6_beganOf 91 = .ok (.ireturn, 1) := by decide +kernel
theorem dX6_began_0 : decode cX6_began 0 = .ok (.aload_n 0, 1) := by decide +kernel
theorem dX6_began_1 : decode cX6_began 1 = .ok (.invokevirtual 86, 3) := by decide +kernel
theorem dX6_began_4 : decode cX6_began 4 = .ok (.ifCond .eq 8, 3) := by decide +kernel
theorem dX6_began_7 : decode cX6_began 7 = .ok (.bipush (-103), 2) := by decide +kernel
theorem dX6_began_9 : decode cX6_began 9 = .ok (.goto 7, 3) := by decide +kernel
theorem dX6_began_12 : decode cX6_began 12 = .ok (.aload_n 0, 1) := by decide +kernel
theorem dX6_began_13 : decode cX6_began 13 = .ok (.invokevirtual 151, 3) := by decide +kernel
theorem dX6_began_16 : decode cX6_began 16 = .ok (.ireturn, 1) := by decide +kernel
theorem dX6_askOf_0 : decode cX6_askOf 0 = .ok (.aload_n 0, 1) := by decide +kernel
theorem dX6_askOf_1 : decode cX6_askOf 1 = .ok (.invokevirtual 151, 3) := by decide +kernel
theorem dX6_askOf_4 : decode cX6_askOf 4 = .ok (.istore_n 1, 1) := by decide +kernel
theorem dX6_askOf_5 : decode cX6_askOf 5 = .ok (.iconst (-1), 1) := by decide +kernel
theorem dX6_askOf_6 : decode cX6_askOf 6 = .ok (.istore_n 2, 1) := by decide +kernel
theorem dX6_askOf_7 : decode cX6_askOf 7 = .ok (.bipush 7, 2) := by decide +kernel
theorem dX6_askOf_9 : decode cX6_askOf 9 = .ok (.istore_n 3, 1) := by decide +kernel
theorem dX6_askOf_10 : decode cX6_askOf 10 = .ok (.iconst 0, 1) := by decide +kernel
theorem dX6_askOf_11 : decode cX6_askOf 11 = .ok (.istore 4, 2) := by decide +kernel
theorem dX6_askOf_13 : decode cX6_askOf 13 = .ok (.iload 4, 2) := by decide +kernel
theorem dX6_askOf_15 : decode cX6_askOf 15 = .ok (.aload_n 0, 1) := by decide +kernel
theorem dX6_askOf_16 : decode cX6_askOf 16 = .ok (.getfield 68, 3) := by decide +kernel
theorem dX6_askOf_19 : decode cX6_askOf 19 = .ok (.if_icmp .ge 138, 3) := by decide +kernel
theorem dX6_askOf_22 : decode cX6_askOf 22 = .ok (.iload_n 1, 1) := by decide +kernel
theorem dX6_askOf_23 : decode cX6_askOf 23 = .ok (.ifCond .eq 134, 3) := by decide +kernel
theorem dX6_askOf_26 : decode cX6_askOf 26 = .ok (.iconst 0, 1) := by decide +kernel
theorem dX6_askOf_27 : decode cX6_askOf 27 = .ok (.istore 5, 2) := by decide +kernel
theorem dX6_askOf_29 : decode cX6_askOf 29 = .ok (.iload 5, 2) := by decide +kernel
theorem dX6_askOf_31 : decode cX6_askOf 31 = .ok (.bipush 8, 2) := by decide +kernel
theorem dX6_askOf_33 : decode cX6_askOf 33 = .ok (.if_icmp .ge 17, 3) := by decide +kernel
theorem dX6_askOf_36 : decode cX6_askOf 36 = .ok (.aload_n 0, 1) := by decide +kernel
theorem dX6_askOf_37 : decode cX6_askOf 37 = .ok (.getfield 22, 3) := by decide +kernel
theorem dX6_askOf_40 : decode cX6_askOf 40 = .ok (.iload 5, 2) := by decide +kernel
theorem dX6_askOf_42 : decode cX6_askOf 42 = .ok (.iconst 0, 1) := by decide +kernel
theorem dX6_askOf_43 : decode cX6_askOf 43 = .ok (.iastore, 1) := by decide +kernel
theorem dX6_askOf_44 : decode cX6_askOf 44 = .ok (.iinc 5 1, 3) := by decide +kernel
theorem dX6_askOf_47 : decode cX6_askOf 47 = .ok (.goto (-18), 3) := by decide +kernel
theorem dX6_askOf_50 : decode cX6_askOf 50 = .ok (.iconst 0, 1) := by decide +kernel
theorem dX6_askOf_51 : decode cX6_askOf 51 = .ok (.istore 5, 2) := by decide +kernel
theorem dX6_askOf_53 : decode cX6_askOf 53 = .ok (.iconst 0, 1) := by decide +kernel
theorem dX6_askOf_54 : decode cX6_askOf 54 = .ok (.istore 6, 2) := by decide +kernel
theorem dX6_askOf_56 : decode cX6_askOf 56 = .ok (.iload 6, 2) := by decide +kernel
theorem dX6_askOf_58 : decode cX6_askOf 58 = .ok (.aload_n 0, 1) := by decide +kernel
theorem dX6_askOf_59 : decode cX6_askOf 59 = .ok (.getfield 68, 3) := by decide +kernel
theorem dX6_askOf_62 : decode cX6_askOf 62 = .ok (.if_icmp .ge 63, 3) := by decide +kernel
theorem dX6_askOf_65 : decode cX6_askOf 65 = .ok (.aload_n 0, 1) := by decide +kernel
theorem dX6_askOf_66 : decode cX6_askOf 66 = .ok (.iload 4, 2) := by decide +kernel
theorem dX6_askOf_68 : decode cX6_askOf 68 = .ok (.iload 6, 2) := by decide +kernel
theorem dX6_askOf_70 : decode cX6_askOf 70 = .ok (.invokevirtual 108, 3) := by decide +kernel
theorem dX6_askOf_73 : decode cX6_askOf 73 = .ok (.iconst 1, 1) := by decide +kernel
theorem dX6_askOf_74 : decode cX6_askOf 74 = .ok (.iadd, 1) := by decide +kernel
theorem dX6_askOf_75 : decode cX6_askOf 75 = .ok (.istore 7, 2) := by decide +kernel
theorem dX6_askOf_77 : decode cX6_askOf 77 = .ok (.aload_n 0, 1) := by decide +kernel
theorem dX6_askOf_78 : decode cX6_askOf 78 = .ok (.getfield 22, 3) := by decide +kernel
theorem dX6_askOf_81 : decode cX6_askOf 81 = .ok (.iload 7, 2) := by decide +kernel
theorem dX6_askOf_83 : decode cX6_askOf 83 = .ok (.dup2, 1) := by decide +kernel
theorem dX6_askOf_84 : decode cX6_askOf 84 = .ok (.iaload, 1) := by decide +kernel
theorem dX6_askOf_85 : decode cX6_askOf 85 = .ok (.iload_n 1, 1) := by decide +kernel
theorem dX6_askOf_86 : decode cX6_askOf 86 = .ok (.iload 6, 2) := by decide +kernel
theorem dX6_askOf_88 : decode cX6_askOf 88 = .ok (.ishr, 1) := by decide +kernel
theorem dX6_askOf_89 : decode cX6_askOf 89 = .ok (.iconst 1, 1) := by decide +kernel
theorem dX6_askOf_90 : decode cX6_askOf 90 = .ok (.iand, 1) := by decide +kernel
theorem dX6_askOf_91 : decode cX6_askOf 91 = .ok (.iadd, 1) := by decide +kernel
theorem dX6_askOf_92 : decode cX6_askOf 92 = .ok (.iastore, 1) := by decide +kernel
theorem dX6_askOf_93 : decode cX6_askOf 93 = .ok (.aload_n 0, 1) := by decide +kernel
theorem dX6_askOf_94 : decode cX6_askOf 94 = .ok (.getfield 22, 3) := by decide +kernel
theorem dX6_askOf_97 : decode cX6_askOf 97 = .ok (.iload 7, 2) := by decide +kernel
theorem dX6_askOf_99 : decode cX6_askOf 99 = .ok (.iaload, 1) := by decide +kernel
theorem dX6_askOf_100 : decode cX6_askOf 100 = .ok (.iload 5, 2) := by decide +kernel
theorem dX6_askOf_102 : decode cX6_askOf 102 = .ok (.if_icmp .le 13, 3) := by decide +kernel
theorem dX6_askOf_105 : decode cX6_askOf 105 = .ok (.aload_n 0, 1) := by decide +kernel
theorem dX6_askOf_106 : decode cX6_askOf 106 = .ok (.getfield 22, 3) := by decide +kernel
theorem dX6_askOf_109 : decode cX6_askOf 109 = .ok (.iload 7, 2) := by decide +kernel
theorem dX6_askOf_111 : decode cX6_askOf 111 = .ok (.iaload, 1) := by decide +kernel
theorem dX6_askOf_112 : decode cX6_askOf 112 = .ok (.goto 5, 3) := by decide +kernel
theorem dX6_askOf_115 : decode cX6_askOf 115 = .ok (.iload 5, 2) := by decide +kernel
theorem dX6_askOf_117 : decode cX6_askOf 117 = .ok (.istore 5, 2) := by decide +kernel
theorem dX6_askOf_119 : decode cX6_askOf 119 = .ok (.iinc 6 1, 3) := by decide +kernel
theorem dX6_askOf_122 : decode cX6_askOf 122 = .ok (.goto (-66), 3) := by decide +kernel
theorem dX6_askOf_125 : decode cX6_askOf 125 = .ok (.iload 5, 2) := by decide +kernel
theorem dX6_askOf_127 : decode cX6_askOf 127 = .ok (.iload_n 3, 1) := by decide +kernel
theorem dX6_askOf_128 : decode cX6_askOf 128 = .ok (.if_icmp .ge 8, 3) := by decide +kernel
theorem dX6_askOf_131 : decode cX6_askOf 131 = .ok (.iload 4, 2) := by decide +kernel
theorem dX6_askOf_133 : decode cX6_askOf 133 = .ok (.goto 4, 3) := by decide +kernel
theorem dX6_askOf_136 : decode cX6_askOf 136 = .ok (.iload_n 2, 1) := by decide +kernel
theorem dX6_askOf_137 : decode cX6_askOf 137 = .ok (.istore_n 2, 1) := by decide +kernel
theorem dX6_askOf_138 : decode cX6_askOf 138 = .ok (.iload 5, 2) := by decide +kernel
theorem dX6_askOf_140 : decode cX6_askOf 140 = .ok (.iload_n 3, 1) := by decide +kernel
theorem dX6_askOf_141 : decode cX6_askOf 141 = .ok (.if_icmp .ge 8, 3) := by decide +kernel
theorem dX6_askOf_144 : decode cX6_askOf 144 = .ok (.iload 5, 2) := by decide +kernel
theorem dX6_askOf_146 : decode cX6_askOf 146 = .ok (.goto 4, 3) := by decide +kernel
theorem dX6_askOf_149 : decode cX6_askOf 149 = .ok (.iload_n 3, 1) := by decide +kernel
theorem dX6_askOf_150 : decode cX6_askOf 150 = .ok (.istore_n 3, 1) := by decide +kernel
theorem dX6_askOf_151 : decode cX6_askOf 151 = .ok (.iinc 4 1, 3) := by decide +kernel
theorem dX6_askOf_154 : decode cX6_askOf 154 = .ok (.goto (-141), 3) := by decide +kernel
theorem dX6_askOf_157 : decode cX6_askOf 157 = .ok (.iload_n 2, 1) := by decide +kernel
theorem dX6_askOf_158 : decode cX6_askOf 158 = .ok (.ireturn, 1) := by decide +kernel
theorem dX6_ask_0 : decode cX6_ask 0 = .ok (.aload_n 0, 1) := by decide +kernel
theorem dX6_ask_1 : decode cX6_ask 1 = .ok (.invokevirtual 86, 3) := by decide +kernel
theorem dX6_ask_4 : decode cX6_ask 4 = .ok (.ifCond .eq 8, 3) := by decide +kernel
theorem dX6_ask_7 : decode cX6_ask 7 = .ok (.bipush (-103), 2) := by decide +kernel
theorem dX6_ask_9 : decode cX6_ask 9 = .ok (.goto 7, 3) := by decide +kernel
theorem dX6_ask_12 : decode cX6_ask 12 = .ok (.aload_n 0, 1) := by decide +kernel
theorem dX6_ask_13 : decode cX6_ask 13 = .ok (.invokevirtual 154, 3) := by decide +kernel
theorem dX6_ask_16 : decode cX6_ask 16 = .ok (.ireturn, 1) := by decide +kernel
theorem dX6_draw_0 : decode cX6_draw 0 = .ok (.aload_n 0, 1) := by decide +kernel
theorem dX6_draw_1 : decode cX6_draw 1 = .ok (.ldc2_w 157, 3) := by decide +kernel
theorem dX6_draw_4 : decode cX6_draw 4 = .ok (.aload_n 0, 1) := by decide +kernel
theorem dX6_draw_5 : decode cX6_draw 5 = .ok (.getfield 159, 3) := by decide +kernel
theorem dX6_draw_8 : decode cX6_draw 8 = .ok (.i2l, 1) := by decide +kernel
theorem dX6_draw_9 : decode cX6_draw 9 = .ok (.lmul, 1) := by decide +kernel
theorem dX6_draw_10 : decode cX6_draw 10 = .ok (.ldc2_w 162, 3) := by decide +kernel
theorem dX6_draw_13 : decode cX6_draw 13 = .ok (.ladd, 1) := by decide +kernel
theorem dX6_draw_14 : decode cX6_draw 14 = .ok (.ldc2_w 164, 3) := by decide +kernel
theorem dX6_draw_17 : decode cX6_draw 17 = .ok (.land, 1) := by decide +kernel
theorem dX6_draw_18 : decode cX6_draw 18 = .ok (.l2i, 1) := by decide +kernel
theorem dX6_draw_19 : decode cX6_draw 19 = .ok (.putfield 159, 3) := by decide +kernel
theorem dX6_draw_22 : decode cX6_draw 22 = .ok (.aload_n 0, 1) := by decide +kernel
theorem dX6_draw_23 : decode cX6_draw 23 = .ok (.getfield 159, 3) := by decide +kernel
theorem dX6_draw_26 : decode cX6_draw 26 = .ok (.ldc 166, 2) := by decide +kernel
theorem dX6_draw_28 : decode cX6_draw 28 = .ok (.idiv, 1) := by decide +kernel
theorem dX6_draw_29 : decode cX6_draw 29 = .ok (.iload_n 1, 1) := by decide +kernel
theorem dX6_draw_30 : decode cX6_draw 30 = .ok (.irem, 1) := by decide +kernel
theorem dX6_draw_31 : decode cX6_draw 31 = .ok (.ireturn, 1) := by decide +kernel
theorem dX6_markets_0 : decode cX6_markets 0 = .ok (.iload_n 1, 1) := by decide +kernel
theorem dX6_markets_1 : decode cX6_markets 1 = .ok (.i2l, 1) := by decide +kernel
theorem dX6_markets_2 : decode cX6_markets 2 = .ok (.lconst 1, 1) := by decide +kernel
theorem dX6_markets_3 : decode cX6_markets 3 = .ok (.ldc2_w 167, 3) := by decide +kernel
theorem dX6_markets_6 : decode cX6_markets 6 = .ok (.invokestatic 40, 3) := by decide +kernel
theorem dX6_markets_9 : decode cX6_markets 9 = .ok (.ifCond .eq 19, 3) := by decide +kernel
theorem dX6_markets_12 : decode cX6_markets 12 = .ok (.iload_n 2, 1) := by decide +kernel
theorem dX6_markets_13 : decode cX6_markets 13 = .ok (.ifCond .lt 15, 3) := by decide +kernel
theorem dX6_markets_16 : decode cX6_markets 16 = .ok (.iload_n 3, 1) := by decide +kernel
theorem dX6_markets_17 : decode cX6_markets 17 = .ok (.i2l, 1) := by decide +kernel
theorem dX6_markets_18 : decode cX6_markets 18 = .ok (.lconst 0, 1) := by decide +kernel
theorem dX6_markets_19 : decode cX6_markets 19 = .ok (.ldc2_w 90, 3) := by decide +kernel
theorem dX6_markets_22 : decode cX6_markets 22 = .ok (.invokestatic 40, 3) := by decide +kernel
theorem dX6_markets_25 : decode cX6_markets 25 = .ok (.ifCond .ne 6, 3) := by decide +kernel
theorem dX6_markets_28 : decode cX6_markets 28 = .ok (.bipush (-102), 2) := by decide +kernel
theorem dX6_markets_30 : decode cX6_markets 30 = .ok (.ireturn, 1) := by decide +kernel
theorem dX6_markets_31 : decode cX6_markets 31 = .ok (.aload_n 0, 1) := by decide +kernel
theorem dX6_markets_32 : decode cX6_markets 32 = .ok (.invokevirtual 86, 3) := by decide +kernel
theorem dX6_markets_35 : decode cX6_markets 35 = .ok (.ifCond .eq 6, 3) := by decide +kernel
theorem dX6_markets_38 : decode cX6_markets 38 = .ok (.bipush (-103), 2) := by decide +kernel
theorem dX6_markets_40 : decode cX6_markets 40 = .ok (.ireturn, 1) := by decide +kernel
theorem dX6_markets_41 : decode cX6_markets 41 = .ok (.aload_n 0, 1) := by decide +kernel
theorem dX6_markets_42 : decode cX6_markets 42 = .ok (.iload_n 2, 1) := by decide +kernel
theorem dX6_markets_43 : decode cX6_markets 43 = .ok (.putfield 159, 3) := by decide +kernel
theorem dX6_markets_46 : decode cX6_markets 46 = .ok (.iconst 0, 1) := by decide +kernel
theorem dX6_markets_47 : decode cX6_markets 47 = .ok (.istore 4, 2) := by decide +kernel
theorem dX6_markets_49 : decode cX6_markets 49 = .ok (.iconst 0, 1) := by decide +kernel
theorem dX6_markets_50 : decode cX6_markets 50 = .ok (.istore 5, 2) := by decide +kernel
theorem dX6_markets_52 : decode cX6_markets 52 = .ok (.iconst 0, 1) := by decide +kernel
theorem dX6_markets_53 : decode cX6_markets 53 = .ok (.istore 6, 2) := by decide +kernel
theorem dX6_markets_55 : decode cX6_markets 55 = .ok (.iload 6, 2) := by decide +kernel
theorem dX6_markets_57 : decode cX6_markets 57 = .ok (.iload_n 1, 1) := by decide +kernel
theorem dX6_markets_58 : decode cX6_markets 58 = .ok (.if_icmp .ge 48, 3) := by decide +kernel
theorem dX6_markets_61 : decode cX6_markets 61 = .ok (.aload_n 0, 1) := by decide +kernel
theorem dX6_markets_62 : decode cX6_markets 62 = .ok (.iconst 1, 1) := by decide +kernel
theorem dX6_markets_63 : decode cX6_markets 63 = .ok (.aload_n 0, 1) := by decide +kernel
theorem dX6_markets_64 : decode cX6_markets 64 = .ok (.aload_n 0, 1) := by decide +kernel
theorem dX6_markets_65 : decode cX6_markets 65 = .ok (.getfield 68, 3) := by decide +kernel
theorem dX6_markets_68 : decode cX6_markets 68 = .ok (.invokevirtual 169, 3) := by decide +kernel
theorem dX6_markets_71 : decode cX6_markets 71 = .ok (.ishl, 1) := by decide +kernel
theorem dX6_markets_72 : decode cX6_markets 72 = .ok (.invokevirtual 114, 3) := by decide +kernel
theorem dX6_markets_75 : decode cX6_markets 75 = .ok (.istore 7, 2) := by decide +kernel
theorem dX6_markets_77 : decode cX6_markets 77 = .ok (.iload 4, 2) := by decide +kernel
theorem dX6_markets_79 : decode cX6_markets 79 = .ok (.iload 7, 2) := by decide +kernel
theorem dX6_markets_81 : decode cX6_markets 81 = .ok (.iadd, 1) := by decide +kernel
theorem dX6_markets_82 : decode cX6_markets 82 = .ok (.istore 4, 2) := by decide +kernel
theorem dX6_markets_84 : decode cX6_markets 84 = .ok (.iload 7, 2) := by decide +kernel
theorem dX6_markets_86 : decode cX6_markets 86 = .ok (.iload 5, 2) := by decide +kernel
theorem dX6_markets_88 : decode cX6_markets 88 = .ok (.if_icmp .le 8, 3) := by decide +kernel
theorem dX6_markets_91 : decode cX6_markets 91 = .ok (.iload 7, 2) := by decide +kernel
theorem dX6_markets_93 : decode cX6_markets 93 = .ok (.goto 5, 3) := by decide +kernel
theorem dX6_markets_96 : decode cX6_markets 96 = .ok (.iload 5, 2) := by decide +kernel
theorem dX6_markets_98 : decode cX6_markets 98 = .ok (.istore 5, 2) := by decide +kernel
theorem dX6_markets_100 : decode cX6_markets 100 = .ok (.iinc 6 1, 3) := by decide +kernel
theorem dX6_markets_103 : decode cX6_markets 103 = .ok (.goto (-48), 3) := by decide +kernel
theorem dX6_markets_106 : decode cX6_markets 106 = .ok (.iload_n 3, 1) := by decide +kernel
theorem dX6_markets_107 : decode cX6_markets 107 = .ok (.ifCond .ne 8, 3) := by decide +kernel
theorem dX6_markets_110 : decode cX6_markets 110 = .ok (.iload 4, 2) := by decide +kernel
theorem dX6_markets_112 : decode cX6_markets 112 = .ok (.goto 17, 3) := by decide +kernel
theorem dX6_markets_115 : decode cX6_markets 115 = .ok (.iload_n 3, 1) := by decide +kernel
theorem dX6_markets_116 : decode cX6_markets 116 = .ok (.iconst 1, 1) := by decide +kernel
theorem dX6_markets_117 : decode cX6_markets 117 = .ok (.if_icmp .ne 8, 3) := by decide +kernel
theorem dX6_markets_120 : decode cX6_markets 120 = .ok (.iload 5, 2) := by decide +kernel
theorem dX6_markets_122 : decode cX6_markets 122 = .ok (.goto 7, 3) := by decide +kernel
theorem dX6_markets_125 : decode cX6_markets 125 = .ok (.aload_n 0, 1) := by decide +kernel
theorem dX6_markets_126 : decode cX6_markets 126 = .ok (.getfield 159, 3) := by decide +kernel
theorem dX6_markets_129 : decode cX6_markets 129 = .ok (.ireturn, 1) := by decide +kernel
theorem dX6_image_0 : decode cX6_image 0 = .ok (.aload_n 0, 1) := by decide +kernel
theorem dX6_image_1 : decode cX6_image 1 = .ok (.invokevirtual 86, 3) := by decide +kernel
theorem dX6_image_4 : decode cX6_image 4 = .ok (.ifCond .eq 6, 3) := by decide +kernel
theorem dX6_image_7 : decode cX6_image 7 = .ok (.bipush (-103), 2) := by decide +kernel
theorem dX6_image_9 : decode cX6_image 9 = .ok (.ireturn, 1) := by decide +kernel
theorem dX6_image_10 : decode cX6_image 10 = .ok (.aload_n 0, 1) := by decide +kernel
theorem dX6_image_11 : decode cX6_image 11 = .ok (.getfield 13, 3) := by decide +kernel
theorem dX6_image_14 : decode cX6_image 14 = .ok (.aload_n 0, 1) := by decide +kernel
theorem dX6_image_15 : decode cX6_image 15 = .ok (.getfield 25, 3) := by decide +kernel
theorem dX6_image_18 : decode cX6_image 18 = .ok (.invokestatic 172, 3) := by decide +kernel
theorem dX6_image_21 : decode cX6_image 21 = .ok (.aload_n 0, 1) := by decide +kernel
theorem dX6_image_22 : decode cX6_image 22 = .ok (.getfield 16, 3) := by decide +kernel
theorem dX6_image_25 : decode cX6_image 25 = .ok (.aload_n 0, 1) := by decide +kernel
theorem dX6_image_26 : decode cX6_image 26 = .ok (.getfield 28, 3) := by decide +kernel
theorem dX6_image_29 : decode cX6_image 29 = .ok (.invokestatic 172, 3) := by decide +kernel
theorem dX6_image_32 : decode cX6_image 32 = .ok (.aload_n 0, 1) := by decide +kernel
theorem dX6_image_33 : decode cX6_image 33 = .ok (.getfield 19, 3) := by decide +kernel
theorem dX6_image_36 : decode cX6_image 36 = .ok (.aload_n 0, 1) := by decide +kernel
theorem dX6_image_37 : decode cX6_image 37 = .ok (.getfield 31, 3) := by decide +kernel
theorem dX6_image_40 : decode cX6_image 40 = .ok (.invokestatic 172, 3) := by decide +kernel
theorem dX6_image_43 : decode cX6_image 43 = .ok (.aload_n 0, 1) := by decide +kernel
theorem dX6_image_44 : decode cX6_image 44 = .ok (.aload_n 0, 1) := by decide +kernel
theorem dX6_image_45 : decode cX6_image 45 = .ok (.getfield 74, 3) := by decide +kernel
theorem dX6_image_48 : decode cX6_image 48 = .ok (.putfield 176, 3) := by decide +kernel
theorem dX6_image_51 : decode cX6_image 51 = .ok (.aload_n 0, 1) := by decide +kernel
theorem dX6_image_52 : decode cX6_image 52 = .ok (.aload_n 0, 1) := by decide +kernel
theorem dX6_image_53 : decode cX6_image 53 = .ok (.getfield 77, 3) := by decide +kernel
theorem dX6_image_56 : decode cX6_image 56 = .ok (.putfield 179, 3) := by decide +kernel
theorem dX6_image_59 : decode cX6_image 59 = .ok (.aload_n 0, 1) := by decide +kernel
theorem dX6_image_60 : decode cX6_image 60 = .ok (.aload_n 0, 1) := by decide +kernel
theorem dX6_image_61 : decode cX6_image 61 = .ok (.getfield 80, 3) := by decide +kernel
theorem dX6_image_64 : decode cX6_image 64 = .ok (.putfield 182, 3) := by decide +kernel
theorem dX6_image_67 : decode cX6_image 67 = .ok (.aload_n 0, 1) := by decide +kernel
theorem dX6_image_68 : decode cX6_image 68 = .ok (.aload_n 0, 1) := by decide +kernel
theorem dX6_image_69 : decode cX6_image 69 = .ok (.getfield 83, 3) := by decide +kernel
theorem dX6_image_72 : decode cX6_image 72 = .ok (.putfield 34, 3) := by decide +kernel
theorem dX6_image_75 : decode cX6_image 75 = .ok (.aload_n 0, 1) := by decide +kernel
theorem dX6_image_76 : decode cX6_image 76 = .ok (.getfield 74, 3) := by decide +kernel
theorem dX6_image_79 : decode cX6_image 79 = .ok (.ireturn, 1) := by decide +kernel
theorem dX6_restore_0 : decode cX6_restore 0 = .ok (.aload_n 0, 1) := by decide +kernel
theorem dX6_restore_1 : decode cX6_restore 1 = .ok (.getfield 34, 3) := by decide +kernel
theorem dX6_restore_4 : decode cX6_restore 4 = .ok (.aload_n 0, 1) := by decide +kernel
theorem dX6_restore_5 : decode cX6_restore 5 = .ok (.getfield 83, 3) := by decide +kernel
theorem dX6_restore_8 : decode cX6_restore 8 = .ok (.if_icmp .eq 6, 3) := by decide +kernel
theorem dX6_restore_11 : decode cX6_restore 11 = .ok (.bipush (-103), 2) := by decide +kernel
theorem dX6_restore_13 : decode cX6_restore 13 = .ok (.ireturn, 1) := by decide +kernel
theorem dX6_restore_14 : decode cX6_restore 14 = .ok (.aload_n 0, 1) := by decide +kernel
theorem dX6_restore_15 : decode cX6_restore 15 = .ok (.getfield 25, 3) := by decide +kernel
theorem dX6_restore_18 : decode cX6_restore 18 = .ok (.aload_n 0, 1) := by decide +kernel
theorem dX6_restore_19 : decode cX6_restore 19 = .ok (.getfield 13, 3) := by decide +kernel
theorem dX6_restore_22 : decode cX6_restore 22 = .ok (.invokestatic 172, 3) := by decide +kernel
theorem dX6_restore_25 : decode cX6_restore 25 = .ok (.aload_n 0, 1) := by decide +kernel
theorem dX6_restore_26 : decode cX6_restore 26 = .ok (.getfield 28, 3) := by decide +kernel
theorem dX6_restore_29 : decode cX6_restore 29 = .ok (.aload_n 0, 1) := by decide +kernel
theorem dX6_restore_30 : decode cX6_restore 30 = .ok (.getfield 16, 3) := by decide +kernel
theorem dX6_restore_33 : decode cX6_restore 33 = .ok (.invokestatic 172, 3) := by decide +kernel
theorem dX6_restore_36 : decode cX6_restore 36 = .ok (.aload_n 0, 1) := by decide +kernel
theorem dX6_restore_37 : decode cX6_restore 37 = .ok (.getfield 31, 3) := by decide +kernel
theorem dX6_restore_40 : decode cX6_restore 40 = .ok (.aload_n 0, 1) := by decide +kernel
theorem dX6_restore_41 : decode cX6_restore 41 = .ok (.getfield 19, 3) := by decide +kernel
theorem dX6_restore_44 : decode cX6_restore 44 = .ok (.invokestatic 172, 3) := by decide +kernel
theorem dX6_restore_47 : decode cX6_restore 47 = .ok (.aload_n 0, 1) := by decide +kernel
theorem dX6_restore_48 : decode cX6_restore 48 = .ok (.aload_n 0, 1) := by decide +kernel
theorem dX6_restore_49 : decode cX6_restore 49 = .ok (.getfield 176, 3) := by decide +kernel
theorem dX6_restore_52 : decode cX6_restore 52 = .ok (.putfield 74, 3) := by decide +kernel
theorem dX6_restore_55 : decode cX6_restore 55 = .ok (.aload_n 0, 1) := by decide +kernel
theorem dX6_restore_56 : decode cX6_restore 56 = .ok (.aload_n 0, 1) := by decide +kernel
theorem dX6_restore_57 : decode cX6_restore 57 = .ok (.getfield 179, 3) := by decide +kernel
theorem dX6_restore_60 : decode cX6_restore 60 = .ok (.putfield 77, 3) := by decide +kernel
theorem dX6_restore_63 : decode cX6_restore 63 = .ok (.aload_n 0, 1) := by decide +kernel
theorem dX6_restore_64 : decode cX6_restore 64 = .ok (.aload_n 0, 1) := by decide +kernel
theorem dX6_restore_65 : decode cX6_restore 65 = .ok (.getfield 182, 3) := by decide +kernel
theorem dX6_restore_68 : decode cX6_restore 68 = .ok (.putfield 80, 3) := by decide +kernel
theorem dX6_restore_71 : decode cX6_restore 71 = .ok (.aload_n 0, 1) := by decide +kernel
theorem dX6_restore_72 : decode cX6_restore 72 = .ok (.getfield 74, 3) := by decide +kernel
theorem dX6_restore_75 : decode cX6_restore 75 = .ok (.ireturn, 1) := by decide +kernel
theorem dX6_lengthAll_0 : decode cX6_lengthAll 0 = .ok (.iconst 0, 1) := by decide +kernel
theorem dX6_lengthAll_1 : decode cX6_lengthAll 1 = .ok (.istore_n 1, 1) := by decide +kernel
theorem dX6_lengthAll_2 : decode cX6_lengthAll 2 = .ok (.iconst 0, 1) := by decide +kernel
theorem dX6_lengthAll_3 : decode cX6_lengthAll 3 = .ok (.istore_n 2, 1) := by decide +kernel
theorem dX6_lengthAll_4 : decode cX6_lengthAll 4 = .ok (.iload_n 2, 1) := by decide +kernel
theorem dX6_lengthAll_5 : decode cX6_lengthAll 5 = .ok (.iconst 3, 1) := by decide +kernel
theorem dX6_lengthAll_6 : decode cX6_lengthAll 6 = .ok (.if_icmp .ge 24, 3) := by decide +kernel
theorem dX6_lengthAll_9 : decode cX6_lengthAll 9 = .ok (.aload_n 0, 1) := by decide +kernel
theorem dX6_lengthAll_10 : decode cX6_lengthAll 10 = .ok (.invokevirtual 86, 3) := by decide +kernel
theorem dX6_lengthAll_13 : decode cX6_lengthAll 13 = .ok (.ifCond .ne 17, 3) := by decide +kernel
theorem dX6_lengthAll_16 : decode cX6_lengthAll 16 = .ok (.iload_n 1, 1) := by decide +kernel
theorem dX6_lengthAll_17 : decode cX6_lengthAll 17 = .ok (.aload_n 0, 1) := by decide +kernel
theorem dX6_lengthAll_18 : decode cX6_lengthAll 18 = .ok (.iload_n 2, 1) := by decide +kernel
theorem dX6_lengthAll_19 : decode cX6_lengthAll 19 = .ok (.invokevirtual 131, 3) := by decide +kernel
theorem dX6_lengthAll_22 : decode cX6_lengthAll 22 = .ok (.iadd, 1) := by decide +kernel
theorem dX6_lengthAll_23 : decode cX6_lengthAll 23 = .ok (.istore_n 1, 1) := by decide +kernel
theorem dX6_lengthAll_24 : decode cX6_lengthAll 24 = .ok (.iinc 2 1, 3) := by decide +kernel
theorem dX6_lengthAll_27 : decode cX6_lengthAll 27 = .ok (.goto (-23), 3) := by decide +kernel
theorem dX6_lengthAll_30 : decode cX6_lengthAll 30 = .ok (.iload_n 1, 1) := by decide +kernel
theorem dX6_lengthAll_31 : decode cX6_lengthAll 31 = .ok (.ireturn, 1) := by decide +kernel
theorem dX6_heardAll_0 : decode cX6_heardAll 0 = .ok (.aload_n 0, 1) := by decide +kernel
theorem dX6_heardAll_1 : decode cX6_heardAll 1 = .ok (.getfield 16, 3) := by decide +kernel
theorem dX6_heardAll_4 : decode cX6_heardAll 4 = .ok (.iconst 0, 1) := by decide +kernel
theorem dX6_heardAll_5 : decode cX6_heardAll 5 = .ok (.iaload, 1) := by decide +kernel
theorem dX6_heardAll_6 : decode cX6_heardAll 6 = .ok (.invokestatic 134, 3) := by decide +kernel
theorem dX6_heardAll_9 : decode cX6_heardAll 9 = .ok (.aload_n 0, 1) := by decide +kernel
theorem dX6_heardAll_10 : decode cX6_heardAll 10 = .ok (.getfield 16, 3) := by decide +kernel
theorem dX6_heardAll_13 : decode cX6_heardAll 13 = .ok (.iconst 3, 1) := by decide +kernel
theorem dX6_heardAll_14 : decode cX6_heardAll 14 = .ok (.iaload, 1) := by decide +kernel
theorem dX6_heardAll_15 : decode cX6_heardAll 15 = .ok (.invokestatic 134, 3) := by decide +kernel
theorem dX6_heardAll_18 : decode cX6_heardAll 18 = .ok (.iadd, 1) := by decide +kernel
theorem dX6_heardAll_19 : decode cX6_heardAll 19 = .ok (.aload_n 0, 1) := by decide +kernel
theorem dX6_heardAll_20 : decode cX6_heardAll 20 = .ok (.getfield 16, 3) := by decide +kernel
theorem dX6_heardAll_23 : decode cX6_heardAll 23 = .ok (.bipush 6, 2) := by decide +kernel
theorem dX6_heardAll_25 : decode cX6_heardAll 25 = .ok (.iaload, 1) := by decide +kernel
theorem dX6_heardAll_26 : decode cX6_heardAll 26 = .ok (.invokestatic 134, 3) := by decide +kernel
theorem dX6_heardAll_29 : decode cX6_heardAll 29 = .ok (.iadd, 1) := by decide +kernel
theorem dX6_heardAll_30 : decode cX6_heardAll 30 = .ok (.ireturn, 1) := by decide +kernel
theorem dX6_countOf_0 : decode cX6_countOf 0 = .ok (.iload_n 1, 1) := by decide +kernel
theorem dX6_countOf_1 : decode cX6_countOf 1 = .ok (.tableswitch 96 0 8 #[51, 56, 61, 66, 71, 76, 81, 86, 91], 51) := by decide +kernel
theorem dX6_countOf_52 : decode cX6_countOf 52 = .ok (.aload_n 0, 1) := by decide +kernel
theorem dX6_countOf_53 : decode cX6_countOf 53 = .ok (.getfield 68, 3) := by decide +kernel
theorem dX6_countOf_56 : decode cX6_countOf 56 = .ok (.ireturn, 1) := by decide +kernel
theorem dX6_countOf_57 : decode cX6_countOf 57 = .ok (.aload_n 0, 1) := by decide +kernel
theorem dX6_countOf_58 : decode cX6_countOf 58 = .ok (.getfield 71, 3) := by decide +kernel
theorem dX6_countOf_61 : decode cX6_countOf 61 = .ok (.ireturn, 1) := by decide +kernel
theorem dX6_countOf_62 : decode cX6_countOf 62 = .ok (.aload_n 0, 1) := by decide +kernel
theorem dX6_countOf_63 : decode cX6_countOf 63 = .ok (.getfield 74, 3) := by decide +kernel
theorem dX6_countOf_66 : decode cX6_countOf 66 = .ok (.ireturn, 1) := by decide +kernel
theorem dX6_countOf_67 : decode cX6_countOf 67 = .ok (.aload_n 0, 1) := by decide +kernel
theorem dX6_countOf_68 : decode cX6_countOf 68 = .ok (.invokevirtual 185, 3) := by decide +kernel
theorem dX6_countOf_71 : decode cX6_countOf 71 = .ok (.ireturn, 1) := by decide +kernel
theorem dX6_countOf_72 : decode cX6_countOf 72 = .ok (.aload_n 0, 1) := by decide +kernel
theorem dX6_countOf_73 : decode cX6_countOf 73 = .ok (.invokevirtual 188, 3) := by decide +kernel
theorem dX6_countOf_76 : decode cX6_countOf 76 = .ok (.ireturn, 1) := by decide +kernel
theorem dX6_countOf_77 : decode cX6_countOf 77 = .ok (.aload_n 0, 1) := by decide +kernel
theorem dX6_countOf_78 : decode cX6_countOf 78 = .ok (.getfield 77, 3) := by decide +kernel
theorem dX6_countOf_81 : decode cX6_countOf 81 = .ok (.ireturn, 1) := by decide +kernel
theorem dX6_countOf_82 : decode cX6_countOf 82 = .ok (.aload_n 0, 1) := by decide +kernel
theorem dX6_countOf_83 : decode cX6_countOf 83 = .ok (.getfield 80, 3) := by decide +kernel
theorem dX6_countOf_86 : decode cX6_countOf 86 = .ok (.ireturn, 1) := by decide +kernel
theorem dX6_countOf_87 : decode cX6_countOf 87 = .ok (.aload_n 0, 1) := by decide +kernel
theorem dX6_countOf_88 : decode cX6_countOf 88 = .ok (.getfield 44, 3) := by decide +kernel
theorem dX6_countOf_91 : decode cX6_countOf 91 = .ok (.ireturn, 1) := by decide +kernel
theorem dX6_countOf_92 : decode cX6_countOf 92 = .ok (.aload_n 0, 1) := by decide +kernel
theorem dX6_countOf_93 : decode cX6_countOf 93 = .ok (.getfield 83, 3) := by decide +kernel
theorem dX6_countOf_96 : decode cX6_countOf 96 = .ok (.ireturn, 1) := by decide +kernel
theorem dX6_countOf_97 : decode cX6_countOf 97 = .ok (.bipush (-102), 2) := by decide +kernel
theorem dX6_countOf_99 : decode cX6_countOf 99 = .ok (.ireturn, 1) := by decide +kernel
theorem dX6_count_0 : decode cX6_count 0 = .ok (.aload_n 0, 1) := by decide +kernel
theorem dX6_count_1 : decode cX6_count 1 = .ok (.iload_n 1, 1) := by decide +kernel
theorem dX6_count_2 : decode cX6_count 2 = .ok (.invokevirtual 191, 3) := by decide +kernel
theorem dX6_count_5 : decode cX6_count 5 = .ok (.ireturn, 1) := by decide +kernel
theorem dX6_say_0 : decode cX6_say 0 = .ok (.aload_n 0, 1) := by decide +kernel
theorem dX6_say_1 : decode cX6_say 1 = .ok (.ldc2_w 194, 3) := by decide +kernel
theorem dX6_say_4 : decode cX6_say 4 = .ok (.aload_n 0, 1) := by decide +kernel
theorem dX6_say_5 : decode cX6_say 5 = .ok (.getfield 196, 3) := by decide +kernel
theorem dX6_say_8 : decode cX6_say 8 = .ok (.lmul, 1) := by decide +kernel
theorem dX6_say_9 : decode cX6_say 9 = .ok (.lload_n 1, 1) := by decide +kernel
theorem dX6_say_10 : decode cX6_say 10 = .ok (.ladd, 1) := by decide +kernel
theorem dX6_say_11 : decode cX6_say 11 = .ok (.putfield 196, 3) := by decide +kernel
theorem dX6_say_14 : decode cX6_say 14 = .ok (.return_, 1) := by decide +kernel
theorem dX6_sayHill_0 : decode cX6_sayHill 0 = .ok (.iconst 0, 1) := by decide +kernel
theorem dX6_sayHill_1 : decode cX6_sayHill 1 = .ok (.istore_n 1, 1) := by decide +kernel
theorem dX6_sayHill_2 : decode cX6_sayHill 2 = .ok (.iload_n 1, 1) := by decide +kernel
theorem dX6_sayHill_3 : decode cX6_sayHill 3 = .ok (.iconst 3, 1) := by decide +kernel
theorem dX6_sayHill_4 : decode cX6_sayHill 4 = .ok (.if_icmp .ge 33, 3) := by decide +kernel
theorem dX6_sayHill_7 : decode cX6_sayHill 7 = .ok (.iconst 0, 1) := by decide +kernel
theorem dX6_sayHill_8 : decode cX6_sayHill 8 = .ok (.istore_n 2, 1) := by decide +kernel
theorem dX6_sayHill_9 : decode cX6_sayHill 9 = .ok (.iload_n 2, 1) := by decide +kernel
theorem dX6_sayHill_10 : decode cX6_sayHill 10 = .ok (.iconst 5, 1) := by decide +kernel
theorem dX6_sayHill_11 : decode cX6_sayHill 11 = .ok (.if_icmp .ge 20, 3) := by decide +kernel
theorem dX6_sayHill_14 : decode cX6_sayHill 14 = .ok (.aload_n 0, 1) := by decide +kernel
theorem dX6_sayHill_15 : decode cX6_sayHill 15 = .ok (.aload_n 0, 1) := by decide +kernel
theorem dX6_sayHill_16 : decode cX6_sayHill 16 = .ok (.iload_n 1, 1) := by decide +kernel
theorem dX6_sayHill_17 : decode cX6_sayHill 17 = .ok (.iload_n 2, 1) := by decide +kernel
theorem dX6_sayHill_18 : decode cX6_sayHill 18 = .ok (.invokevirtual 139, 3) := by decide +kernel
theorem dX6_sayHill_21 : decode cX6_sayHill 21 = .ok (.i2l, 1) := by decide +kernel
theorem dX6_sayHill_22 : decode cX6_sayHill 22 = .ok (.invokevirtual 200, 3) := by decide +kernel
theorem dX6_sayHill_25 : decode cX6_sayHill 25 = .ok (.iinc 2 1, 3) := by decide +kernel
theorem dX6_sayHill_28 : decode cX6_sayHill 28 = .ok (.goto (-19), 3) := by decide +kernel
theorem dX6_sayHill_31 : decode cX6_sayHill 31 = .ok (.iinc 1 1, 3) := by decide +kernel
theorem dX6_sayHill_34 : decode cX6_sayHill 34 = .ok (.goto (-32), 3) := by decide +kernel
theorem dX6_sayHill_37 : decode cX6_sayHill 37 = .ok (.aload_n 0, 1) := by decide +kernel
theorem dX6_sayHill_38 : decode cX6_sayHill 38 = .ok (.aload_n 0, 1) := by decide +kernel
theorem dX6_sayHill_39 : decode cX6_sayHill 39 = .ok (.iconst 3, 1) := by decide +kernel
theorem dX6_sayHill_40 : decode cX6_sayHill 40 = .ok (.iconst 0, 1) := by decide +kernel
theorem dX6_sayHill_41 : decode cX6_sayHill 41 = .ok (.invokevirtual 144, 3) := by decide +kernel
theorem dX6_sayHill_44 : decode cX6_sayHill 44 = .ok (.i2l, 1) := by decide +kernel
theorem dX6_sayHill_45 : decode cX6_sayHill 45 = .ok (.invokevirtual 200, 3) := by decide +kernel
theorem dX6_sayHill_48 : decode cX6_sayHill 48 = .ok (.aload_n 0, 1) := by decide +kernel
theorem dX6_sayHill_49 : decode cX6_sayHill 49 = .ok (.aload_n 0, 1) := by decide +kernel
theorem dX6_sayHill_50 : decode cX6_sayHill 50 = .ok (.iconst 3, 1) := by decide +kernel
theorem dX6_sayHill_51 : decode cX6_sayHill 51 = .ok (.iconst 1, 1) := by decide +kernel
theorem dX6_sayHill_52 : decode cX6_sayHill 52 = .ok (.invokevirtual 144, 3) := by decide +kernel
theorem dX6_sayHill_55 : decode cX6_sayHill 55 = .ok (.i2l, 1) := by decide +kernel
theorem dX6_sayHill_56 : decode cX6_sayHill 56 = .ok (.invokevirtual 200, 3) := by decide +kernel
theorem dX6_sayHill_59 : decode cX6_sayHill 59 = .ok (.aload_n 0, 1) := by decide +kernel
theorem dX6_sayHill_60 : decode cX6_sayHill 60 = .ok (.aload_n 0, 1) := by decide +kernel
theorem dX6_sayHill_61 : decode cX6_sayHill 61 = .ok (.bipush 7, 2) := by decide +kernel
theorem dX6_sayHill_63 : decode cX6_sayHill 63 = .ok (.iconst 0, 1) := by decide +kernel
theorem dX6_sayHill_64 : decode cX6_sayHill 64 = .ok (.invokevirtual 144, 3) := by decide +kernel
theorem dX6_sayHill_67 : decode cX6_sayHill 67 = .ok (.i2l, 1) := by decide +kernel
theorem dX6_sayHill_68 : decode cX6_sayHill 68 = .ok (.invokevirtual 200, 3) := by decide +kernel
theorem dX6_sayHill_71 : decode cX6_sayHill 71 = .ok (.aload_n 0, 1) := by decide +kernel
theorem dX6_sayHill_72 : decode cX6_sayHill 72 = .ok (.aload_n 0, 1) := by decide +kernel
theorem dX6_sayHill_73 : decode cX6_sayHill 73 = .ok (.bipush 7, 2) := by decide +kernel
theorem dX6_sayHill_75 : decode cX6_sayHill 75 = .ok (.iconst 1, 1) := by decide +kernel
theorem dX6_sayHill_76 : decode cX6_sayHill 76 = .ok (.invokevirtual 144, 3) := by decide +kernel
theorem dX6_sayHill_79 : decode cX6_sayHill 79 = .ok (.i2l, 1) := by decide +kernel
theorem dX6_sayHill_80 : decode cX6_sayHill 80 = .ok (.invokevirtual 200, 3) := by decide +kernel
theorem dX6_sayHill_83 : decode cX6_sayHill 83 = .ok (.aload_n 0, 1) := by decide +kernel
theorem dX6_sayHill_84 : decode cX6_sayHill 84 = .ok (.aload_n 0, 1) := by decide +kernel
theorem dX6_sayHill_85 : decode cX6_sayHill 85 = .ok (.invokevirtual 151, 3) := by decide +kernel
theorem dX6_sayHill_88 : decode cX6_sayHill 88 = .ok (.i2l, 1) := by decide +kernel
theorem dX6_sayHill_89 : decode cX6_sayHill 89 = .ok (.invokevirtual 200, 3) := by decide +kernel
theorem dX6_sayHill_92 : decode cX6_sayHill 92 = .ok (.aload_n 0, 1) := by decide +kernel
theorem dX6_sayHill_93 : decode cX6_sayHill 93 = .ok (.aload_n 0, 1) := by decide +kernel
theorem dX6_sayHill_94 : decode cX6_sayHill 94 = .ok (.invokevirtual 154, 3) := by decide +kernel
theorem dX6_sayHill_97 : decode cX6_sayHill 97 = .ok (.i2l, 1) := by decide +kernel
theorem dX6_sayHill_98 : decode cX6_sayHill 98 = .ok (.invokevirtual 200, 3) := by decide +kernel
theorem dX6_sayHill_101 : decode cX6_sayHill 101 = .ok (.return_, 1) := by decide +kernel
theorem dX6_digest_0 : decode cX6_digest 0 = .ok (.aload_n 0, 1) := by decide +kernel
theorem dX6_digest_1 : decode cX6_digest 1 = .ok (.ldc2_w 204, 3) := by decide +kernel
theorem dX6_digest_4 : decode cX6_digest 4 = .ok (.putfield 196, 3) := by decide +kernel
theorem dX6_digest_7 : decode cX6_digest 7 = .ok (.iconst 0, 1) := by decide +kernel
theorem dX6_digest_8 : decode cX6_digest 8 = .ok (.istore_n 1, 1) := by decide +kernel
theorem dX6_digest_9 : decode cX6_digest 9 = .ok (.iload_n 1, 1) := by decide +kernel
theorem dX6_digest_10 : decode cX6_digest 10 = .ok (.aload_n 0, 1) := by decide +kernel
theorem dX6_digest_11 : decode cX6_digest 11 = .ok (.getfield 68, 3) := by decide +kernel
theorem dX6_digest_14 : decode cX6_digest 14 = .ok (.if_icmp .ge 34, 3) := by decide +kernel
theorem dX6_digest_17 : decode cX6_digest 17 = .ok (.iconst 0, 1) := by decide +kernel
theorem dX6_digest_18 : decode cX6_digest 18 = .ok (.istore_n 2, 1) := by decide +kernel
theorem dX6_digest_19 : decode cX6_digest 19 = .ok (.iload_n 2, 1) := by decide +kernel
theorem dX6_digest_20 : decode cX6_digest 20 = .ok (.bipush 6, 2) := by decide +kernel
theorem dX6_digest_22 : decode cX6_digest 22 = .ok (.if_icmp .ge 20, 3) := by decide +kernel
theorem dX6_digest_25 : decode cX6_digest 25 = .ok (.aload_n 0, 1) := by decide +kernel
theorem dX6_digest_26 : decode cX6_digest 26 = .ok (.aload_n 0, 1) := by decide +kernel
theorem dX6_digest_27 : decode cX6_digest 27 = .ok (.iload_n 1, 1) := by decide +kernel
theorem dX6_digest_28 : decode cX6_digest 28 = .ok (.iload_n 2, 1) := by decide +kernel
theorem dX6_digest_29 : decode cX6_digest 29 = .ok (.invokevirtual 123, 3) := by decide +kernel
theorem dX6_digest_32 : decode cX6_digest 32 = .ok (.i2l, 1) := by decide +kernel
theorem dX6_digest_33 : decode cX6_digest 33 = .ok (.invokevirtual 200, 3) := by decide +kernel
theorem dX6_digest_36 : decode cX6_digest 36 = .ok (.iinc 2 1, 3) := by decide +kernel
theorem dX6_digest_39 : decode cX6_digest 39 = .ok (.goto (-20), 3) := by decide +kernel
theorem dX6_digest_42 : decode cX6_digest 42 = .ok (.iinc 1 1, 3) := by decide +kernel
theorem dX6_digest_45 : decode cX6_digest 45 = .ok (.goto (-36), 3) := by decide +kernel
theorem dX6_digest_48 : decode cX6_digest 48 = .ok (.aload_n 0, 1) := by decide +kernel
theorem dX6_digest_49 : decode cX6_digest 49 = .ok (.invokevirtual 86, 3) := by decide +kernel
theorem dX6_digest_52 : decode cX6_digest 52 = .ok (.ifCond .ne 7, 3) := by decide +kernel
theorem dX6_digest_55 : decode cX6_digest 55 = .ok (.aload_n 0, 1) := by decide +kernel
theorem dX6_digest_56 : decode cX6_digest 56 = .ok (.invokevirtual 206, 3) := by decide +kernel
theorem dX6_digest_59 : decode cX6_digest 59 = .ok (.iconst 0, 1) := by decide +kernel
theorem dX6_digest_60 : decode cX6_digest 60 = .ok (.istore_n 1, 1) := by decide +kernel
theorem dX6_digest_61 : decode cX6_digest 61 = .ok (.iload_n 1, 1) := by decide +kernel
theorem dX6_digest_62 : decode cX6_digest 62 = .ok (.aload_n 0, 1) := by decide +kernel
theorem dX6_digest_63 : decode cX6_digest 63 = .ok (.getfield 44, 3) := by decide +kernel
theorem dX6_digest_66 : decode cX6_digest 66 = .ok (.if_icmp .ge 20, 3) := by decide +kernel
theorem dX6_digest_69 : decode cX6_digest 69 = .ok (.aload_n 0, 1) := by decide +kernel
theorem dX6_digest_70 : decode cX6_digest 70 = .ok (.aload_n 0, 1) := by decide +kernel
theorem dX6_digest_71 : decode cX6_digest 71 = .ok (.getfield 7, 3) := by decide +kernel
theorem dX6_digest_74 : decode cX6_digest 74 = .ok (.iload_n 1, 1) := by decide +kernel
theorem dX6_digest_75 : decode cX6_digest 75 = .ok (.iaload, 1) := by decide +kernel
theorem dX6_digest_76 : decode cX6_digest 76 = .ok (.i2l, 1) := by decide +kernel
theorem dX6_digest_77 : decode cX6_digest 77 = .ok (.invokevirtual 200, 3) := by decide +kernel
theorem dX6_digest_80 : decode cX6_digest 80 = .ok (.iinc 1 1, 3) := by decide +kernel
theorem dX6_digest_83 : decode cX6_digest 83 = .ok (.goto (-22), 3) := by decide +kernel
theorem dX6_digest_86 : decode cX6_digest 86 = .ok (.iconst 0, 1) := by decide +kernel
theorem dX6_digest_87 : decode cX6_digest 87 = .ok (.istore_n 1, 1) := by decide +kernel
theorem dX6_digest_88 : decode cX6_digest 88 = .ok (.iload_n 1, 1) := by decide +kernel
theorem dX6_digest_89 : decode cX6_digest 89 = .ok (.bipush 9, 2) := by decide +kernel
theorem dX6_digest_91 : decode cX6_digest 91 = .ok (.if_icmp .ge 19, 3) := by decide +kernel
theorem dX6_digest_94 : decode cX6_digest 94 = .ok (.aload_n 0, 1) := by decide +kernel
theorem dX6_digest_95 : decode cX6_digest 95 = .ok (.aload_n 0, 1) := by decide +kernel
theorem dX6_digest_96 : decode cX6_digest 96 = .ok (.iload_n 1, 1) := by decide +kernel
theorem dX6_digest_97 : decode cX6_digest 97 = .ok (.invokevirtual 191, 3) := by decide +kernel
theorem dX6_digest_100 : decode cX6_digest 100 = .ok (.i2l, 1) := by decide +kernel
theorem dX6_digest_101 : decode cX6_digest 101 = .ok (.invokevirtual 200, 3) := by decide +kernel
theorem dX6_digest_104 : decode cX6_digest 104 = .ok (.iinc 1 1, 3) := by decide +kernel
theorem dX6_digest_107 : decode cX6_digest 107 = .ok (.goto (-19), 3) := by decide +kernel
theorem dX6_digest_110 : decode cX6_digest 110 = .ok (.aload_n 0, 1) := by decide +kernel
theorem dX6_digest_111 : decode cX6_digest 111 = .ok (.getfield 196, 3) := by decide +kernel
theorem dX6_digest_114 : decode cX6_digest 114 = .ok (.lreturn, 1) := by decide +kernel
