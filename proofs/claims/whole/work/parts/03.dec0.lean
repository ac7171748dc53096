theorem dX0_init_0 : decode cX0_init 0 = .ok (.aload_n 0, 1) := by decide +kernel
theorem dX0_init_1 : decode cX0_init 1 = .ok (.invokespecial 3, 3) := by decide +kernel
theorem dX0_init_4 : decode cX0_init 4 = .ok (.aload_n 0, 1) := by decide +kernel
theorem dX0_init_5 : decode cX0_init 5 = .ok (.bipush 6, 2) := by decide +kernel
theorem dX0_init_7 : decode cX0_init 7 = .ok (.newarray .int, 2) := by decide +kernel
theorem dX0_init_9 : decode cX0_init 9 = .ok (.putfield 9, 3) := by decide +kernel
theorem dX0_init_12 : decode cX0_init 12 = .ok (.aload_n 0, 1) := by decide +kernel
theorem dX0_init_13 : decode cX0_init 13 = .ok (.iconst 0, 1) := by decide +kernel
theorem dX0_init_14 : decode cX0_init 14 = .ok (.putfield 15, 3) := by decide +kernel
theorem dX0_init_17 : decode cX0_init 17 = .ok (.aload_n 0, 1) := by decide +kernel
theorem dX0_init_18 : decode cX0_init 18 = .ok (.iconst 0, 1) := by decide +kernel
theorem dX0_init_19 : decode cX0_init 19 = .ok (.putfield 19, 3) := by decide +kernel
theorem dX0_init_22 : decode cX0_init 22 = .ok (.return_, 1) := by decide +kernel
theorem dX0_read_0 : decode cX0_read 0 = .ok (.aload_n 0, 1) := by decide +kernel
theorem dX0_read_1 : decode cX0_read 1 = .ok (.aload_n 1, 1) := by decide +kernel
theorem dX0_read_2 : decode cX0_read 2 = .ok (.invokevirtual 22, 3) := by decide +kernel
theorem dX0_read_5 : decode cX0_read 5 = .ok (.bipush 6, 2) := by decide +kernel
theorem dX0_read_7 : decode cX0_read 7 = .ok (.invokestatic 28, 3) := by decide +kernel
theorem dX0_read_10 : decode cX0_read 10 = .ok (.putfield 15, 3) := by decide +kernel
theorem dX0_read_13 : decode cX0_read 13 = .ok (.aload_n 0, 1) := by decide +kernel
theorem dX0_read_14 : decode cX0_read 14 = .ok (.aload_n 1, 1) := by decide +kernel
theorem dX0_read_15 : decode cX0_read 15 = .ok (.invokevirtual 34, 3) := by decide +kernel
theorem dX0_read_18 : decode cX0_read 18 = .ok (.putfield 19, 3) := by decide +kernel
theorem dX0_read_21 : decode cX0_read 21 = .ok (.iconst 0, 1) := by decide +kernel
theorem dX0_read_22 : decode cX0_read 22 = .ok (.istore_n 2, 1) := by decide +kernel
theorem dX0_read_23 : decode cX0_read 23 = .ok (.iload_n 2, 1) := by decide +kernel
theorem dX0_read_24 : decode cX0_read 24 = .ok (.aload_n 0, 1) := by decide +kernel
theorem dX0_read_25 : decode cX0_read 25 = .ok (.getfield 15, 3) := by decide +kernel
theorem dX0_read_28 : decode cX0_read 28 = .ok (.if_icmp .ge 20, 3) := by decide +kernel
theorem dX0_read_31 : decode cX0_read 31 = .ok (.aload_n 0, 1) := by decide +kernel
theorem dX0_read_32 : decode cX0_read 32 = .ok (.getfield 9, 3) := by decide +kernel
theorem dX0_read_35 : decode cX0_read 35 = .ok (.iload_n 2, 1) := by decide +kernel
theorem dX0_read_36 : decode cX0_read 36 = .ok (.aload_n 1, 1) := by decide +kernel
theorem dX0_read_37 : decode cX0_read 37 = .ok (.iload_n 2, 1) := by decide +kernel
theorem dX0_read_38 : decode cX0_read 38 = .ok (.invokevirtual 37, 3) := by decide +kernel
theorem dX0_read_41 : decode cX0_read 41 = .ok (.iastore, 1) := by decide +kernel
theorem dX0_read_42 : decode cX0_read 42 = .ok (.iinc 2 1, 3) := by decide +kernel
theorem dX0_read_45 : decode cX0_read 45 = .ok (.goto (-22), 3) := by decide +kernel
theorem dX0_read_48 : decode cX0_read 48 = .ok (.return_, 1) := by decide +kernel
theorem dX0_isThere_0 : decode cX0_isThere 0 = .ok (.aload_n 0, 1) := by decide +kernel
theorem dX0_isThere_1 : decode cX0_isThere 1 = .ok (.getfield 15, 3) := by decide +kernel
theorem dX0_isThere_4 : decode cX0_isThere 4 = .ok (.ifCond .le 7, 3) := by decide +kernel
theorem dX0_isThere_7 : decode cX0_isThere 7 = .ok (.iconst 1, 1) := by decide +kernel
theorem dX0_isThere_8 : decode cX0_isThere 8 = .ok (.goto 4, 3) := by decide +kernel
theorem dX0_isThere_11 : decode cX0_isThere 11 = .ok (.iconst 0, 1) := by decide +kernel
theorem dX0_isThere_12 : decode cX0_isThere 12 = .ok (.ireturn, 1) := by decide +kernel
theorem dX0_has_0 : decode cX0_has 0 = .ok (.iload_n 1, 1) := by decide +kernel
theorem dX0_has_1 : decode cX0_has 1 = .ok (.ifCond .lt 15, 3) := by decide +kernel
theorem dX0_has_4 : decode cX0_has 4 = .ok (.iload_n 1, 1) := by decide +kernel
theorem dX0_has_5 : decode cX0_has 5 = .ok (.aload_n 0, 1) := by decide +kernel
theorem dX0_has_6 : decode cX0_has 6 = .ok (.getfield 15, 3) := by decide +kernel
theorem dX0_has_9 : decode cX0_has 9 = .ok (.if_icmp .ge 7, 3) := by decide +kernel
theorem dX0_has_12 : decode cX0_has 12 = .ok (.iconst 1, 1) := by decide +kernel
theorem dX0_has_13 : decode cX0_has 13 = .ok (.goto 4, 3) := by decide +kernel
theorem dX0_has_16 : decode cX0_has 16 = .ok (.iconst 0, 1) := by decide +kernel
theorem dX0_has_17 : decode cX0_has 17 = .ok (.ireturn, 1) := by decide +kernel
theorem dX0_kindOf_0 : decode cX0_kindOf 0 = .ok (.iload_n 1, 1) := by decide +kernel
theorem dX0_kindOf_1 : decode cX0_kindOf 1 = .ok (.ifCond .lt 21, 3) := by decide +kernel
theorem dX0_kindOf_4 : decode cX0_kindOf 4 = .ok (.iload_n 1, 1) := by decide +kernel
theorem dX0_kindOf_5 : decode cX0_kindOf 5 = .ok (.aload_n 0, 1) := by decide +kernel
theorem dX0_kindOf_6 : decode cX0_kindOf 6 = .ok (.getfield 9, 3) := by decide +kernel
theorem dX0_kindOf_9 : decode cX0_kindOf 9 = .ok (.arraylength, 1) := by decide +kernel
theorem dX0_kindOf_10 : decode cX0_kindOf 10 = .ok (.if_icmp .ge 12, 3) := by decide +kernel
theorem dX0_kindOf_13 : decode cX0_kindOf 13 = .ok (.aload_n 0, 1) := by decide +kernel
theorem dX0_kindOf_14 : decode cX0_kindOf 14 = .ok (.getfield 9, 3) := by decide +kernel
theorem dX0_kindOf_17 : decode cX0_kindOf 17 = .ok (.iload_n 1, 1) := by decide +kernel
theorem dX0_kindOf_18 : decode cX0_kindOf 18 = .ok (.iaload, 1) := by decide +kernel
theorem dX0_kindOf_19 : decode cX0_kindOf 19 = .ok (.goto 4, 3) := by decide +kernel
theorem dX0_kindOf_22 : decode cX0_kindOf 22 = .ok (.iconst 0, 1) := by decide +kernel
theorem dX0_kindOf_23 : decode cX0_kindOf 23 = .ok (.ireturn, 1) := by decide +kernel
theorem dX0_listeners_0 : decode cX0_listeners 0 = .ok (.aload_n 0, 1) := by decide +kernel
theorem dX0_listeners_1 : decode cX0_listeners 1 = .ok (.iload_n 1, 1) := by decide +kernel
theorem dX0_listeners_2 : decode cX0_listeners 2 = .ok (.invokevirtual 41, 3) := by decide +kernel
theorem dX0_listeners_5 : decode cX0_listeners 5 = .ok (.istore_n 3, 1) := by decide +kernel
theorem dX0_listeners_6 : decode cX0_listeners 6 = .ok (.iload_n 3, 1) := by decide +kernel
theorem dX0_listeners_7 : decode cX0_listeners 7 = .ok (.iconst 1, 1) := by decide +kernel
theorem dX0_listeners_8 : decode cX0_listeners 8 = .ok (.if_icmp .eq 11, 3) := by decide +kernel
theorem dX0_listeners_11 : decode cX0_listeners 11 = .ok (.aload_n 0, 1) := by decide +kernel
theorem dX0_listeners_12 : decode cX0_listeners 12 = .ok (.iload_n 2, 1) := by decide +kernel
theorem dX0_listeners_13 : decode cX0_listeners 13 = .ok (.invokevirtual 44, 3) := by decide +kernel
theorem dX0_listeners_16 : decode cX0_listeners 16 = .ok (.ifCond .ne 5, 3) := by decide +kernel
theorem dX0_listeners_19 : decode cX0_listeners 19 = .ok (.iconst 0, 1) := by decide +kernel
theorem dX0_listeners_20 : decode cX0_listeners 20 = .ok (.ireturn, 1) := by decide +kernel
theorem dX0_listeners_21 : decode cX0_listeners 21 = .ok (.iload_n 2, 1) := by decide +kernel
theorem dX0_listeners_22 : decode cX0_listeners 22 = .ok (.iconst 1, 1) := by decide +kernel
theorem dX0_listeners_23 : decode cX0_listeners 23 = .ok (.iadd, 1) := by decide +kernel
theorem dX0_listeners_24 : decode cX0_listeners 24 = .ok (.istore 4, 2) := by decide +kernel
theorem dX0_listeners_26 : decode cX0_listeners 26 = .ok (.iload_n 3, 1) := by decide +kernel
theorem dX0_listeners_27 : decode cX0_listeners 27 = .ok (.iconst 2, 1) := by decide +kernel
theorem dX0_listeners_28 : decode cX0_listeners 28 = .ok (.invokestatic 48, 3) := by decide +kernel
theorem dX0_listeners_31 : decode cX0_listeners 31 = .ok (.ifCond .eq 22, 3) := by decide +kernel
theorem dX0_listeners_34 : decode cX0_listeners 34 = .ok (.aload_n 0, 1) := by decide +kernel
theorem dX0_listeners_35 : decode cX0_listeners 35 = .ok (.iload 4, 2) := by decide +kernel
theorem dX0_listeners_37 : decode cX0_listeners 37 = .ok (.invokevirtual 44, 3) := by decide +kernel
theorem dX0_listeners_40 : decode cX0_listeners 40 = .ok (.ifCond .eq 13, 3) := by decide +kernel
theorem dX0_listeners_43 : decode cX0_listeners 43 = .ok (.iload 4, 2) := by decide +kernel
theorem dX0_listeners_45 : decode cX0_listeners 45 = .ok (.iload_n 1, 1) := by decide +kernel
theorem dX0_listeners_46 : decode cX0_listeners 46 = .ok (.if_icmp .eq 7, 3) := by decide +kernel
theorem dX0_listeners_49 : decode cX0_listeners 49 = .ok (.iconst 1, 1) := by decide +kernel
theorem dX0_listeners_50 : decode cX0_listeners 50 = .ok (.goto 4, 3) := by decide +kernel
theorem dX0_listeners_53 : decode cX0_listeners 53 = .ok (.iconst 0, 1) := by decide +kernel
theorem dX0_listeners_54 : decode cX0_listeners 54 = .ok (.istore 5, 2) := by decide +kernel
theorem dX0_listeners_56 : decode cX0_listeners 56 = .ok (.iload 5, 2) := by decide +kernel
theorem dX0_listeners_58 : decode cX0_listeners 58 = .ok (.ifCond .eq 14, 3) := by decide +kernel
theorem dX0_listeners_61 : decode cX0_listeners 61 = .ok (.iconst 1, 1) := by decide +kernel
theorem dX0_listeners_62 : decode cX0_listeners 62 = .ok (.iload_n 2, 1) := by decide +kernel
theorem dX0_listeners_63 : decode cX0_listeners 63 = .ok (.ishl, 1) := by decide +kernel
theorem dX0_listeners_64 : decode cX0_listeners 64 = .ok (.iconst 1, 1) := by decide +kernel
theorem dX0_listeners_65 : decode cX0_listeners 65 = .ok (.iload 4, 2) := by decide +kernel
theorem dX0_listeners_67 : decode cX0_listeners 67 = .ok (.ishl, 1) := by decide +kernel
theorem dX0_listeners_68 : decode cX0_listeners 68 = .ok (.ior, 1) := by decide +kernel
theorem dX0_listeners_69 : decode cX0_listeners 69 = .ok (.goto 6, 3) := by decide +kernel
theorem dX0_listeners_72 : decode cX0_listeners 72 = .ok (.iconst 1, 1) := by decide +kernel
theorem dX0_listeners_73 : decode cX0_listeners 73 = .ok (.iload_n 2, 1) := by decide +kernel
theorem dX0_listeners_74 : decode cX0_listeners 74 = .ok (.ishl, 1) := by decide +kernel
theorem dX0_listeners_75 : decode cX0_listeners 75 = .ok (.ireturn, 1) := by decide +kernel
theorem dX0_length_0 : decode cX0_length 0 = .ok (.iload_n 2, 1) := by decide +kernel
theorem dX0_length_1 : decode cX0_length 1 = .ok (.ineg, 1) := by decide +kernel
theorem dX0_length_2 : decode cX0_length 2 = .ok (.istore_n 3, 1) := by decide +kernel
theorem dX0_length_3 : decode cX0_length 3 = .ok (.iconst 0, 1) := by decide +kernel
theorem dX0_length_4 : decode cX0_length 4 = .ok (.istore 4, 2) := by decide +kernel
theorem dX0_length_6 : decode cX0_length 6 = .ok (.iconst 0, 1) := by decide +kernel
theorem dX0_length_7 : decode cX0_length 7 = .ok (.istore 5, 2) := by decide +kernel
theorem dX0_length_9 : decode cX0_length 9 = .ok (.iload 5, 2) := by decide +kernel
theorem dX0_length_11 : decode cX0_length 11 = .ok (.aload_n 0, 1) := by decide +kernel
theorem dX0_length_12 : decode cX0_length 12 = .ok (.getfield 15, 3) := by decide +kernel
theorem dX0_length_15 : decode cX0_length 15 = .ok (.if_icmp .ge 50, 3) := by decide +kernel
theorem dX0_length_18 : decode cX0_length 18 = .ok (.iload 5, 2) := by decide +kernel
theorem dX0_length_20 : decode cX0_length 20 = .ok (.iload_n 1, 1) := by decide +kernel
theorem dX0_length_21 : decode cX0_length 21 = .ok (.invokestatic 52, 3) := by decide +kernel
theorem dX0_length_24 : decode cX0_length 24 = .ok (.ifCond .eq 35, 3) := by decide +kernel
theorem dX0_length_27 : decode cX0_length 27 = .ok (.iload_n 3, 1) := by decide +kernel
theorem dX0_length_28 : decode cX0_length 28 = .ok (.aload_n 0, 1) := by decide +kernel
theorem dX0_length_29 : decode cX0_length 29 = .ok (.iload 5, 2) := by decide +kernel
theorem dX0_length_31 : decode cX0_length 31 = .ok (.invokevirtual 41, 3) := by decide +kernel
theorem dX0_length_34 : decode cX0_length 34 = .ok (.invokestatic 55, 3) := by decide +kernel
theorem dX0_length_37 : decode cX0_length 37 = .ok (.iadd, 1) := by decide +kernel
theorem dX0_length_38 : decode cX0_length 38 = .ok (.istore_n 3, 1) := by decide +kernel
theorem dX0_length_39 : decode cX0_length 39 = .ok (.iload 4, 2) := by decide +kernel
theorem dX0_length_41 : decode cX0_length 41 = .ok (.aload_n 0, 1) := by decide +kernel
theorem dX0_length_42 : decode cX0_length 42 = .ok (.iload 5, 2) := by decide +kernel
theorem dX0_length_44 : decode cX0_length 44 = .ok (.invokevirtual 41, 3) := by decide +kernel
theorem dX0_length_47 : decode cX0_length 47 = .ok (.iconst 4, 1) := by decide +kernel
theorem dX0_length_48 : decode cX0_length 48 = .ok (.if_icmp .ne 7, 3) := by decide +kernel
theorem dX0_length_51 : decode cX0_length 51 = .ok (.iconst 1, 1) := by decide +kernel
theorem dX0_length_52 : decode cX0_length 52 = .ok (.goto 4, 3) := by decide +kernel
theorem dX0_length_55 : decode cX0_length 55 = .ok (.iconst 0, 1) := by decide +kernel
theorem dX0_length_56 : decode cX0_length 56 = .ok (.ior, 1) := by decide +kernel
theorem dX0_length_57 : decode cX0_length 57 = .ok (.istore 4, 2) := by decide +kernel
theorem dX0_length_59 : decode cX0_length 59 = .ok (.iinc 5 1, 3) := by decide +kernel
theorem dX0_length_62 : decode cX0_length 62 = .ok (.goto (-53), 3) := by decide +kernel
theorem dX0_length_65 : decode cX0_length 65 = .ok (.iload_n 3, 1) := by decide +kernel
theorem dX0_length_66 : decode cX0_length 66 = .ok (.iconst 0, 1) := by decide +kernel
theorem dX0_length_67 : decode cX0_length 67 = .ok (.invokestatic 58, 3) := by decide +kernel
theorem dX0_length_70 : decode cX0_length 70 = .ok (.istore 5, 2) := by decide +kernel
theorem dX0_length_72 : decode cX0_length 72 = .ok (.iload 4, 2) := by decide +kernel
theorem dX0_length_74 : decode cX0_length 74 = .ok (.ifCond .eq 8, 3) := by decide +kernel
theorem dX0_length_77 : decode cX0_length 77 = .ok (.iload 5, 2) := by decide +kernel
theorem dX0_length_79 : decode cX0_length 79 = .ok (.goto 12, 3) := by decide +kernel
theorem dX0_length_82 : decode cX0_length 82 = .ok (.iload 5, 2) := by decide +kernel
theorem dX0_length_84 : decode cX0_length 84 = .ok (.aload_n 0, 1) := by decide +kernel
theorem dX0_length_85 : decode cX0_length 85 = .ok (.getfield 19, 3) := by decide +kernel
theorem dX0_length_88 : decode cX0_length 88 = .ok (.invokestatic 28, 3) := by decide +kernel
theorem dX0_length_91 : decode cX0_length 91 = .ok (.ireturn, 1) := by decide +kernel
theorem dX0_yardsBy_0 : decode cX0_yardsBy 0 = .ok (.iload_n 0, 1) := by decide +kernel
theorem dX0_yardsBy_1 : decode cX0_yardsBy 1 = .ok (.tableswitch 35 1 4 #[31, 35, 33, 33], 31) := by decide +kernel
theorem dX0_yardsBy_32 : decode cX0_yardsBy 32 = .ok (.iconst (-1), 1) := by decide +kernel
theorem dX0_yardsBy_33 : decode cX0_yardsBy 33 = .ok (.ireturn, 1) := by decide +kernel
theorem dX0_yardsBy_34 : decode cX0_yardsBy 34 = .ok (.iconst 2, 1) := by decide +kernel
theorem dX0_yardsBy_35 : decode cX0_yardsBy 35 = .ok (.ireturn, 1) := by decide +kernel
theorem dX0_yardsBy_36 : decode cX0_yardsBy 36 = .ok (.iconst 1, 1) := by decide +kernel
theorem dX0_yardsBy_37 : decode cX0_yardsBy 37 = .ok (.ireturn, 1) := by decide +kernel
theorem dX1_init_0 : decode cX1_init 0 = .ok (.aload_n 0, 1) := by decide +kernel
theorem dX1_init_1 : decode cX1_init 1 = .ok (.invokespecial 3, 3) := by decide +kernel
theorem dX1_init_4 : decode cX1_init 4 = .ok (.aload_n 0, 1) := by decide +kernel
theorem dX1_init_5 : decode cX1_init 5 = .ok (.bipush 22, 2) := by decide +kernel
theorem dX1_init_7 : decode cX1_init 7 = .ok (.newarray .int, 2) := by decide +kernel
theorem dX1_init_9 : decode cX1_init 9 = .ok (.putfield 9, 3) := by decide +kernel
theorem dX1_init_12 : decode cX1_init 12 = .ok (.aload_n 0, 1) := by decide +kernel
theorem dX1_init_13 : decode cX1_init 13 = .ok (.iconst 0, 1) := by decide +kernel
theorem dX1_init_14 : decode cX1_init 14 = .ok (.putfield 15, 3) := by decide +kernel
theorem dX1_init_17 : decode cX1_init 17 = .ok (.return_, 1) := by decide +kernel
theorem dX1_put_0 : decode cX1_put 0 = .ok (.aload_n 0, 1) := by decide +kernel
theorem dX1_put_1 : decode cX1_put 1 = .ok (.getfield 15, 3) := by decide +kernel
theorem dX1_put_4 : decode cX1_put 4 = .ok (.ifCond .lt 15, 3) := by decide +kernel
theorem dX1_put_7 : decode cX1_put 7 = .ok (.aload_n 0, 1) := by decide +kernel
theorem dX1_put_8 : decode cX1_put 8 = .ok (.getfield 15, 3) := by decide +kernel
theorem dX1_put_11 : decode cX1_put 11 = .ok (.aload_n 0, 1) := by decide +kernel
theorem dX1_put_12 : decode cX1_put 12 = .ok (.getfield 9, 3) := by decide +kernel
theorem dX1_put_15 : decode cX1_put 15 = .ok (.arraylength, 1) := by decide +kernel
theorem dX1_put_16 : decode cX1_put 16 = .ok (.if_icmp .lt 5, 3) := by decide +kernel
theorem dX1_put_19 : decode cX1_put 19 = .ok (.iconst 0, 1) := by decide +kernel
theorem dX1_put_20 : decode cX1_put 20 = .ok (.ireturn, 1) := by decide +kernel
theorem dX1_put_21 : decode cX1_put 21 = .ok (.aload_n 0, 1) := by decide +kernel
theorem dX1_put_22 : decode cX1_put 22 = .ok (.getfield 9, 3) := by decide +kernel
theorem dX1_put_25 : decode cX1_put 25 = .ok (.aload_n 0, 1) := by decide +kernel
theorem dX1_put_26 : decode cX1_put 26 = .ok (.getfield 15, 3) := by decide +kernel
theorem dX1_put_29 : decode cX1_put 29 = .ok (.iload_n 1, 1) := by decide +kernel
theorem dX1_put_30 : decode cX1_put 30 = .ok (.iastore, 1) := by decide +kernel
theorem dX1_put_31 : decode cX1_put 31 = .ok (.aload_n 0, 1) := by decide +kernel
theorem dX1_put_32 : decode cX1_put 32 = .ok (.dup, 1) := by decide +kernel
theorem dX1_put_33 : decode cX1_put 33 = .ok (.getfield 15, 3) := by decide +kernel
theorem dX1_put_36 : decode cX1_put 36 = .ok (.iconst 1, 1) := by decide +kernel
theorem dX1_put_37 : decode cX1_put 37 = .ok (.iadd, 1) := by decide +kernel
theorem dX1_put_38 : decode cX1_put 38 = .ok (.putfield 15, 3) := by decide +kernel
theorem dX1_put_41 : decode cX1_put 41 = .ok (.iconst 1, 1) := by decide +kernel
theorem dX1_put_42 : decode cX1_put 42 = .ok (.ireturn, 1) := by decide +kernel
theorem dX1_clear_0 : decode cX1_clear 0 = .ok (.aload_n 0, 1) := by decide +kernel
theorem dX1_clear_1 : decode cX1_clear 1 = .ok (.iconst 0, 1) := by decide +kernel
theorem dX1_clear_2 : decode cX1_clear 2 = .ok (.putfield 15, 3) := by decide +kernel
theorem dX1_clear_5 : decode cX1_clear 5 = .ok (.return_, 1) := by decide +kernel
theorem dX1_firstFault_0 : decode cX1_firstFault 0 = .ok (.iconst 0, 1) := by decide +kernel
theorem dX1_firstFault_1 : decode cX1_firstFault 1 = .ok (.istore_n 1, 1) := by decide +kernel
theorem dX1_firstFault_2 : decode cX1_firstFault 2 = .ok (.iload_n 1, 1) := by decide +kernel
theorem dX1_firstFault_3 : decode cX1_firstFault 3 = .ok (.aload_n 0, 1) := by decide +kernel
theorem dX1_firstFault_4 : decode cX1_firstFault 4 = .ok (.getfield 15, 3) := by decide +kernel
theorem dX1_firstFault_7 : decode cX1_firstFault 7 = .ok (.if_icmp .ge 19, 3) := by decide +kernel
theorem dX1_firstFault_10 : decode cX1_firstFault 10 = .ok (.aload_n 0, 1) := by decide +kernel
theorem dX1_firstFault_11 : decode cX1_firstFault 11 = .ok (.iload_n 1, 1) := by decide +kernel
theorem dX1_firstFault_12 : decode cX1_firstFault 12 = .ok (.invokevirtual 19, 3) := by decide +kernel
theorem dX1_firstFault_15 : decode cX1_firstFault 15 = .ok (.ifCond .ne 5, 3) := by decide +kernel
theorem dX1_firstFault_18 : decode cX1_firstFault 18 = .ok (.iload_n 1, 1) := by decide +kernel
theorem dX1_firstFault_19 : decode cX1_firstFault 19 = .ok (.ireturn, 1) := by decide +kernel
theorem dX1_firstFault_20 : decode cX1_firstFault 20 = .ok (.iinc 1 1, 3) := by decide +kernel
theorem dX1_firstFault_23 : decode cX1_firstFault 23 = .ok (.goto (-21), 3) := by decide +kernel
theorem dX1_firstFault_26 : decode cX1_firstFault 26 = .ok (.aload_n 0, 1) := by decide +kernel
theorem dX1_firstFault_27 : decode cX1_firstFault 27 = .ok (.getfield 15, 3) := by decide +kernel
theorem dX1_firstFault_30 : decode cX1_firstFault 30 = .ok (.ireturn, 1) := by decide +kernel
theorem dX1_isHill_0 : decode cX1_isHill 0 = .ok (.aload_n 0, 1) := by decide +kernel
theorem dX1_isHill_1 : decode cX1_isHill 1 = .ok (.aload_n 0, 1) := by decide +kernel
theorem dX1_isHill_2 : decode cX1_isHill 2 = .ok (.getfield 15, 3) := by decide +kernel
theorem dX1_isHill_5 : decode cX1_isHill 5 = .ok (.iconst 2, 1) := by decide +kernel
theorem dX1_isHill_6 : decode cX1_isHill 6 = .ok (.isub, 1) := by decide +kernel
theorem dX1_isHill_7 : decode cX1_isHill 7 = .ok (.invokevirtual 23, 3) := by decide +kernel
theorem dX1_isHill_10 : decode cX1_isHill 10 = .ok (.bipush 59, 2) := by decide +kernel
theorem dX1_isHill_12 : decode cX1_isHill 12 = .ok (.if_icmp .ne 18, 3) := by decide +kernel
theorem dX1_isHill_15 : decode cX1_isHill 15 = .ok (.aload_n 0, 1) := by decide +kernel
theorem dX1_isHill_16 : decode cX1_isHill 16 = .ok (.invokevirtual 27, 3) := by decide +kernel
theorem dX1_isHill_19 : decode cX1_isHill 19 = .ok (.aload_n 0, 1) := by decide +kernel
theorem dX1_isHill_20 : decode cX1_isHill 20 = .ok (.getfield 15, 3) := by decide +kernel
theorem dX1_isHill_23 : decode cX1_isHill 23 = .ok (.if_icmp .ne 7, 3) := by decide +kernel
theorem dX1_isHill_26 : decode cX1_isHill 26 = .ok (.iconst 1, 1) := by decide +kernel
theorem dX1_isHill_27 : decode cX1_isHill 27 = .ok (.goto 4, 3) := by decide +kernel
theorem dX1_isHill_30 : decode cX1_isHill 30 = .ok (.iconst 0, 1) := by decide +kernel
theorem dX1_isHill_31 : decode cX1_isHill 31 = .ok (.ireturn, 1) := by decide +kernel
theorem dX1_peopleWritten_0 : decode cX1_peopleWritten 0 = .ok (.aload_n 0, 1) := by decide +kernel
theorem dX1_peopleWritten_1 : decode cX1_peopleWritten 1 = .ok (.getfield 15, 3) := by decide +kernel
theorem dX1_peopleWritten_4 : decode cX1_peopleWritten 4 = .ok (.iconst 3, 1) := by decide +kernel
theorem dX1_peopleWritten_5 : decode cX1_peopleWritten 5 = .ok (.idiv, 1) := by decide +kernel
theorem dX1_peopleWritten_6 : decode cX1_peopleWritten 6 = .ok (.ireturn, 1) := by decide +kernel
theorem dX1_kindWritten_0 : decode cX1_kindWritten 0 = .ok (.aload_n 0, 1) := by decide +kernel
theorem dX1_kindWritten_1 : decode cX1_kindWritten 1 = .ok (.iload_n 1, 1) := by decide +kernel
theorem dX1_kindWritten_2 : decode cX1_kindWritten 2 = .ok (.iconst 3, 1) := by decide +kernel
theorem dX1_kindWritten_3 : decode cX1_kindWritten 3 = .ok (.imul, 1) := by decide +kernel
theorem dX1_kindWritten_4 : decode cX1_kindWritten 4 = .ok (.invokevirtual 23, 3) := by decide +kernel
theorem dX1_kindWritten_7 : decode cX1_kindWritten 7 = .ok (.invokestatic 31, 3) := by decide +kernel
theorem dX1_kindWritten_10 : decode cX1_kindWritten 10 = .ok (.ireturn, 1) := by decide +kernel
theorem dX1_nextWritten_0 : decode cX1_nextWritten 0 = .ok (.aload_n 0, 1) := by decide +kernel
theorem dX1_nextWritten_1 : decode cX1_nextWritten 1 = .ok (.iload_n 1, 1) := by decide +kernel
theorem dX1_nextWritten_2 : decode cX1_nextWritten 2 = .ok (.iconst 3, 1) := by decide +kernel
theorem dX1_nextWritten_3 : decode cX1_nextWritten 3 = .ok (.imul, 1) := by decide +kernel
theorem dX1_nextWritten_4 : decode cX1_nextWritten 4 = .ok (.iconst 1, 1) := by decide +kernel
theorem dX1_nextWritten_5 : decode cX1_nextWritten 5 = .ok (.iadd, 1) := by decide +kernel
theorem dX1_nextWritten_6 : decode cX1_nextWritten 6 = .ok (.invokevirtual 23, 3) := by decide +kernel
theorem dX1_nextWritten_9 : decode cX1_nextWritten 9 = .ok (.bipush 48, 2) := by decide +kernel
theorem dX1_nextWritten_11 : decode cX1_nextWritten 11 = .ok (.isub, 1) := by decide +kernel
theorem dX1_nextWritten_12 : decode cX1_nextWritten 12 = .ok (.ireturn, 1) := by decide +kernel
theorem dX1_riverWritten_0 : decode cX1_riverWritten 0 = .ok (.aload_n 0, 1) := by decide +kernel
theorem dX1_riverWritten_1 : decode cX1_riverWritten 1 = .ok (.aload_n 0, 1) := by decide +kernel
theorem dX1_riverWritten_2 : decode cX1_riverWritten 2 = .ok (.getfield 15, 3) := by decide +kernel
theorem dX1_riverWritten_5 : decode cX1_riverWritten 5 = .ok (.iconst 1, 1) := by decide +kernel
theorem dX1_riverWritten_6 : decode cX1_riverWritten 6 = .ok (.isub, 1) := by decide +kernel
theorem dX1_riverWritten_7 : decode cX1_riverWritten 7 = .ok (.invokevirtual 23, 3) := by decide +kernel
theorem dX1_riverWritten_10 : decode cX1_riverWritten 10 = .ok (.bipush 48, 2) := by decide +kernel
theorem dX1_riverWritten_12 : decode cX1_riverWritten 12 = .ok (.isub, 1) := by decide +kernel
theorem dX1_riverWritten_13 : decode cX1_riverWritten 13 = .ok (.ireturn, 1) := by decide +kernel
theorem dX1_codeAt_0 : decode cX1_codeAt 0 = .ok (.iload_n 1, 1) := by decide +kernel
theorem dX1_codeAt_1 : decode cX1_codeAt 1 = .ok (.ifCond .lt 29, 3) := by decide +kernel
theorem dX1_codeAt_4 : decode cX1_codeAt 4 = .ok (.iload_n 1, 1) := by decide +kernel
theorem dX1_codeAt_5 : decode cX1_codeAt 5 = .ok (.aload_n 0, 1) := by decide +kernel
theorem dX1_codeAt_6 : decode cX1_codeAt 6 = .ok (.getfield 15, 3) := by decide +kernel
theorem dX1_codeAt_9 : decode cX1_codeAt 9 = .ok (.if_icmp .ge 21, 3) := by decide +kernel
theorem dX1_codeAt_12 : decode cX1_codeAt 12 = .ok (.iload_n 1, 1) := by decide +kernel
theorem dX1_codeAt_13 : decode cX1_codeAt 13 = .ok (.aload_n 0, 1) := by decide +kernel
theorem dX1_codeAt_14 : decode cX1_codeAt 14 = .ok (.getfield 9, 3) := by decide +kernel
theorem dX1_codeAt_17 : decode cX1_codeAt 17 = .ok (.arraylength, 1) := by decide +kernel
theorem dX1_codeAt_18 : decode cX1_codeAt 18 = .ok (.if_icmp .ge 12, 3) := by decide +kernel
theorem dX1_codeAt_21 : decode cX1_codeAt 21 = .ok (.aload_n 0, 1) := by decide +kernel
theorem dX1_codeAt_22 : decode cX1_codeAt 22 = .ok (.getfield 9, 3) := by decide +kernel
theorem dX1_codeAt_25 : decode cX1_codeAt 25 = .ok (.iload_n 1, 1) := by decide +kernel
theorem dX1_codeAt_26 : decode cX1_codeAt 26 = .ok (.iaload, 1) := by decide +kernel
theorem dX1_codeAt_27 : decode cX1_codeAt 27 = .ok (.goto 4, 3) := by decide +kernel
theorem dX1_codeAt_30 : decode cX1_codeAt 30 = .ok (.iconst 0, 1) := by decide +kernel
theorem dX1_codeAt_31 : decode cX1_codeAt 31 = .ok (.ireturn, 1) := by decide +kernel
theorem dX1_fits_0 : decode cX1_fits 0 = .ok (.aload_n 0, 1) := by decide +kernel
theorem dX1_fits_1 : decode cX1_fits 1 = .ok (.iload_n 1, 1) := by decide +kernel
theorem dX1_fits_2 : decode cX1_fits 2 = .ok (.invokevirtual 23, 3) := by decide +kernel
theorem dX1_fits_5 : decode cX1_fits 5 = .ok (.istore_n 2, 1) := by decide +kernel
theorem dX1_fits_6 : decode cX1_fits 6 = .ok (.iload_n 1, 1) := by decide +kernel
theorem dX1_fits_7 : decode cX1_fits 7 = .ok (.iconst 3, 1) := by decide +kernel
theorem dX1_fits_8 : decode cX1_fits 8 = .ok (.idiv, 1) := by decide +kernel
theorem dX1_fits_9 : decode cX1_fits 9 = .ok (.istore_n 3, 1) := by decide +kernel
theorem dX1_fits_10 : decode cX1_fits 10 = .ok (.iload_n 1, 1) := by decide +kernel
theorem dX1_fits_11 : decode cX1_fits 11 = .ok (.iconst 3, 1) := by decide +kernel
theorem dX1_fits_12 : decode cX1_fits 12 = .ok (.irem, 1) := by decide +kernel
theorem dX1_fits_13 : decode cX1_fits 13 = .ok (.lookupswitch 103 #[(0, 27), (1, 73)], 27) := by decide +kernel
theorem dX1_fits_40 : decode cX1_fits 40 = .ok (.aload_n 0, 1) := by decide +kernel
theorem dX1_fits_41 : decode cX1_fits 41 = .ok (.iload_n 1, 1) := by decide +kernel
theorem dX1_fits_42 : decode cX1_fits 42 = .ok (.iconst 1, 1) := by decide +kernel
theorem dX1_fits_43 : decode cX1_fits 43 = .ok (.isub, 1) := by decide +kernel
theorem dX1_fits_44 : decode cX1_fits 44 = .ok (.invokevirtual 23, 3) := by decide +kernel
theorem dX1_fits_47 : decode cX1_fits 47 = .ok (.bipush 59, 2) := by decide +kernel
theorem dX1_fits_49 : decode cX1_fits 49 = .ok (.if_icmp .ne 23, 3) := by decide +kernel
theorem dX1_fits_52 : decode cX1_fits 52 = .ok (.iload_n 2, 1) := by decide +kernel
theorem dX1_fits_53 : decode cX1_fits 53 = .ok (.bipush 49, 2) := by decide +kernel
theorem dX1_fits_55 : decode cX1_fits 55 = .ok (.if_icmp .lt 13, 3) := by decide +kernel
theorem dX1_fits_58 : decode cX1_fits 58 = .ok (.iload_n 2, 1) := by decide +kernel
theorem dX1_fits_59 : decode cX1_fits 59 = .ok (.bipush 57, 2) := by decide +kernel
theorem dX1_fits_61 : decode cX1_fits 61 = .ok (.if_icmp .gt 7, 3) := by decide +kernel
theorem dX1_fits_64 : decode cX1_fits 64 = .ok (.iconst 1, 1) := by decide +kernel
theorem dX1_fits_65 : decode cX1_fits 65 = .ok (.goto 20, 3) := by decide +kernel
theorem dX1_fits_68 : decode cX1_fits 68 = .ok (.iconst 0, 1) := by decide +kernel
theorem dX1_fits_69 : decode cX1_fits 69 = .ok (.goto 16, 3) := by decide +kernel
theorem dX1_fits_72 : decode cX1_fits 72 = .ok (.iload_n 2, 1) := by decide +kernel
theorem dX1_fits_73 : decode cX1_fits 73 = .ok (.invokestatic 31, 3) := by decide +kernel
theorem dX1_fits_76 : decode cX1_fits 76 = .ok (.iconst (-1), 1) := by decide +kernel
theorem dX1_fits_77 : decode cX1_fits 77 = .ok (.if_icmp .eq 7, 3) := by decide +kernel
theorem dX1_fits_80 : decode cX1_fits 80 = .ok (.iconst 1, 1) := by decide +kernel
theorem dX1_fits_81 : decode cX1_fits 81 = .ok (.goto 4, 3) := by decide +kernel
theorem dX1_fits_84 : decode cX1_fits 84 = .ok (.iconst 0, 1) := by decide +kernel
theorem dX1_fits_85 : decode cX1_fits 85 = .ok (.ireturn, 1) := by decide +kernel
theorem dX1_fits_86 : decode cX1_fits 86 = .ok (.aload_n 0, 1) := by decide +kernel
theorem dX1_fits_87 : decode cX1_fits 87 = .ok (.iload_n 1, 1) := by decide +kernel
theorem dX1_fits_88 : decode cX1_fits 88 = .ok (.iconst 2, 1) := by decide +kernel
theorem dX1_fits_89 : decode cX1_fits 89 = .ok (.isub, 1) := by decide +kernel
theorem dX1_fits_90 : decode cX1_fits 90 = .ok (.invokevirtual 23, 3) := by decide +kernel
theorem dX1_fits_93 : decode cX1_fits 93 = .ok (.bipush 59, 2) := by decide +kernel
theorem dX1_fits_95 : decode cX1_fits 95 = .ok (.if_icmp .eq 19, 3) := by decide +kernel
theorem dX1_fits_98 : decode cX1_fits 98 = .ok (.iload_n 2, 1) := by decide +kernel
theorem dX1_fits_99 : decode cX1_fits 99 = .ok (.bipush 48, 2) := by decide +kernel
theorem dX1_fits_101 : decode cX1_fits 101 = .ok (.if_icmp .lt 13, 3) := by decide +kernel
theorem dX1_fits_104 : decode cX1_fits 104 = .ok (.iload_n 2, 1) := by decide +kernel
theorem dX1_fits_105 : decode cX1_fits 105 = .ok (.bipush 57, 2) := by decide +kernel
theorem dX1_fits_107 : decode cX1_fits 107 = .ok (.if_icmp .gt 7, 3) := by decide +kernel
theorem dX1_fits_110 : decode cX1_fits 110 = .ok (.iconst 1, 1) := by decide +kernel
theorem dX1_fits_111 : decode cX1_fits 111 = .ok (.goto 4, 3) := by decide +kernel
theorem dX1_fits_114 : decode cX1_fits 114 = .ok (.iconst 0, 1) := by decide +kernel
theorem dX1_fits_115 : decode cX1_fits 115 = .ok (.ireturn, 1) := by decide +kernel
theorem dX1_fits_116 : decode cX1_fits 116 = .ok (.iload_n 2, 1) := by decide +kernel
theorem dX1_fits_117 : decode cX1_fits 117 = .ok (.bipush 44, 2) := by decide +kernel
theorem dX1_fits_119 : decode cX1_fits 119 = .ok (.if_icmp .ne 11, 3) := by decide +kernel
theorem dX1_fits_122 : decode cX1_fits 122 = .ok (.iload_n 3, 1) := by decide +kernel
theorem dX1_fits_123 : decode cX1_fits 123 = .ok (.iconst 1, 1) := by decide +kernel
theorem dX1_fits_124 : decode cX1_fits 124 = .ok (.iadd, 1) := by decide +kernel
theorem dX1_fits_125 : decode cX1_fits 125 = .ok (.bipush 6, 2) := by decide +kernel
theorem dX1_fits_127 : decode cX1_fits 127 = .ok (.if_icmp .lt 16, 3) := by decide +kernel
theorem dX1_fits_130 : decode cX1_fits 130 = .ok (.iload_n 2, 1) := by decide +kernel
theorem dX1_fits_131 : decode cX1_fits 131 = .ok (.bipush 59, 2) := by decide +kernel
theorem dX1_fits_133 : decode cX1_fits 133 = .ok (.if_icmp .ne 14, 3) := by decide +kernel
theorem dX1_fits_136 : decode cX1_fits 136 = .ok (.iload_n 3, 1) := by decide +kernel
theorem dX1_fits_137 : decode cX1_fits 137 = .ok (.iconst 1, 1) := by decide +kernel
theorem dX1_fits_138 : decode cX1_fits 138 = .ok (.iadd, 1) := by decide +kernel
theorem dX1_fits_139 : decode cX1_fits 139 = .ok (.iconst 2, 1) := by decide +kernel
theorem dX1_fits_140 : decode cX1_fits 140 = .ok (.if_icmp .lt 7, 3) := by decide +kernel
theorem dX1_fits_143 : decode cX1_fits 143 = .ok (.iconst 1, 1) := by decide +kernel
theorem dX1_fits_144 : decode cX1_fits 144 = .ok (.goto 4, 3) := by decide +kernel
theorem dX1_fits_147 : decode cX1_fits 147 = .ok (.iconst 0, 1) := by decide +kernel
theorem dX1_fits_148 : decode cX1_fits 148 = .ok (.ireturn, 1) := by decide +kernel
theorem dX1_kindOfLetter_0 : decode cX1_kindOfLetter 0 = .ok (.ldc 34, 2) := by decide +kernel
theorem dX1_kindOfLetter_2 : decode cX1_kindOfLetter 2 = .ok (.iload_n 0, 1) := by decide +kernel
theorem dX1_kindOfLetter_3 : decode cX1_kindOfLetter 3 = .ok (.i2c, 1) := by decide +kernel
theorem dX1_kindOfLetter_4 : decode cX1_kindOfLetter 4 = .ok (.invokevirtual 36, 3) := by decide +kernel
theorem dX1_kindOfLetter_7 : decode cX1_kindOfLetter 7 = .ok (.ireturn, 1) := by decide +kernel
theorem dX2_init_0 : decode cX2_init 0 = .ok (.aload_n 0, 1) := by decide +kernel
theorem dX2_init_1 : decode cX2_init 1 = .ok (.invokespecial 3, 3) := by decide +kernel
theorem dX2_init_4 : decode cX2_init 4 = .ok (.aload_n 0, 1) := by decide +kernel
theorem dX2_init_5 : decode cX2_init 5 = .ok (.bipush 6, 2) := by decide +kernel
theorem dX2_init_7 : decode cX2_init 7 = .ok (.newarray .int, 2) := by decide +kernel
theorem dX2_init_9 : decode cX2_init 9 = .ok (.putfield 9, 3) := by decide +kernel
theorem dX2_init_12 : decode cX2_init 12 = .ok (.aload_n 0, 1) := by decide +kernel
theorem dX2_init_13 : decode cX2_init 13 = .ok (.bipush 6, 2) := by decide +kernel
theorem dX2_init_15 : decode cX2_init 15 = .ok (.newarray .int, 2) := by decide +kernel
theorem dX2_init_17 : decode cX2_init 17 = .ok (.putfield 15, 3) := by decide +kernel
theorem dX2_init_20 : decode cX2_init 20 = .ok (.aload_n 0, 1) := by decide +kernel
theorem dX2_init_21 : decode cX2_init 21 = .ok (.iconst 3, 1) := by decide +kernel
theorem dX2_init_22 : decode cX2_init 22 = .ok (.newarray .int, 2) := by decide +kernel
theorem dX2_init_24 : decode cX2_init 24 = .ok (.putfield 18, 3) := by decide +kernel
theorem dX2_init_27 : decode cX2_init 27 = .ok (.aload_n 0, 1) := by decide +kernel
theorem dX2_init_28 : decode cX2_init 28 = .ok (.iconst 3, 1) := by decide +kernel
theorem dX2_init_29 : decode cX2_init 29 = .ok (.newarray .int, 2) := by decide +kernel
theorem dX2_init_31 : decode cX2_init 31 = .ok (.putfield 21, 3) := by decide +kernel
theorem dX2_init_34 : decode cX2_init 34 = .ok (.aload_n 0, 1) := by decide +kernel
theorem dX2_init_35 : decode cX2_init 35 = .ok (.iconst 3, 1) := by decide +kernel
theorem dX2_init_36 : decode cX2_init 36 = .ok (.newarray .int, 2) := by decide +kernel
theorem dX2_init_38 : decode cX2_init 38 = .ok (.putfield 24, 3) := by decide +kernel
theorem dX2_init_41 : decode cX2_init 41 = .ok (.aload_n 0, 1) := by decide +kernel
theorem dX2_init_42 : decode cX2_init 42 = .ok (.bipush 8, 2) := by decide +kernel
theorem dX2_init_44 : decode cX2_init 44 = .ok (.newarray .int, 2) := by decide +kernel
theorem dX2_init_46 : decode cX2_init 46 = .ok (.putfield 27, 3) := by decide +kernel
theorem dX2_init_49 : decode cX2_init 49 = .ok (.aload_n 0, 1) := by decide +kernel
theorem dX2_init_50 : decode cX2_init 50 = .ok (.bipush 8, 2) := by decide +kernel
theorem dX2_init_52 : decode cX2_init 52 = .ok (.newarray .int, 2) := by decide +kernel
theorem dX2_init_54 : decode cX2_init 54 = .ok (.putfield 30, 3) := by decide +kernel
theorem dX2_init_57 : decode cX2_init 57 = .ok (.aload_n 0, 1) := by decide +kernel
theorem dX2_init_58 : decode cX2_init 58 = .ok (.iconst 0, 1) := by decide +kernel
theorem dX2_init_59 : decode cX2_init 59 = .ok (.putfield 33, 3) := by decide +kernel
theorem dX2_init_62 : decode cX2_init 62 = .ok (.aload_n 0, 1) := by decide +kernel
theorem dX2_init_63 : decode cX2_init 63 = .ok (.iconst 0, 1) := by decide +kernel
theorem dX2_init_64 : decode cX2_init 64 = .ok (.putfield 37, 3) := by decide +kernel
theorem dX2_init_67 : decode cX2_init 67 = .ok (.aload_n 0, 1) := by decide +kernel
theorem dX2_init_68 : decode cX2_init 68 = .ok (.iconst 0, 1) := by decide +kernel
theorem dX2_init_69 : decode cX2_init 69 = .ok (.putfield 40, 3) := by decide +kernel
theorem dX2_init_72 : decode cX2_init 72 = .ok (.return_, 1) := by decide +kernel
theorem dX2_begin_0 : decode cX2_begin 0 = .ok (.iconst 0, 1) := by decide +kernel
theorem dX2_begin_1 : decode cX2_begin 1 = .ok (.istore_n 1, 1) := by decide +kernel
theorem dX2_begin_2 : decode cX2_begin 2 = .ok (.iload_n 1, 1) := by decide +kernel
theorem dX2_begin_3 : decode cX2_begin 3 = .ok (.bipush 6, 2) := by decide +kernel
theorem dX2_begin_5 : decode cX2_begin 5 = .ok (.if_icmp .ge 16, 3) := by decide +kernel
theorem dX2_begin_8 : decode cX2_begin 8 = .ok (.aload_n 0, 1) := by decide +kernel
theorem dX2_begin_9 : decode cX2_begin 9 = .ok (.iload_n 1, 1) := by decide +kernel
theorem dX2_begin_10 : decode cX2_begin 10 = .ok (.iconst (-1), 1) := by decide +kernel
theorem dX2_begin_11 : decode cX2_begin 11 = .ok (.iconst 0, 1) := by decide +kernel
theorem dX2_begin_12 : decode cX2_begin 12 = .ok (.invokevirtual 43, 3) := by decide +kernel
theorem dX2_begin_15 : decode cX2_begin 15 = .ok (.iinc 1 1, 3) := by decide +kernel
theorem dX2_begin_18 : decode cX2_begin 18 = .ok (.goto (-16), 3) := by decide +kernel
theorem dX2_begin_21 : decode cX2_begin 21 = .ok (.iconst 0, 1) := by decide +kernel
theorem dX2_begin_22 : decode cX2_begin 22 = .ok (.istore_n 1, 1) := by decide +kernel
theorem dX2_begin_23 : decode cX2_begin 23 = .ok (.iload_n 1, 1) := by decide +kernel
theorem dX2_begin_24 : decode cX2_begin 24 = .ok (.iconst 3, 1) := by decide +kernel
theorem dX2_begin_25 : decode cX2_begin 25 = .ok (.if_icmp .ge 30, 3) := by decide +kernel
theorem dX2_begin_28 : decode cX2_begin 28 = .ok (.aload_n 0, 1) := by decide +kernel
theorem dX2_begin_29 : decode cX2_begin 29 = .ok (.getfield 18, 3) := by decide +kernel
theorem dX2_begin_32 : decode cX2_begin 32 = .ok (.iload_n 1, 1) := by decide +kernel
theorem dX2_begin_33 : decode cX2_begin 33 = .ok (.iconst 0, 1) := by decide +kernel
theorem dX2_begin_34 : decode cX2_begin 34 = .ok (.iastore, 1) := by decide +kernel
theorem dX2_begin_35 : decode cX2_begin 35 = .ok (.aload_n 0, 1) := by decide +kernel
theorem dX2_begin_36 : decode cX2_begin 36 = .ok (.getfield 21, 3) := by decide +kernel
theorem dX2_begin_39 : decode cX2_begin 39 = .ok (.iload_n 1, 1) := by decide +kernel
theorem dX2_begin_40 : decode cX2_begin 40 = .ok (.iconst 0, 1) := by decide +kernel
theorem dX2_begin_41 : decode cX2_begin 41 = .ok (.iastore, 1) := by decide +kernel
theorem dX2_begin_42 : decode cX2_begin 42 = .ok (.aload_n 0, 1) := by decide +kernel
theorem dX2_begin_43 : decode cX2_begin 43 = .ok (.getfield 24, 3) := by decide +kernel
theorem dX2_begin_46 : decode cX2_begin 46 = .ok (.iload_n 1, 1) := by decide +kernel
theorem dX2_begin_47 : decode cX2_begin 47 = .ok (.iconst 0, 1) := by decide +kernel
theorem dX2_begin_48 : decode cX2_begin 48 = .ok (.iastore, 1) := by decide +kernel
theorem dX2_begin_49 : decode cX2_begin 49 = .ok (.iinc 1 1, 3) := by decide +kernel
theorem dX2_begin_52 : decode cX2_begin 52 = .ok (.goto (-29), 3) := by decide +kernel
theorem dX2_begin_55 : decode cX2_begin 55 = .ok (.aload_n 0, 1) := by decide +kernel
theorem dX2_begin_56 : decode cX2_begin 56 = .ok (.iconst 0, 1) := by decide +kernel
theorem dX2_begin_57 : decode cX2_begin 57 = .ok (.putfield 33, 3) := by decide +kernel
theorem dX2_begin_60 : decode cX2_begin 60 = .ok (.aload_n 0, 1) := by decide +kernel
theorem dX2_begin_61 : decode cX2_begin 61 = .ok (.iconst 0, 1) := by decide +kernel
theorem dX2_begin_62 : decode cX2_begin 62 = .ok (.putfield 37, 3) := by decide +kernel
theorem dX2_begin_65 : decode cX2_begin 65 = .ok (.aload_n 0, 1) := by decide +kernel
theorem dX2_begin_66 : decode cX2_begin 66 = .ok (.iconst 0, 1) := by decide +kernel
theorem dX2_begin_67 : decode cX2_begin 67 = .ok (.putfield 40, 3) := by decide +kernel
theorem dX2_begin_70 : decode cX2_begin 70 = .ok (.return_, 1) := by decide +kernel
theorem dX2_copy_0 : decode cX2_copy 0 = .ok (.aload_n 1, 1) := by decide +kernel
theorem dX2_copy_1 : decode cX2_copy 1 = .ok (.getfield 9, 3) := by decide +kernel
theorem dX2_copy_4 : decode cX2_copy 4 = .ok (.iconst 0, 1) := by decide +kernel
theorem dX2_copy_5 : decode cX2_copy 5 = .ok (.aload_n 0, 1) := by decide +kernel
theorem dX2_copy_6 : decode cX2_copy 6 = .ok (.getfield 9, 3) := by decide +kernel
theorem dX2_copy_9 : decode cX2_copy 9 = .ok (.iconst 0, 1) := by decide +kernel
theorem dX2_copy_10 : decode cX2_copy 10 = .ok (.bipush 6, 2) := by decide +kernel
theorem dX2_copy_12 : decode cX2_copy 12 = .ok (.invokestatic 47, 3) := by decide +kernel
theorem dX2_copy_15 : decode cX2_copy 15 = .ok (.aload_n 1, 1) := by decide +kernel
theorem dX2_copy_16 : decode cX2_copy 16 = .ok (.getfield 15, 3) := by decide +kernel
theorem dX2_copy_19 : decode cX2_copy 19 = .ok (.iconst 0, 1) := by decide +kernel
theorem dX2_copy_20 : decode cX2_copy 20 = .ok (.aload_n 0, 1) := by decide +kernel
theorem dX2_copy_21 : decode cX2_copy 21 = .ok (.getfield 15, 3) := by decide +kernel
theorem dX2_copy_24 : decode cX2_copy 24 = .ok (.iconst 0, 1) := by decide +kernel
theorem dX2_copy_25 : decode cX2_copy 25 = .ok (.bipush 6, 2) := by decide +kernel
theorem dX2_copy_27 : decode cX2_copy 27 = .ok (.invokestatic 47, 3) := by decide +kernel
theorem dX2_copy_30 : decode cX2_copy 30 = .ok (.aload_n 1, 1) := by decide +kernel
theorem dX2_copy_31 : decode cX2_copy 31 = .ok (.getfield 18, 3) := by decide +kernel
theorem dX2_copy_34 : decode cX2_copy 34 = .ok (.iconst 0, 1) := by decide +kernel
theorem dX2_copy_35 : decode cX2_copy 35 = .ok (.aload_n 0, 1) := by decide +kernel
theorem dX2_copy_36 : decode cX2_copy 36 = .ok (.getfield 18, 3) := by decide +kernel
theorem dX2_copy_39 : decode cX2_copy 39 = .ok (.iconst 0, 1) := by decide +kernel
theorem dX2_copy_40 : decode cX2_copy 40 = .ok (.iconst 3, 1) := by decide +kernel
theorem dX2_copy_41 : decode cX2_copy 41 = .ok (.invokestatic 47, 3) := by decide +kernel
theorem dX2_copy_44 : decode cX2_copy 44 = .ok (.aload_n 1, 1) := by decide +kernel
theorem dX2_copy_45 : decode cX2_copy 45 = .ok (.getfield 21, 3) := by decide +kernel
theorem dX2_copy_48 : decode cX2_copy 48 = .ok (.iconst 0, 1) := by decide +kernel
theorem dX2_copy_49 : decode cX2_copy 49 = .ok (.aload_n 0, 1) := by decide +kernel
theorem dX2_copy_50 : decode cX2_copy 50 = .ok (.getfield 21, 3) := by decide +kernel
theorem dX2_copy_53 : decode cX2_copy 53 = .ok (.iconst 0, 1) := by decide +kernel
theorem dX2_copy_54 : decode cX2_copy 54 = .ok (.iconst 3, 1) := by decide +kernel
theorem dX2_copy_55 : decode cX2_copy 55 = .ok (.invokestatic 47, 3) := by decide +kernel
theorem dX2_copy_58 : decode cX2_copy 58 = .ok (.aload_n 1, 1) := by decide +kernel
theorem dX2_copy_59 : decode cX2_copy 59 = .ok (.getfield 24, 3) := by decide +kernel
theorem dX2_copy_62 : decode cX2_copy 62 = .ok (.iconst 0, 1) := by decide +kernel
theorem dX2_copy_63 : decode cX2_copy 63 = .ok (.aload_n 0, 1) := by decide +kernel
theorem dX2_copy_64 : decode cX2_copy 64 = .ok (.getfield 24, 3) := by decide +kernel
theorem dX2_copy_67 : decode cX2_copy 67 = .ok (.iconst 0, 1) := by decide +kernel
theorem dX2_copy_68 : decode cX2_copy 68 = .ok (.iconst 3, 1) := by decide +kernel
theorem dX2_copy_69 : decode cX2_copy 69 = .ok (.invokestatic 47, 3) := by decide +kernel
theorem dX2_copy_72 : decode cX2_copy 72 = .ok (.aload_n 1, 1) := by decide +kernel
theorem dX2_copy_73 : decode cX2_copy 73 = .ok (.getfield 27, 3) := by decide +kernel
theorem dX2_copy_76 : decode cX2_copy 76 = .ok (.iconst 0, 1) := by decide +kernel
theorem dX2_copy_77 : decode cX2_copy 77 = .ok (.aload_n 0, 1) := by decide +kernel
theorem dX2_copy_78 : decode cX2_copy 78 = .ok (.getfield 27, 3) := by decide +kernel
theorem dX2_copy_81 : decode cX2_copy 81 = .ok (.iconst 0, 1) := by decide +kernel
theorem dX2_copy_82 : decode cX2_copy 82 = .ok (.bipush 8, 2) := by decide +kernel
theorem dX2_copy_84 : decode cX2_copy 84 = .ok (.invokestatic 47, 3) := by decide +kernel
theorem dX2_copy_87 : decode cX2_copy 87 = .ok (.aload_n 1, 1) := by decide +kernel
theorem dX2_copy_88 : decode cX2_copy 88 = .ok (.getfield 30, 3) := by decide +kernel
theorem dX2_copy_91 : decode cX2_copy 91 = .ok (.iconst 0, 1) := by decide +kernel
theorem dX2_copy_92 : decode cX2_copy 92 = .ok (.aload_n 0, 1) := by decide +kernel
theorem dX2_copy_93 : decode cX2_copy 93 = .ok (.getfield 30, 3) := by decide +kernel
theorem dX2_copy_96 : decode cX2_copy 96 = .ok (.iconst 0, 1) := by decide +kernel
theorem dX2_copy_97 : decode cX2_copy 97 = .ok (.bipush 8, 2) := by decide +kernel
theorem dX2_copy_99 : decode cX2_copy 99 = .ok (.invokestatic 47, 3) := by decide +kernel
theorem dX2_copy_102 : decode cX2_copy 102 = .ok (.aload_n 0, 1) := by decide +kernel
theorem dX2_copy_103 : decode cX2_copy 103 = .ok (.aload_n 1, 1) := by decide +kernel
theorem dX2_copy_104 : decode cX2_copy 104 = .ok (.getfield 33, 3) := by decide +kernel
theorem dX2_copy_107 : decode cX2_copy 107 = .ok (.putfield 33, 3) := by decide +kernel
theorem dX2_copy_110 : decode cX2_copy 110 = .ok (.aload_n 0, 1) := by decide +kernel
theorem dX2_copy_111 : decode cX2_copy 111 = .ok (.aload_n 1, 1) := by decide +kernel
theorem dX2_copy_112 : decode cX2_copy 112 = .ok (.getfield 37, 3) := by decide +kernel
theorem dX2_copy_115 : decode cX2_copy 115 = .ok (.putfield 37, 3) := by decide +kernel
theorem dX2_copy_118 : decode cX2_copy 118 = .ok (.aload_n 0, 1) := by decide +kernel
theorem dX2_copy_119 : decode cX2_copy 119 = .ok (.aload_n 1, 1) := by decide +kernel
theorem dX2_copy_120 : decode cX2_copy 120 = .ok (.getfield 40, 3) := by decide +kernel
theorem dX2_copy_123 : decode cX2_copy 123 = .ok (.putfield 40, 3) := by decide +kernel
theorem dX2_copy_126 : decode cX2_copy 126 = .ok (.return_, 1) := by decide +kernel
theorem dX2_nextOf_0 : decode cX2_nextOf 0 = .ok (.iload_n 1, 1) := by decide +kernel
theorem dX2_nextOf_1 : decode cX2_nextOf 1 = .ok (.ifCond .lt 21, 3) := by decide +kernel
theorem dX2_nextOf_4 : decode cX2_nextOf 4 = .ok (.iload_n 1, 1) := by decide +kernel
theorem dX2_nextOf_5 : decode cX2_nextOf 5 = .ok (.aload_n 0, 1) := by decide +kernel
theorem dX2_nextOf_6 : decode cX2_nextOf 6 = .ok (.getfield 9, 3) := by decide +kernel
theorem dX2_nextOf_9 : decode cX2_nextOf 9 = .ok (.arraylength, 1) := by decide +kernel
theorem dX2_nextOf_10 : decode cX2_nextOf 10 = .ok (.if_icmp .ge 12, 3) := by decide +kernel
theorem dX2_nextOf_13 : decode cX2_nextOf 13 = .ok (.aload_n 0, 1) := by decide +kernel
theorem dX2_nextOf_14 : decode cX2_nextOf 14 = .ok (.getfield 9, 3) := by decide +kernel
theorem dX2_nextOf_17 : decode cX2_nextOf 17 = .ok (.iload_n 1, 1) := by decide +kernel
theorem dX2_nextOf_18 : decode cX2_nextOf 18 = .ok (.iaload, 1) := by decide +kernel
theorem dX2_nextOf_19 : decode cX2_nextOf 19 = .ok (.goto 4, 3) := by decide +kernel
theorem dX2_nextOf_22 : decode cX2_nextOf 22 = .ok (.iconst (-1), 1) := by decide +kernel
theorem dX2_nextOf_23 : decode cX2_nextOf 23 = .ok (.ireturn, 1) := by decide +kernel
theorem dX2_listenersOf_0 : decode cX2_listenersOf 0 = .ok (.iload_n 1, 1) := by decide +kernel
theorem dX2_listenersOf_1 : decode cX2_listenersOf 1 = .ok (.ifCond .lt 21, 3) := by decide +kernel
theorem dX2_listenersOf_4 : decode cX2_listenersOf 4 = .ok (.iload_n 1, 1) := by decide +kernel
theorem dX2_listenersOf_5 : decode cX2_listenersOf 5 = .ok (.aload_n 0, 1) := by decide +kernel
theorem dX2_listenersOf_6 : decode cX2_listenersOf 6 = .ok (.getfield 15, 3) := by decide +kernel
theorem dX2_listenersOf_9 : decode cX2_listenersOf 9 = .ok (.arraylength, 1) := by decide +kernel
theorem dX2_listenersOf_10 : decode cX2_listenersOf 10 = .ok (.if_icmp .ge 12, 3) := by decide +kernel
theorem dX2_listenersOf_13 : decode cX2_listenersOf 13 = .ok (.aload_n 0, 1) := by decide +kernel
theorem dX2_listenersOf_14 : decode cX2_listenersOf 14 = .ok (.getfield 15, 3) := by decide +kernel
theorem dX2_listenersOf_17 : decode cX2_listenersOf 17 = .ok (.iload_n 1, 1) := by decide +kernel
theorem dX2_listenersOf_18 : decode cX2_listenersOf 18 = .ok (.iaload, 1) := by decide +kernel
theorem dX2_listenersOf_19 : decode cX2_listenersOf 19 = .ok (.goto 4, 3) := by decide +kernel
theorem dX2_listenersOf_22 : decode cX2_listenersOf 22 = .ok (.iconst 0, 1) := by decide +kernel
theorem dX2_listenersOf_23 : decode cX2_listenersOf 23 = .ok (.ireturn, 1) := by decide +kernel
theorem dX2_setNext_0 : decode cX2_setNext 0 = .ok (.iload_n 1, 1) := by decide +kernel
theorem dX2_setNext_1 : decode cX2_setNext 1 = .ok (.ifCond .lt 35, 3) := by decide +kernel
theorem dX2_setNext_4 : decode cX2_setNext 4 = .ok (.iload_n 1, 1) := by decide +kernel
theorem dX2_setNext_5 : decode cX2_setNext 5 = .ok (.aload_n 0, 1) := by decide +kernel
theorem dX2_setNext_6 : decode cX2_setNext 6 = .ok (.getfield 9, 3) := by decide +kernel
theorem dX2_setNext_9 : decode cX2_setNext 9 = .ok (.arraylength, 1) := by decide +kernel
theorem dX2_setNext_10 : decode cX2_setNext 10 = .ok (.if_icmp .ge 26, 3) := by decide +kernel
theorem dX2_setNext_13 : decode cX2_setNext 13 = .ok (.iload_n 1, 1) := by decide +kernel
theorem dX2_setNext_14 : decode cX2_setNext 14 = .ok (.aload_n 0, 1) := by decide +kernel
theorem dX2_setNext_15 : decode cX2_setNext 15 = .ok (.getfield 15, 3) := by decide +kernel
theorem dX2_setNext_18 : decode cX2_setNext 18 = .ok (.arraylength, 1) := by decide +kernel
theorem dX2_setNext_19 : decode cX2_setNext 19 = .ok (.if_icmp .ge 17, 3) := by decide +kernel
theorem dX2_setNext_22 : decode cX2_setNext 22 = .ok (.aload_n 0, 1) := by decide +kernel
theorem dX2_setNext_23 : decode cX2_setNext 23 = .ok (.getfield 9, 3) := by decide +kernel
theorem dX2_setNext_26 : decode cX2_setNext 26 = .ok (.iload_n 1, 1) := by decide +kernel
theorem dX2_setNext_27 : decode cX2_setNext 27 = .ok (.iload_n 2, 1) := by decide +kernel
theorem dX2_setNext_28 : decode cX2_setNext 28 = .ok (.iastore, 1) := by decide +kernel
theorem dX2_setNext_29 : decode cX2_setNext 29 = .ok (.aload_n 0, 1) := by decide +kernel
theorem dX2_setNext_30 : decode cX2_setNext 30 = .ok (.getfield 15, 3) := by decide +kernel
theorem dX2_setNext_33 : decode cX2_setNext 33 = .ok (.iload_n 1, 1) := by decide +kernel
theorem dX2_setNext_34 : decode cX2_setNext 34 = .ok (.iload_n 3, 1) := by decide +kernel
theorem dX2_setNext_35 : decode cX2_setNext 35 = .ok (.iastore, 1) := by decide +kernel
theorem dX2_setNext_36 : decode cX2_setNext 36 = .ok (.return_, 1) := by decide +kernel
theorem dX2_tunnelsHeardBy_0 : decode cX2_tunnelsHeardBy 0 = .ok (.iconst 0, 1) := by decide +kernel
theorem dX2_tunnelsHeardBy_1 : decode cX2_tunnelsHeardBy 1 = .ok (.istore_n 2, 1) := by decide +kernel
theorem dX2_tunnelsHeardBy_2 : decode cX2_tunnelsHeardBy 2 = .ok (.iconst 0, 1) := by decide +kernel
theorem dX2_tunnelsHeardBy_3 : decode cX2_tunnelsHeardBy 3 = .ok (.istore_n 3, 1) := by decide +kernel
theorem dX2_tunnelsHeardBy_4 : decode cX2_tunnelsHeardBy 4 = .ok (.iload_n 3, 1) := by decide +kernel
theorem dX2_tunnelsHeardBy_5 : decode cX2_tunnelsHeardBy 5 = .ok (.iconst 3, 1) := by decide +kernel
theorem dX2_tunnelsHeardBy_6 : decode cX2_tunnelsHeardBy 6 = .ok (.if_icmp .ge 28, 3) := by decide +kernel
theorem dX2_tunnelsHeardBy_9 : decode cX2_tunnelsHeardBy 9 = .ok (.iload_n 1, 1) := by decide +kernel
theorem dX2_tunnelsHeardBy_10 : decode cX2_tunnelsHeardBy 10 = .ok (.aload_n 0, 1) := by decide +kernel
theorem dX2_tunnelsHeardBy_11 : decode cX2_tunnelsHeardBy 11 = .ok (.getfield 18, 3) := by decide +kernel
theorem dX2_tunnelsHeardBy_14 : decode cX2_tunnelsHeardBy 14 = .ok (.iload_n 3, 1) := by decide +kernel
theorem dX2_tunnelsHeardBy_15 : decode cX2_tunnelsHeardBy 15 = .ok (.iaload, 1) := by decide +kernel
theorem dX2_tunnelsHeardBy_16 : decode cX2_tunnelsHeardBy 16 = .ok (.invokestatic 53, 3) := by decide +kernel
theorem dX2_tunnelsHeardBy_19 : decode cX2_tunnelsHeardBy 19 = .ok (.ifCond .eq 9, 3) := by decide +kernel
theorem dX2_tunnelsHeardBy_22 : decode cX2_tunnelsHeardBy 22 = .ok (.iload_n 2, 1) := by decide +kernel
theorem dX2_tunnelsHeardBy_23 : decode cX2_tunnelsHeardBy 23 = .ok (.iconst 1, 1) := by decide +kernel
theorem dX2_tunnelsHeardBy_24 : decode cX2_tunnelsHeardBy 24 = .ok (.iload_n 3, 1) := by decide +kernel
theorem dX2_tunnelsHeardBy_25 : decode cX2_tunnelsHeardBy 25 = .ok (.ishl, 1) := by decide +kernel
theorem dX2_tunnelsHeardBy_26 : decode cX2_tunnelsHeardBy 26 = .ok (.ior, 1) := by decide +kernel
theorem dX2_tunnelsHeardBy_27 : decode cX2_tunnelsHeardBy 27 = .ok (.istore_n 2, 1) := by decide +kernel
theorem dX2_tunnelsHeardBy_28 : decode cX2_tunnelsHeardBy 28 = .ok (.iinc 3 1, 3) := by decide +kernel
theorem dX2_tunnelsHeardBy_31 : decode cX2_tunnelsHeardBy 31 = .ok (.goto (-27), 3) := by decide +kernel
theorem dX2_tunnelsHeardBy_34 : decode cX2_tunnelsHeardBy 34 = .ok (.iload_n 2, 1) := by decide +kernel
theorem dX2_tunnelsHeardBy_35 : decode cX2_tunnelsHeardBy 35 = .ok (.ireturn, 1) := by decide +kernel
theorem dX2_hearings_0 : decode cX2_hearings 0 = .ok (.iconst 0, 1) := by decide +kernel
theorem dX2_hearings_1 : decode cX2_hearings 1 = .ok (.istore_n 1, 1) := by decide +kernel
theorem dX2_hearings_2 : decode cX2_hearings 2 = .ok (.iconst 0, 1) := by decide +kernel
theorem dX2_hearings_3 : decode cX2_hearings 3 = .ok (.istore_n 2, 1) := by decide +kernel
theorem dX2_hearings_4 : decode cX2_hearings 4 = .ok (.iload_n 2, 1) := by decide +kernel
theorem dX2_hearings_5 : decode cX2_hearings 5 = .ok (.iconst 3, 1) := by decide +kernel
theorem dX2_hearings_6 : decode cX2_hearings 6 = .ok (.if_icmp .ge 21, 3) := by decide +kernel
theorem dX2_hearings_9 : decode cX2_hearings 9 = .ok (.iload_n 1, 1) := by decide +kernel
theorem dX2_hearings_10 : decode cX2_hearings 10 = .ok (.aload_n 0, 1) := by decide +kernel
theorem dX2_hearings_11 : decode cX2_hearings 11 = .ok (.getfield 18, 3) := by decide +kernel
theorem dX2_hearings_14 : decode cX2_hearings 14 = .ok (.iload_n 2, 1) := by decide +kernel
theorem dX2_hearings_15 : decode cX2_hearings 15 = .ok (.iaload, 1) := by decide +kernel
theorem dX2_hearings_16 : decode cX2_hearings 16 = .ok (.invokestatic 57, 3) := by decide +kernel
theorem dX2_hearings_19 : decode cX2_hearings 19 = .ok (.iadd, 1) := by decide +kernel
theorem dX2_hearings_20 : decode cX2_hearings 20 = .ok (.istore_n 1, 1) := by decide +kernel
theorem dX2_hearings_21 : decode cX2_hearings 21 = .ok (.iinc 2 1, 3) := by decide +kernel
theorem dX2_hearings_24 : decode cX2_hearings 24 = .ok (.goto (-20), 3) := by decide +kernel
theorem dX2_hearings_27 : decode cX2_hearings 27 = .ok (.iload_n 1, 1) := by decide +kernel
theorem dX2_hearings_28 : decode cX2_hearings 28 = .ok (.ireturn, 1) := by decide +kernel
theorem dX2_note_0 : decode cX2_note 0 = .ok (.aload_n 0, 1) := by decide +kernel
theorem dX2_note_1 : decode cX2_note 1 = .ok (.getfield 33, 3) := by decide +kernel
theorem dX2_note_4 : decode cX2_note 4 = .ok (.ifCond .lt 12, 3) := by decide +kernel
theorem dX2_note_7 : decode cX2_note 7 = .ok (.aload_n 0, 1) := by decide +kernel
theorem dX2_note_8 : decode cX2_note 8 = .ok (.getfield 33, 3) := by decide +kernel
theorem dX2_note_11 : decode cX2_note 11 = .ok (.bipush 8, 2) := by decide +kernel
theorem dX2_note_13 : decode cX2_note 13 = .ok (.if_icmp .lt 5, 3) := by decide +kernel
theorem dX2_note_16 : decode cX2_note 16 = .ok (.iconst 0, 1) := by decide +kernel
theorem dX2_note_17 : decode cX2_note 17 = .ok (.ireturn, 1) := by decide +kernel
theorem dX2_note_18 : decode cX2_note 18 = .ok (.aload_n 0, 1) := by decide +kernel
theorem dX2_note_19 : decode cX2_note 19 = .ok (.getfield 27, 3) := by decide +kernel
theorem dX2_note_22 : decode cX2_note 22 = .ok (.aload_n 0, 1) := by decide +kernel
theorem dX2_note_23 : decode cX2_note 23 = .ok (.getfield 33, 3) := by decide +kernel
theorem dX2_note_26 : decode cX2_note 26 = .ok (.iload_n 1, 1) := by decide +kernel
theorem dX2_note_27 : decode cX2_note 27 = .ok (.iastore, 1) := by decide +kernel
theorem dX2_note_28 : decode cX2_note 28 = .ok (.aload_n 0, 1) := by decide +kernel
theorem dX2_note_29 : decode cX2_note 29 = .ok (.getfield 30, 3) := by decide +kernel
theorem dX2_note_32 : decode cX2_note 32 = .ok (.aload_n 0, 1) := by decide +kernel
theorem dX2_note_33 : decode cX2_note 33 = .ok (.getfield 33, 3) := by decide +kernel
theorem dX2_note_36 : decode cX2_note 36 = .ok (.iload_n 2, 1) := by decide +kernel
theorem dX2_note_37 : decode cX2_note 37 = .ok (.iastore, 1) := by decide +kernel
theorem dX2_note_38 : decode cX2_note 38 = .ok (.aload_n 0, 1) := by decide +kernel
theorem dX2_note_39 : decode cX2_note 39 = .ok (.dup, 1) := by decide +kernel
theorem dX2_note_40 : decode cX2_note 40 = .ok (.getfield 33, 3) := by decide +kernel
theorem dX2_note_43 : decode cX2_note 43 = .ok (.iconst 1, 1) := by decide +kernel
theorem dX2_note_44 : decode cX2_note 44 = .ok (.iadd, 1) := by decide +kernel
theorem dX2_note_45 : decode cX2_note 45 = .ok (.putfield 33, 3) := by decide +kernel
theorem dX2_note_48 : decode cX2_note 48 = .ok (.iconst 1, 1) := by decide +kernel
theorem dX2_note_49 : decode cX2_note 49 = .ok (.ireturn, 1) := by decide +kernel
theorem dX3_init_0 : decode cX3_init 0 = .ok (.aload_n 0, 1) := by decide +kernel
theorem dX3_init_1 : decode cX3_init 1 = .ok (.invokespecial 3, 3) := by decide +kernel
theorem dX3_init_4 : decode cX3_init 4 = .ok (.aload_n 0, 1) := by decide +kernel
theorem dX3_init_5 : decode cX3_init 5 = .ok (.aload_n 1, 1) := by decide +kernel
theorem dX3_init_6 : decode cX3_init 6 = .ok (.putfield 9, 3) := by decide +kernel
theorem dX3_init_9 : decode cX3_init 9 = .ok (.aload_n 0, 1) := by decide +kernel
theorem dX3_init_10 : decode cX3_init 10 = .ok (.aload_n 2, 1) := by decide +kernel
theorem dX3_init_11 : decode cX3_init 11 = .ok (.putfield 15, 3) := by decide +kernel
theorem dX3_init_14 : decode cX3_init 14 = .ok (.aload_n 0, 1) := by decide +kernel
theorem dX3_init_15 : decode cX3_init 15 = .ok (.aload_n 3, 1) := by decide +kernel
theorem dX3_init_16 : decode cX3_init 16 = .ok (.putfield 19, 3) := by decide +kernel
theorem dX3_init_19 : decode cX3_init 19 = .ok (.aload_n 0, 1) := by decide +kernel
theorem dX3_init_20 : decode cX3_init 20 = .ok (.bipush 7, 2) := by decide +kernel
theorem dX3_init_22 : decode cX3_init 22 = .ok (.newarray .int, 2) := by decide +kernel
theorem dX3_init_24 : decode cX3_init 24 = .ok (.putfield 23, 3) := by decide +kernel
theorem dX3_init_27 : decode cX3_init 27 = .ok (.return_, 1) := by decide +kernel
theorem dX3_beginners_0 : decode cX3_beginners 0 = .ok (.iconst 0, 1) := by decide +kernel
theorem dX3_beginners_1 : decode cX3_beginners 1 = .ok (.istore_n 1, 1) := by decide +kernel
theorem dX3_beginners_2 : decode cX3_beginners 2 = .ok (.iconst 0, 1) := by decide +kernel
theorem dX3_beginners_3 : decode cX3_beginners 3 = .ok (.istore_n 2, 1) := by decide +kernel
theorem dX3_beginners_4 : decode cX3_beginners 4 = .ok (.iload_n 2, 1) := by decide +kernel
theorem dX3_beginners_5 : decode cX3_beginners 5 = .ok (.aload_n 0, 1) := by decide +kernel
theorem dX3_beginners_6 : decode cX3_beginners 6 = .ok (.getfield 9, 3) := by decide +kernel
theorem dX3_beginners_9 : decode cX3_beginners 9 = .ok (.getfield 27, 3) := by decide +kernel
theorem dX3_beginners_12 : decode cX3_beginners 12 = .ok (.if_icmp .ge 23, 3) := by decide +kernel
theorem dX3_beginners_15 : decode cX3_beginners 15 = .ok (.aload_n 0, 1) := by decide +kernel
theorem dX3_beginners_16 : decode cX3_beginners 16 = .ok (.iload_n 2, 1) := by decide +kernel
theorem dX3_beginners_17 : decode cX3_beginners 17 = .ok (.invokevirtual 33, 3) := by decide +kernel
theorem dX3_beginners_20 : decode cX3_beginners 20 = .ok (.ifCond .eq 9, 3) := by decide +kernel
theorem dX3_beginners_23 : decode cX3_beginners 23 = .ok (.iload_n 1, 1) := by decide +kernel
theorem dX3_beginners_24 : decode cX3_beginners 24 = .ok (.iconst 1, 1) := by decide +kernel
theorem dX3_beginners_25 : decode cX3_beginners 25 = .ok (.iload_n 2, 1) := by decide +kernel
theorem dX3_beginners_26 : decode cX3_beginners 26 = .ok (.ishl, 1) := by decide +kernel
theorem dX3_beginners_27 : decode cX3_beginners 27 = .ok (.ior, 1) := by decide +kernel
theorem dX3_beginners_28 : decode cX3_beginners 28 = .ok (.istore_n 1, 1) := by decide +kernel
theorem dX3_beginners_29 : decode cX3_beginners 29 = .ok (.iinc 2 1, 3) := by decide +kernel
theorem dX3_beginners_32 : decode cX3_beginners 32 = .ok (.goto (-28), 3) := by decide +kernel
theorem dX3_beginners_35 : decode cX3_beginners 35 = .ok (.iload_n 1, 1) := by decide +kernel
theorem dX3_beginners_36 : decode cX3_beginners 36 = .ok (.ireturn, 1) := by decide +kernel
theorem dX3_bestToAsk_0 : decode cX3_bestToAsk 0 = .ok (.iload_n 1, 1) := by decide +kernel
theorem dX3_bestToAsk_1 : decode cX3_bestToAsk 1 = .ok (.ifCond .ne 5, 3) := by decide +kernel
theorem dX3_bestToAsk_4 : decode cX3_bestToAsk 4 = .ok (.iconst (-1), 1) := by decide +kernel
theorem dX3_bestToAsk_5 : decode cX3_bestToAsk 5 = .ok (.ireturn, 1) := by decide +kernel
theorem dX3_bestToAsk_6 : decode cX3_bestToAsk 6 = .ok (.iconst (-1), 1) := by decide +kernel
theorem dX3_bestToAsk_7 : decode cX3_bestToAsk 7 = .ok (.istore_n 2, 1) := by decide +kernel
theorem dX3_bestToAsk_8 : decode cX3_bestToAsk 8 = .ok (.aload_n 0, 1) := by decide +kernel
theorem dX3_bestToAsk_9 : decode cX3_bestToAsk 9 = .ok (.getfield 9, 3) := by decide +kernel
theorem dX3_bestToAsk_12 : decode cX3_bestToAsk 12 = .ok (.getfield 27, 3) := by decide +kernel
theorem dX3_bestToAsk_15 : decode cX3_bestToAsk 15 = .ok (.iconst 1, 1) := by decide +kernel
theorem dX3_bestToAsk_16 : decode cX3_bestToAsk 16 = .ok (.iadd, 1) := by decide +kernel
theorem dX3_bestToAsk_17 : decode cX3_bestToAsk 17 = .ok (.istore_n 3, 1) := by decide +kernel
theorem dX3_bestToAsk_18 : decode cX3_bestToAsk 18 = .ok (.iconst 0, 1) := by decide +kernel
theorem dX3_bestToAsk_19 : decode cX3_bestToAsk 19 = .ok (.istore 4, 2) := by decide +kernel
theorem dX3_bestToAsk_21 : decode cX3_bestToAsk 21 = .ok (.iload 4, 2) := by decide +kernel
theorem dX3_bestToAsk_23 : decode cX3_bestToAsk 23 = .ok (.aload_n 0, 1) := by decide +kernel
theorem dX3_bestToAsk_24 : decode cX3_bestToAsk 24 = .ok (.getfield 9, 3) := by decide +kernel
theorem dX3_bestToAsk_27 : decode cX3_bestToAsk 27 = .ok (.getfield 27, 3) := by decide +kernel
theorem dX3_bestToAsk_30 : decode cX3_bestToAsk 30 = .ok (.if_icmp .ge 30, 3) := by decide +kernel
theorem dX3_bestToAsk_33 : decode cX3_bestToAsk 33 = .ok (.aload_n 0, 1) := by decide +kernel
theorem dX3_bestToAsk_34 : decode cX3_bestToAsk 34 = .ok (.iload 4, 2) := by decide +kernel
theorem dX3_bestToAsk_36 : decode cX3_bestToAsk 36 = .ok (.iload_n 1, 1) := by decide +kernel
theorem dX3_bestToAsk_37 : decode cX3_bestToAsk 37 = .ok (.invokevirtual 37, 3) := by decide +kernel
theorem dX3_bestToAsk_40 : decode cX3_bestToAsk 40 = .ok (.istore 5, 2) := by decide +kernel
theorem dX3_bestToAsk_42 : decode cX3_bestToAsk 42 = .ok (.iload 5, 2) := by decide +kernel
theorem dX3_bestToAsk_44 : decode cX3_bestToAsk 44 = .ok (.iload_n 3, 1) := by decide +kernel
theorem dX3_bestToAsk_45 : decode cX3_bestToAsk 45 = .ok (.if_icmp .ge 9, 3) := by decide +kernel
theorem dX3_bestToAsk_48 : decode cX3_bestToAsk 48 = .ok (.iload 4, 2) := by decide +kernel
theorem dX3_bestToAsk_50 : decode cX3_bestToAsk 50 = .ok (.istore_n 2, 1) := by decide +kernel
theorem dX3_bestToAsk_51 : decode cX3_bestToAsk 51 = .ok (.iload 5, 2) := by decide +kernel
theorem dX3_bestToAsk_53 : decode cX3_bestToAsk 53 = .ok (.istore_n 3, 1) := by decide +kernel
theorem dX3_bestToAsk_54 : decode cX3_bestToAsk 54 = .ok (.iinc 4 1, 3) := by decide +kernel
theorem dX3_bestToAsk_57 : decode cX3_bestToAsk 57 = .ok (.goto (-36), 3) := by decide +kernel
theorem dX3_bestToAsk_60 : decode cX3_bestToAsk 60 = .ok (.iload_n 2, 1) := by decide +kernel
theorem dX3_bestToAsk_61 : decode cX3_bestToAsk 61 = .ok (.ireturn, 1) := by decide +kernel
theorem dX3_agrees_0 : decode cX3_agrees 0 = .ok (.iconst 0, 1) := by decide +kernel
theorem dX3_agrees_1 : decode cX3_agrees 1 = .ok (.istore_n 2, 1) := by decide +kernel
theorem dX3_agrees_2 : decode cX3_agrees 2 = .ok (.iload_n 2, 1) := by decide +kernel
theorem dX3_agrees_3 : decode cX3_agrees 3 = .ok (.aload_n 0, 1) := by decide +kernel
theorem dX3_agrees_4 : decode cX3_agrees 4 = .ok (.getfield 15, 3) := by decide +kernel
theorem dX3_agrees_7 : decode cX3_agrees 7 = .ok (.getfield 41, 3) := by decide +kernel
theorem dX3_agrees_10 : decode cX3_agrees 10 = .ok (.if_icmp .ge 46, 3) := by decide +kernel
theorem dX3_agrees_13 : decode cX3_agrees 13 = .ok (.iload_n 2, 1) := by decide +kernel
theorem dX3_agrees_14 : decode cX3_agrees 14 = .ok (.bipush 8, 2) := by decide +kernel
theorem dX3_agrees_16 : decode cX3_agrees 16 = .ok (.if_icmp .ge 40, 3) := by decide +kernel
theorem dX3_agrees_19 : decode cX3_agrees 19 = .ok (.aload_n 0, 1) := by decide +kernel
theorem dX3_agrees_20 : decode cX3_agrees 20 = .ok (.getfield 19, 3) := by decide +kernel
theorem dX3_agrees_23 : decode cX3_agrees 23 = .ok (.iload_n 1, 1) := by decide +kernel
theorem dX3_agrees_24 : decode cX3_agrees 24 = .ok (.aload_n 0, 1) := by decide +kernel
theorem dX3_agrees_25 : decode cX3_agrees 25 = .ok (.getfield 15, 3) := by decide +kernel
theorem dX3_agrees_28 : decode cX3_agrees 28 = .ok (.getfield 46, 3) := by decide +kernel
theorem dX3_agrees_31 : decode cX3_agrees 31 = .ok (.iload_n 2, 1) := by decide +kernel
theorem dX3_agrees_32 : decode cX3_agrees 32 = .ok (.iaload, 1) := by decide +kernel
theorem dX3_agrees_33 : decode cX3_agrees 33 = .ok (.invokevirtual 49, 3) := by decide +kernel
theorem dX3_agrees_36 : decode cX3_agrees 36 = .ok (.aload_n 0, 1) := by decide +kernel
theorem dX3_agrees_37 : decode cX3_agrees 37 = .ok (.getfield 15, 3) := by decide +kernel
theorem dX3_agrees_40 : decode cX3_agrees 40 = .ok (.getfield 54, 3) := by decide +kernel
theorem dX3_agrees_43 : decode cX3_agrees 43 = .ok (.iload_n 2, 1) := by decide +kernel
theorem dX3_agrees_44 : decode cX3_agrees 44 = .ok (.iaload, 1) := by decide +kernel
theorem dX3_agrees_45 : decode cX3_agrees 45 = .ok (.if_icmp .eq 5, 3) := by decide +kernel
theorem dX3_agrees_48 : decode cX3_agrees 48 = .ok (.iconst 0, 1) := by decide +kernel
theorem dX3_agrees_49 : decode cX3_agrees 49 = .ok (.ireturn, 1) := by decide +kernel
theorem dX3_agrees_50 : decode cX3_agrees 50 = .ok (.iinc 2 1, 3) := by decide +kernel
theorem dX3_agrees_53 : decode cX3_agrees 53 = .ok (.goto (-51), 3) := by decide +kernel
theorem dX3_agrees_56 : decode cX3_agrees 56 = .ok (.iconst 1, 1) := by decide +kernel
theorem dX3_agrees_57 : decode cX3_agrees 57 = .ok (.ireturn, 1) := by decide +kernel
theorem dX3_leftAtWorst_0 : decode cX3_leftAtWorst 0 = .ok (.iconst 0, 1) := by decide +kernel
theorem dX3_leftAtWorst_1 : decode cX3_leftAtWorst 1 = .ok (.istore_n 3, 1) := by decide +kernel
theorem dX3_leftAtWorst_2 : decode cX3_leftAtWorst 2 = .ok (.iload_n 3, 1) := by decide +kernel
theorem dX3_leftAtWorst_3 : decode cX3_leftAtWorst 3 = .ok (.aload_n 0, 1) := by decide +kernel
theorem dX3_leftAtWorst_4 : decode cX3_leftAtWorst 4 = .ok (.getfield 23, 3) := by decide +kernel
theorem dX3_leftAtWorst_7 : decode cX3_leftAtWorst 7 = .ok (.arraylength, 1) := by decide +kernel
theorem dX3_leftAtWorst_8 : decode cX3_leftAtWorst 8 = .ok (.if_icmp .ge 16, 3) := by decide +kernel
theorem dX3_leftAtWorst_11 : decode cX3_leftAtWorst 11 = .ok (.aload_n 0, 1) := by decide +kernel
theorem dX3_leftAtWorst_12 : decode cX3_leftAtWorst 12 = .ok (.getfield 23, 3) := by decide +kernel
theorem dX3_leftAtWorst_15 : decode cX3_leftAtWorst 15 = .ok (.iload_n 3, 1) := by decide +kernel
theorem dX3_leftAtWorst_16 : decode cX3_leftAtWorst 16 = .ok (.iconst 0, 1) := by decide +kernel
theorem dX3_leftAtWorst_17 : decode cX3_leftAtWorst 17 = .ok (.iastore, 1) := by decide +kernel
theorem dX3_leftAtWorst_18 : decode cX3_leftAtWorst 18 = .ok (.iinc 3 1, 3) := by decide +kernel
theorem dX3_leftAtWorst_21 : decode cX3_leftAtWorst 21 = .ok (.goto (-19), 3) := by decide +kernel
theorem dX3_leftAtWorst_24 : decode cX3_leftAtWorst 24 = .ok (.iconst 0, 1) := by decide +kernel
theorem dX3_leftAtWorst_25 : decode cX3_leftAtWorst 25 = .ok (.istore_n 3, 1) := by decide +kernel
theorem dX3_leftAtWorst_26 : decode cX3_leftAtWorst 26 = .ok (.iconst 0, 1) := by decide +kernel
theorem dX3_leftAtWorst_27 : decode cX3_leftAtWorst 27 = .ok (.istore 4, 2) := by decide +kernel
theorem dX3_leftAtWorst_29 : decode cX3_leftAtWorst 29 = .ok (.iload 4, 2) := by decide +kernel
theorem dX3_leftAtWorst_31 : decode cX3_leftAtWorst 31 = .ok (.aload_n 0, 1) := by decide +kernel
theorem dX3_leftAtWorst_32 : decode cX3_leftAtWorst 32 = .ok (.getfield 9, 3) := by decide +kernel
theorem dX3_leftAtWorst_35 : decode cX3_leftAtWorst 35 = .ok (.getfield 27, 3) := by decide +kernel
theorem dX3_leftAtWorst_38 : decode cX3_leftAtWorst 38 = .ok (.if_icmp .ge 70, 3) := by decide +kernel
theorem dX3_leftAtWorst_41 : decode cX3_leftAtWorst 41 = .ok (.aload_n 0, 1) := by decide +kernel
theorem dX3_leftAtWorst_42 : decode cX3_leftAtWorst 42 = .ok (.getfield 19, 3) := by decide +kernel
theorem dX3_leftAtWorst_45 : decode cX3_leftAtWorst 45 = .ok (.iload 4, 2) := by decide +kernel
theorem dX3_leftAtWorst_47 : decode cX3_leftAtWorst 47 = .ok (.iload_n 1, 1) := by decide +kernel
theorem dX3_leftAtWorst_48 : decode cX3_leftAtWorst 48 = .ok (.invokevirtual 49, 3) := by decide +kernel
theorem dX3_leftAtWorst_51 : decode cX3_leftAtWorst 51 = .ok (.iconst 1, 1) := by decide +kernel
theorem dX3_leftAtWorst_52 : decode cX3_leftAtWorst 52 = .ok (.iadd, 1) := by decide +kernel
theorem dX3_leftAtWorst_53 : decode cX3_leftAtWorst 53 = .ok (.istore 5, 2) := by decide +kernel
theorem dX3_leftAtWorst_55 : decode cX3_leftAtWorst 55 = .ok (.iload 4, 2) := by decide +kernel
theorem dX3_leftAtWorst_57 : decode cX3_leftAtWorst 57 = .ok (.iload_n 2, 1) := by decide +kernel
theorem dX3_leftAtWorst_58 : decode cX3_leftAtWorst 58 = .ok (.invokestatic 57, 3) := by decide +kernel
theorem dX3_leftAtWorst_61 : decode cX3_leftAtWorst 61 = .ok (.ifCond .eq 41, 3) := by decide +kernel
theorem dX3_leftAtWorst_64 : decode cX3_leftAtWorst 64 = .ok (.iload 5, 2) := by decide +kernel
theorem dX3_leftAtWorst_66 : decode cX3_leftAtWorst 66 = .ok (.ifCond .lt 36, 3) := by decide +kernel
theorem dX3_leftAtWorst_69 : decode cX3_leftAtWorst 69 = .ok (.iload 5, 2) := by decide +kernel
theorem dX3_leftAtWorst_71 : decode cX3_leftAtWorst 71 = .ok (.aload_n 0, 1) := by decide +kernel
theorem dX3_leftAtWorst_72 : decode cX3_leftAtWorst 72 = .ok (.getfield 23, 3) := by decide +kernel
theorem dX3_leftAtWorst_75 : decode cX3_leftAtWorst 75 = .ok (.arraylength, 1) := by decide +kernel
theorem dX3_leftAtWorst_76 : decode cX3_leftAtWorst 76 = .ok (.if_icmp .ge 26, 3) := by decide +kernel
theorem dX3_leftAtWorst_79 : decode cX3_leftAtWorst 79 = .ok (.aload_n 0, 1) := by decide +kernel
theorem dX3_leftAtWorst_80 : decode cX3_leftAtWorst 80 = .ok (.getfield 23, 3) := by decide +kernel
theorem dX3_leftAtWorst_83 : decode cX3_leftAtWorst 83 = .ok (.iload 5, 2) := by decide +kernel
theorem dX3_leftAtWorst_85 : decode cX3_leftAtWorst 85 = .ok (.dup2, 1) := by decide +kernel
theorem dX3_leftAtWorst_86 : decode cX3_leftAtWorst 86 = .ok (.iaload, 1) := by decide +kernel
theorem dX3_leftAtWorst_87 : decode cX3_leftAtWorst 87 = .ok (.iconst 1, 1) := by decide +kernel
theorem dX3_leftAtWorst_88 : decode cX3_leftAtWorst 88 = .ok (.iadd, 1) := by decide +kernel
theorem dX3_leftAtWorst_89 : decode cX3_leftAtWorst 89 = .ok (.iastore, 1) := by decide +kernel
theorem dX3_leftAtWorst_90 : decode cX3_leftAtWorst 90 = .ok (.iload_n 3, 1) := by decide +kernel
theorem dX3_leftAtWorst_91 : decode cX3_leftAtWorst 91 = .ok (.aload_n 0, 1) := by decide +kernel
theorem dX3_leftAtWorst_92 : decode cX3_leftAtWorst 92 = .ok (.getfield 23, 3) := by decide +kernel
theorem dX3_leftAtWorst_95 : decode cX3_leftAtWorst 95 = .ok (.iload 5, 2) := by decide +kernel
theorem dX3_leftAtWorst_97 : decode cX3_leftAtWorst 97 = .ok (.iaload, 1) := by decide +kernel
theorem dX3_leftAtWorst_98 : decode cX3_leftAtWorst 98 = .ok (.invokestatic 61, 3) := by decide +kernel
theorem dX3_leftAtWorst_101 : decode cX3_leftAtWorst 101 = .ok (.istore_n 3, 1) := by decide +kernel
theorem dX3_leftAtWorst_102 : decode cX3_leftAtWorst 102 = .ok (.iinc 4 1, 3) := by decide +kernel
theorem dX3_leftAtWorst_105 : decode cX3_leftAtWorst 105 = .ok (.goto (-76), 3) := by decide +kernel
theorem dX3_leftAtWorst_108 : decode cX3_leftAtWorst 108 = .ok (.iload_n 3, 1) := by decide +kernel
theorem dX3_leftAtWorst_109 : decode cX3_leftAtWorst 109 = .ok (.ireturn, 1) := by decide +kernel
theorem dX4_init_0 : decode cX4_init 0 = .ok (.aload_n 0, 1) := by decide +kernel
theorem dX4_init_1 : decode cX4_init 1 = .ok (.invokespecial 3, 3) := by decide +kernel
theorem dX4_init_4 : decode cX4_init 4 = .ok (.aload_n 0, 1) := by decide +kernel
theorem dX4_init_5 : decode cX4_init 5 = .ok (.aload_n 1, 1) := by decide +kernel
theorem dX4_init_6 : decode cX4_init 6 = .ok (.putfield 9, 3) := by decide +kernel
theorem dX4_init_9 : decode cX4_init 9 = .ok (.aload_n 0, 1) := by decide +kernel
theorem dX4_init_10 : decode cX4_init 10 = .ok (.aload_n 2, 1) := by decide +kernel
theorem dX4_init_11 : decode cX4_init 11 = .ok (.putfield 15, 3) := by decide +kernel
theorem dX4_init_14 : decode cX4_init 14 = .ok (.return_, 1) := by decide +kernel
theorem dX4_hearers_0 : decode cX4_hearers 0 = .ok (.iconst 0, 1) := by decide +kernel
theorem dX4_hearers_1 : decode cX4_hearers 1 = .ok (.istore_n 3, 1) := by decide +kernel
theorem dX4_hearers_2 : decode cX4_hearers 2 = .ok (.iconst 0, 1) := by decide +kernel
theorem dX4_hearers_3 : decode cX4_hearers 3 = .ok (.istore 4, 2) := by decide +kernel
theorem dX4_hearers_5 : decode cX4_hearers 5 = .ok (.iload 4, 2) := by decide +kernel
theorem dX4_hearers_7 : decode cX4_hearers 7 = .ok (.aload_n 0, 1) := by decide +kernel
theorem dX4_hearers_8 : decode cX4_hearers 8 = .ok (.getfield 9, 3) := by decide +kernel
theorem dX4_hearers_11 : decode cX4_hearers 11 = .ok (.getfield 19, 3) := by decide +kernel
theorem dX4_hearers_14 : decode cX4_hearers 14 = .ok (.if_icmp .ge 30, 3) := by decide +kernel
theorem dX4_hearers_17 : decode cX4_hearers 17 = .ok (.iload 4, 2) := by decide +kernel
theorem dX4_hearers_19 : decode cX4_hearers 19 = .ok (.iload_n 2, 1) := by decide +kernel
theorem dX4_hearers_20 : decode cX4_hearers 20 = .ok (.invokestatic 25, 3) := by decide +kernel
theorem dX4_hearers_23 : decode cX4_hearers 23 = .ok (.ifCond .eq 15, 3) := by decide +kernel
theorem dX4_hearers_26 : decode cX4_hearers 26 = .ok (.iload_n 3, 1) := by decide +kernel
theorem dX4_hearers_27 : decode cX4_hearers 27 = .ok (.aload_n 0, 1) := by decide +kernel
theorem dX4_hearers_28 : decode cX4_hearers 28 = .ok (.getfield 15, 3) := by decide +kernel
theorem dX4_hearers_31 : decode cX4_hearers 31 = .ok (.iload 4, 2) := by decide +kernel
theorem dX4_hearers_33 : decode cX4_hearers 33 = .ok (.invokevirtual 29, 3) := by decide +kernel
theorem dX4_hearers_36 : decode cX4_hearers 36 = .ok (.ior, 1) := by decide +kernel
theorem dX4_hearers_37 : decode cX4_hearers 37 = .ok (.istore_n 3, 1) := by decide +kernel
theorem dX4_hearers_38 : decode cX4_hearers 38 = .ok (.iinc 4 1, 3) := by decide +kernel
theorem dX4_hearers_41 : decode cX4_hearers 41 = .ok (.goto (-36), 3) := by decide +kernel
theorem dX4_hearers_44 : decode cX4_hearers 44 = .ok (.iload_n 3, 1) := by decide +kernel
theorem dX4_hearers_45 : decode cX4_hearers 45 = .ok (.iload_n 1, 1) := by decide +kernel
theorem dX4_hearers_46 : decode cX4_hearers 46 = .ok (.iconst (-1), 1) := by decide +kernel
theorem dX4_hearers_47 : decode cX4_hearers 47 = .ok (.ixor, 1) := by decide +kernel
theorem dX4_hearers_48 : decode cX4_hearers 48 = .ok (.iand, 1) := by decide +kernel
theorem dX4_hearers_49 : decode cX4_hearers 49 = .ok (.ireturn, 1) := by decide +kernel
theorem dX4_ends_0 : decode cX4_ends 0 = .ok (.aload_n 0, 1) := by decide +kernel
theorem dX4_ends_1 : decode cX4_ends 1 = .ok (.iload_n 1, 1) := by decide +kernel
theorem dX4_ends_2 : decode cX4_ends 2 = .ok (.iload_n 1, 1) := by decide +kernel
theorem dX4_ends_3 : decode cX4_ends 3 = .ok (.iconst 0, 1) := by decide +kernel
theorem dX4_ends_4 : decode cX4_ends 4 = .ok (.invokevirtual 35, 3) := by decide +kernel
theorem dX4_ends_7 : decode cX4_ends 7 = .ok (.ireturn, 1) := by decide +kernel
theorem dX4_lengthInTheEnd_0 : decode cX4_lengthInTheEnd 0 = .ok (.iload_n 1, 1) := by decide +kernel
theorem dX4_lengthInTheEnd_1 : decode cX4_lengthInTheEnd 1 = .ok (.istore 4, 2) := by decide +kernel
theorem dX4_lengthInTheEnd_3 : decode cX4_lengthInTheEnd 3 = .ok (.iload_n 2, 1) := by decide +kernel
theorem dX4_lengthInTheEnd_4 : decode cX4_lengthInTheEnd 4 = .ok (.istore 5, 2) := by decide +kernel
theorem dX4_lengthInTheEnd_6 : decode cX4_lengthInTheEnd 6 = .ok (.iconst 0, 1) := by decide +kernel
theorem dX4_lengthInTheEnd_7 : decode cX4_lengthInTheEnd 7 = .ok (.istore 6, 2) := by decide +kernel
theorem dX4_lengthInTheEnd_9 : decode cX4_lengthInTheEnd 9 = .ok (.iload 6, 2) := by decide +kernel
theorem dX4_lengthInTheEnd_11 : decode cX4_lengthInTheEnd 11 = .ok (.aload_n 0, 1) := by decide +kernel
theorem dX4_lengthInTheEnd_12 : decode cX4_lengthInTheEnd 12 = .ok (.getfield 9, 3) := by decide +kernel
theorem dX4_lengthInTheEnd_15 : decode cX4_lengthInTheEnd 15 = .ok (.getfield 19, 3) := by decide +kernel
theorem dX4_lengthInTheEnd_18 : decode cX4_lengthInTheEnd 18 = .ok (.if_icmp .ge 31, 3) := by decide +kernel
theorem dX4_lengthInTheEnd_21 : decode cX4_lengthInTheEnd 21 = .ok (.iload 5, 2) := by decide +kernel
theorem dX4_lengthInTheEnd_23 : decode cX4_lengthInTheEnd 23 = .ok (.ifCond .eq 26, 3) := by decide +kernel
theorem dX4_lengthInTheEnd_26 : decode cX4_lengthInTheEnd 26 = .ok (.aload_n 0, 1) := by decide +kernel
theorem dX4_lengthInTheEnd_27 : decode cX4_lengthInTheEnd 27 = .ok (.iload 4, 2) := by decide +kernel
theorem dX4_lengthInTheEnd_29 : decode cX4_lengthInTheEnd 29 = .ok (.iload 5, 2) := by decide +kernel
theorem dX4_lengthInTheEnd_31 : decode cX4_lengthInTheEnd 31 = .ok (.invokevirtual 39, 3) := by decide +kernel
theorem dX4_lengthInTheEnd_34 : decode cX4_lengthInTheEnd 34 = .ok (.istore 5, 2) := by decide +kernel
theorem dX4_lengthInTheEnd_36 : decode cX4_lengthInTheEnd 36 = .ok (.iload 4, 2) := by decide +kernel
theorem dX4_lengthInTheEnd_38 : decode cX4_lengthInTheEnd 38 = .ok (.iload 5, 2) := by decide +kernel
theorem dX4_lengthInTheEnd_40 : decode cX4_lengthInTheEnd 40 = .ok (.ior, 1) := by decide +kernel
theorem dX4_lengthInTheEnd_41 : decode cX4_lengthInTheEnd 41 = .ok (.istore 4, 2) := by decide +kernel
theorem dX4_lengthInTheEnd_43 : decode cX4_lengthInTheEnd 43 = .ok (.iinc 6 1, 3) := by decide +kernel
theorem dX4_lengthInTheEnd_46 : decode cX4_lengthInTheEnd 46 = .ok (.goto (-37), 3) := by decide +kernel
theorem dX4_lengthInTheEnd_49 : decode cX4_lengthInTheEnd 49 = .ok (.aload_n 0, 1) := by decide +kernel
theorem dX4_lengthInTheEnd_50 : decode cX4_lengthInTheEnd 50 = .ok (.getfield 9, 3) := by decide +kernel
theorem dX4_lengthInTheEnd_53 : decode cX4_lengthInTheEnd 53 = .ok (.iload 4, 2) := by decide +kernel
theorem dX4_lengthInTheEnd_55 : decode cX4_lengthInTheEnd 55 = .ok (.iload_n 3, 1) := by decide +kernel
theorem dX4_lengthInTheEnd_56 : decode cX4_lengthInTheEnd 56 = .ok (.invokevirtual 43, 3) := by decide +kernel
theorem dX4_lengthInTheEnd_59 : decode cX4_lengthInTheEnd 59 = .ok (.ireturn, 1) := by decide +kernel
theorem dX4_lasts_0 : decode cX4_lasts 0 = .ok (.iconst 0, 1) := by decide +kernel
theorem dX4_lasts_1 : decode cX4_lasts 1 = .ok (.istore_n 2, 1) := by decide +kernel
theorem dX4_lasts_2 : decode cX4_lasts 2 = .ok (.iconst 0, 1) := by decide +kernel
theorem dX4_lasts_3 : decode cX4_lasts 3 = .ok (.istore_n 3, 1) := by decide +kernel
theorem dX4_lasts_4 : decode cX4_lasts 4 = .ok (.iload_n 3, 1) := by decide +kernel
theorem dX4_lasts_5 : decode cX4_lasts 5 = .ok (.aload_n 0, 1) := by decide +kernel
theorem dX4_lasts_6 : decode cX4_lasts 6 = .ok (.getfield 9, 3) := by decide +kernel
theorem dX4_lasts_9 : decode cX4_lasts 9 = .ok (.getfield 19, 3) := by decide +kernel
theorem dX4_lasts_12 : decode cX4_lasts 12 = .ok (.if_icmp .ge 20, 3) := by decide +kernel
theorem dX4_lasts_15 : decode cX4_lasts 15 = .ok (.iload_n 2, 1) := by decide +kernel
theorem dX4_lasts_16 : decode cX4_lasts 16 = .ok (.aload_n 0, 1) := by decide +kernel
theorem dX4_lasts_17 : decode cX4_lasts 17 = .ok (.iload_n 1, 1) := by decide +kernel
theorem dX4_lasts_18 : decode cX4_lasts 18 = .ok (.iload_n 3, 1) := by decide +kernel
theorem dX4_lasts_19 : decode cX4_lasts 19 = .ok (.invokevirtual 46, 3) := by decide +kernel
theorem dX4_lasts_22 : decode cX4_lasts 22 = .ok (.invokestatic 49, 3) := by decide +kernel
theorem dX4_lasts_25 : decode cX4_lasts 25 = .ok (.istore_n 2, 1) := by decide +kernel
theorem dX4_lasts_26 : decode cX4_lasts 26 = .ok (.iinc 3 1, 3) := by decide +kernel
theorem dX4_lasts_29 : decode cX4_lasts 29 = .ok (.goto (-25), 3) := by decide +kernel
theorem dX4_lasts_32 : decode cX4_lasts 32 = .ok (.iload_n 2, 1) := by decide +kernel
theorem dX4_lasts_33 : decode cX4_lasts 33 = .ok (.ireturn, 1) := by decide +kernel
theorem dX4_dayHeard_0 : decode cX4_dayHeard 0 = .ok (.iconst 1, 1) := by decide +kernel
theorem dX4_dayHeard_1 : decode cX4_dayHeard 1 = .ok (.iload_n 1, 1) := by decide +kernel
theorem dX4_dayHeard_2 : decode cX4_dayHeard 2 = .ok (.ishl, 1) := by decide +kernel
theorem dX4_dayHeard_3 : decode cX4_dayHeard 3 = .ok (.istore_n 3, 1) := by decide +kernel
theorem dX4_dayHeard_4 : decode cX4_dayHeard 4 = .ok (.iload_n 3, 1) := by decide +kernel
theorem dX4_dayHeard_5 : decode cX4_dayHeard 5 = .ok (.istore 4, 2) := by decide +kernel
theorem dX4_dayHeard_7 : decode cX4_dayHeard 7 = .ok (.iconst 0, 1) := by decide +kernel
theorem dX4_dayHeard_8 : decode cX4_dayHeard 8 = .ok (.istore 5, 2) := by decide +kernel
theorem dX4_dayHeard_10 : decode cX4_dayHeard 10 = .ok (.iload 5, 2) := by decide +kernel
theorem dX4_dayHeard_12 : decode cX4_dayHeard 12 = .ok (.aload_n 0, 1) := by decide +kernel
theorem dX4_dayHeard_13 : decode cX4_dayHeard 13 = .ok (.getfield 9, 3) := by decide +kernel
theorem dX4_dayHeard_16 : decode cX4_dayHeard 16 = .ok (.getfield 19, 3) := by decide +kernel
theorem dX4_dayHeard_19 : decode cX4_dayHeard 19 = .ok (.if_icmp .ge 40, 3) := by decide +kernel
theorem dX4_dayHeard_22 : decode cX4_dayHeard 22 = .ok (.iload 4, 2) := by decide +kernel
theorem dX4_dayHeard_24 : decode cX4_dayHeard 24 = .ok (.ifCond .eq 35, 3) := by decide +kernel
theorem dX4_dayHeard_27 : decode cX4_dayHeard 27 = .ok (.iload_n 2, 1) := by decide +kernel
theorem dX4_dayHeard_28 : decode cX4_dayHeard 28 = .ok (.iload 4, 2) := by decide +kernel
theorem dX4_dayHeard_30 : decode cX4_dayHeard 30 = .ok (.invokestatic 25, 3) := by decide +kernel
theorem dX4_dayHeard_33 : decode cX4_dayHeard 33 = .ok (.ifCond .eq 6, 3) := by decide +kernel
theorem dX4_dayHeard_36 : decode cX4_dayHeard 36 = .ok (.iload 5, 2) := by decide +kernel
theorem dX4_dayHeard_38 : decode cX4_dayHeard 38 = .ok (.ireturn, 1) := by decide +kernel
theorem dX4_dayHeard_39 : decode cX4_dayHeard 39 = .ok (.aload_n 0, 1) := by decide +kernel
theorem dX4_dayHeard_40 : decode cX4_dayHeard 40 = .ok (.iload_n 3, 1) := by decide +kernel
theorem dX4_dayHeard_41 : decode cX4_dayHeard 41 = .ok (.iload 4, 2) := by decide +kernel
theorem dX4_dayHeard_43 : decode cX4_dayHeard 43 = .ok (.invokevirtual 39, 3) := by decide +kernel
theorem dX4_dayHeard_46 : decode cX4_dayHeard 46 = .ok (.istore 4, 2) := by decide +kernel
theorem dX4_dayHeard_48 : decode cX4_dayHeard 48 = .ok (.iload_n 3, 1) := by decide +kernel
theorem dX4_dayHeard_49 : decode cX4_dayHeard 49 = .ok (.iload 4, 2) := by decide +kernel
theorem dX4_dayHeard_51 : decode cX4_dayHeard 51 = .ok (.ior, 1) := by decide +kernel
theorem dX4_dayHeard_52 : decode cX4_dayHeard 52 = .ok (.istore_n 3, 1) := by decide +kernel
theorem dX4_dayHeard_53 : decode cX4_dayHeard 53 = .ok (.iinc 5 1, 3) := by decide +kernel
theorem dX4_dayHeard_56 : decode cX4_dayHeard 56 = .ok (.goto (-46), 3) := by decide +kernel
theorem dX4_dayHeard_59 : decode cX4_dayHeard 59 = .ok (.iconst (-1), 1) := by decide +kernel
theorem dX4_dayHeard_60 : decode cX4_dayHeard 60 = .ok (.ireturn, 1) := by decide +kernel
