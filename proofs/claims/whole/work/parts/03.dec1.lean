theorem dX5_init_0 : decode cX5_init 0 = .ok (.aload_n 0, 1) := by decide +kernel
theorem dX5_init_1 : decode cX5_init 1 = .ok (.invokespecial 1, 3) := by decide +kernel
theorem dX5_init_4 : decode cX5_init 4 = .ok (.aload_n 0, 1) := by decide +kernel
theorem dX5_init_5 : decode cX5_init 5 = .ok (.new 7, 3) := by decide +kernel
theorem dX5_init_8 : decode cX5_init 8 = .ok (.dup, 1) := by decide +kernel
theorem dX5_init_9 : decode cX5_init 9 = .ok (.invokespecial 9, 3) := by decide +kernel
theorem dX5_init_12 : decode cX5_init 12 = .ok (.putfield 10, 3) := by decide +kernel
theorem dX5_init_15 : decode cX5_init 15 = .ok (.aload_n 0, 1) := by decide +kernel
theorem dX5_init_16 : decode cX5_init 16 = .ok (.new 16, 3) := by decide +kernel
theorem dX5_init_19 : decode cX5_init 19 = .ok (.dup, 1) := by decide +kernel
theorem dX5_init_20 : decode cX5_init 20 = .ok (.invokespecial 18, 3) := by decide +kernel
theorem dX5_init_23 : decode cX5_init 23 = .ok (.putfield 19, 3) := by decide +kernel
theorem dX5_init_26 : decode cX5_init 26 = .ok (.aload_n 0, 1) := by decide +kernel
theorem dX5_init_27 : decode cX5_init 27 = .ok (.new 23, 3) := by decide +kernel
theorem dX5_init_30 : decode cX5_init 30 = .ok (.dup, 1) := by decide +kernel
theorem dX5_init_31 : decode cX5_init 31 = .ok (.invokespecial 25, 3) := by decide +kernel
theorem dX5_init_34 : decode cX5_init 34 = .ok (.putfield 26, 3) := by decide +kernel
theorem dX5_init_37 : decode cX5_init 37 = .ok (.aload_n 0, 1) := by decide +kernel
theorem dX5_init_38 : decode cX5_init 38 = .ok (.new 23, 3) := by decide +kernel
theorem dX5_init_41 : decode cX5_init 41 = .ok (.dup, 1) := by decide +kernel
theorem dX5_init_42 : decode cX5_init 42 = .ok (.invokespecial 25, 3) := by decide +kernel
theorem dX5_init_45 : decode cX5_init 45 = .ok (.putfield 30, 3) := by decide +kernel
theorem dX5_init_48 : decode cX5_init 48 = .ok (.aload_n 0, 1) := by decide +kernel
theorem dX5_init_49 : decode cX5_init 49 = .ok (.new 33, 3) := by decide +kernel
theorem dX5_init_52 : decode cX5_init 52 = .ok (.dup, 1) := by decide +kernel
theorem dX5_init_53 : decode cX5_init 53 = .ok (.aload_n 0, 1) := by decide +kernel
theorem dX5_init_54 : decode cX5_init 54 = .ok (.getfield 19, 3) := by decide +kernel
theorem dX5_init_57 : decode cX5_init 57 = .ok (.aload_n 0, 1) := by decide +kernel
theorem dX5_init_58 : decode cX5_init 58 = .ok (.getfield 26, 3) := by decide +kernel
theorem dX5_init_61 : decode cX5_init 61 = .ok (.invokespecial 35, 3) := by decide +kernel
theorem dX5_init_64 : decode cX5_init 64 = .ok (.putfield 38, 3) := by decide +kernel
theorem dX5_init_67 : decode cX5_init 67 = .ok (.aload_n 0, 1) := by decide +kernel
theorem dX5_init_68 : decode cX5_init 68 = .ok (.new 42, 3) := by decide +kernel
theorem dX5_init_71 : decode cX5_init 71 = .ok (.dup, 1) := by decide +kernel
theorem dX5_init_72 : decode cX5_init 72 = .ok (.aload_n 0, 1) := by decide +kernel
theorem dX5_init_73 : decode cX5_init 73 = .ok (.getfield 19, 3) := by decide +kernel
theorem dX5_init_76 : decode cX5_init 76 = .ok (.aload_n 0, 1) := by decide +kernel
theorem dX5_init_77 : decode cX5_init 77 = .ok (.getfield 26, 3) := by decide +kernel
theorem dX5_init_80 : decode cX5_init 80 = .ok (.aload_n 0, 1) := by decide +kernel
theorem dX5_init_81 : decode cX5_init 81 = .ok (.getfield 38, 3) := by decide +kernel
theorem dX5_init_84 : decode cX5_init 84 = .ok (.invokespecial 44, 3) := by decide +kernel
theorem dX5_init_87 : decode cX5_init 87 = .ok (.putfield 47, 3) := by decide +kernel
theorem dX5_init_90 : decode cX5_init 90 = .ok (.aload_n 0, 1) := by decide +kernel
theorem dX5_init_91 : decode cX5_init 91 = .ok (.iconst 0, 1) := by decide +kernel
theorem dX5_init_92 : decode cX5_init 92 = .ok (.putfield 51, 3) := by decide +kernel
theorem dX5_init_95 : decode cX5_init 95 = .ok (.aload_n 0, 1) := by decide +kernel
theorem dX5_init_96 : decode cX5_init 96 = .ok (.iconst 0, 1) := by decide +kernel
theorem dX5_init_97 : decode cX5_init 97 = .ok (.putfield 55, 3) := by decide +kernel
theorem dX5_init_100 : decode cX5_init 100 = .ok (.return_, 1) := by decide +kernel
theorem dX5_letter_0 : decode cX5_letter 0 = .ok (.iload_n 1, 1) := by decide +kernel
theorem dX5_letter_1 : decode cX5_letter 1 = .ok (.iconst 1, 1) := by decide +kernel
theorem dX5_letter_2 : decode cX5_letter 2 = .ok (.if_icmp .lt 9, 3) := by decide +kernel
theorem dX5_letter_5 : decode cX5_letter 5 = .ok (.iload_n 1, 1) := by decide +kernel
theorem dX5_letter_6 : decode cX5_letter 6 = .ok (.bipush 126, 2) := by decide +kernel
theorem dX5_letter_8 : decode cX5_letter 8 = .ok (.if_icmp .le 6, 3) := by decide +kernel
theorem dX5_letter_11 : decode cX5_letter 11 = .ok (.bipush (-102), 2) := by decide +kernel
theorem dX5_letter_13 : decode cX5_letter 13 = .ok (.ireturn, 1) := by decide +kernel
theorem dX5_letter_14 : decode cX5_letter 14 = .ok (.aload_n 0, 1) := by decide +kernel
theorem dX5_letter_15 : decode cX5_letter 15 = .ok (.getfield 10, 3) := by decide +kernel
theorem dX5_letter_18 : decode cX5_letter 18 = .ok (.iload_n 1, 1) := by decide +kernel
theorem dX5_letter_19 : decode cX5_letter 19 = .ok (.invokevirtual 59, 3) := by decide +kernel
theorem dX5_letter_22 : decode cX5_letter 22 = .ok (.ifCond .eq 13, 3) := by decide +kernel
theorem dX5_letter_25 : decode cX5_letter 25 = .ok (.aload_n 0, 1) := by decide +kernel
theorem dX5_letter_26 : decode cX5_letter 26 = .ok (.getfield 10, 3) := by decide +kernel
theorem dX5_letter_29 : decode cX5_letter 29 = .ok (.getfield 63, 3) := by decide +kernel
theorem dX5_letter_32 : decode cX5_letter 32 = .ok (.goto 5, 3) := by decide +kernel
theorem dX5_letter_35 : decode cX5_letter 35 = .ok (.bipush (-104), 2) := by decide +kernel
theorem dX5_letter_37 : decode cX5_letter 37 = .ok (.ireturn, 1) := by decide +kernel
theorem dX5_blank_0 : decode cX5_blank 0 = .ok (.aload_n 0, 1) := by decide +kernel
theorem dX5_blank_1 : decode cX5_blank 1 = .ok (.getfield 10, 3) := by decide +kernel
theorem dX5_blank_4 : decode cX5_blank 4 = .ok (.getfield 63, 3) := by decide +kernel
theorem dX5_blank_7 : decode cX5_blank 7 = .ok (.istore_n 1, 1) := by decide +kernel
theorem dX5_blank_8 : decode cX5_blank 8 = .ok (.aload_n 0, 1) := by decide +kernel
theorem dX5_blank_9 : decode cX5_blank 9 = .ok (.getfield 10, 3) := by decide +kernel
theorem dX5_blank_12 : decode cX5_blank 12 = .ok (.invokevirtual 66, 3) := by decide +kernel
theorem dX5_blank_15 : decode cX5_blank 15 = .ok (.iload_n 1, 1) := by decide +kernel
theorem dX5_blank_16 : decode cX5_blank 16 = .ok (.ireturn, 1) := by decide +kernel
theorem dX5_fault_0 : decode cX5_fault 0 = .ok (.aload_n 0, 1) := by decide +kernel
theorem dX5_fault_1 : decode cX5_fault 1 = .ok (.getfield 10, 3) := by decide +kernel
theorem dX5_fault_4 : decode cX5_fault 4 = .ok (.invokevirtual 69, 3) := by decide +kernel
theorem dX5_fault_7 : decode cX5_fault 7 = .ok (.ireturn, 1) := by decide +kernel
theorem dX5_hill_0 : decode cX5_hill 0 = .ok (.aload_n 0, 1) := by decide +kernel
theorem dX5_hill_1 : decode cX5_hill 1 = .ok (.getfield 10, 3) := by decide +kernel
theorem dX5_hill_4 : decode cX5_hill 4 = .ok (.invokevirtual 73, 3) := by decide +kernel
theorem dX5_hill_7 : decode cX5_hill 7 = .ok (.ifCond .ne 6, 3) := by decide +kernel
theorem dX5_hill_10 : decode cX5_hill 10 = .ok (.bipush (-103), 2) := by decide +kernel
theorem dX5_hill_12 : decode cX5_hill 12 = .ok (.ireturn, 1) := by decide +kernel
theorem dX5_hill_13 : decode cX5_hill 13 = .ok (.aload_n 0, 1) := by decide +kernel
theorem dX5_hill_14 : decode cX5_hill 14 = .ok (.getfield 19, 3) := by decide +kernel
theorem dX5_hill_17 : decode cX5_hill 17 = .ok (.aload_n 0, 1) := by decide +kernel
theorem dX5_hill_18 : decode cX5_hill 18 = .ok (.getfield 10, 3) := by decide +kernel
theorem dX5_hill_21 : decode cX5_hill 21 = .ok (.invokevirtual 77, 3) := by decide +kernel
theorem dX5_hill_24 : decode cX5_hill 24 = .ok (.aload_n 0, 1) := by decide +kernel
theorem dX5_hill_25 : decode cX5_hill 25 = .ok (.getfield 26, 3) := by decide +kernel
theorem dX5_hill_28 : decode cX5_hill 28 = .ok (.invokevirtual 81, 3) := by decide +kernel
theorem dX5_hill_31 : decode cX5_hill 31 = .ok (.iconst 0, 1) := by decide +kernel
theorem dX5_hill_32 : decode cX5_hill 32 = .ok (.istore_n 1, 1) := by decide +kernel
theorem dX5_hill_33 : decode cX5_hill 33 = .ok (.iload_n 1, 1) := by decide +kernel
theorem dX5_hill_34 : decode cX5_hill 34 = .ok (.aload_n 0, 1) := by decide +kernel
theorem dX5_hill_35 : decode cX5_hill 35 = .ok (.getfield 19, 3) := by decide +kernel
theorem dX5_hill_38 : decode cX5_hill 38 = .ok (.getfield 84, 3) := by decide +kernel
theorem dX5_hill_41 : decode cX5_hill 41 = .ok (.if_icmp .ge 39, 3) := by decide +kernel
theorem dX5_hill_44 : decode cX5_hill 44 = .ok (.aload_n 0, 1) := by decide +kernel
theorem dX5_hill_45 : decode cX5_hill 45 = .ok (.getfield 10, 3) := by decide +kernel
theorem dX5_hill_48 : decode cX5_hill 48 = .ok (.iload_n 1, 1) := by decide +kernel
theorem dX5_hill_49 : decode cX5_hill 49 = .ok (.invokevirtual 87, 3) := by decide +kernel
theorem dX5_hill_52 : decode cX5_hill 52 = .ok (.istore_n 2, 1) := by decide +kernel
theorem dX5_hill_53 : decode cX5_hill 53 = .ok (.aload_n 0, 1) := by decide +kernel
theorem dX5_hill_54 : decode cX5_hill 54 = .ok (.iload_n 1, 1) := by decide +kernel
theorem dX5_hill_55 : decode cX5_hill 55 = .ok (.aload_n 0, 1) := by decide +kernel
theorem dX5_hill_56 : decode cX5_hill 56 = .ok (.getfield 19, 3) := by decide +kernel
theorem dX5_hill_59 : decode cX5_hill 59 = .ok (.iload_n 2, 1) := by decide +kernel
theorem dX5_hill_60 : decode cX5_hill 60 = .ok (.invokevirtual 91, 3) := by decide +kernel
theorem dX5_hill_63 : decode cX5_hill 63 = .ok (.ifCond .eq 7, 3) := by decide +kernel
theorem dX5_hill_66 : decode cX5_hill 66 = .ok (.iload_n 2, 1) := by decide +kernel
theorem dX5_hill_67 : decode cX5_hill 67 = .ok (.goto 4, 3) := by decide +kernel
theorem dX5_hill_70 : decode cX5_hill 70 = .ok (.iconst (-1), 1) := by decide +kernel
theorem dX5_hill_71 : decode cX5_hill 71 = .ok (.invokevirtual 94, 3) := by decide +kernel
theorem dX5_hill_74 : decode cX5_hill 74 = .ok (.iinc 1 1, 3) := by decide +kernel
theorem dX5_hill_77 : decode cX5_hill 77 = .ok (.goto (-44), 3) := by decide +kernel
theorem dX5_hill_80 : decode cX5_hill 80 = .ok (.aload_n 0, 1) := by decide +kernel
theorem dX5_hill_81 : decode cX5_hill 81 = .ok (.iconst 0, 1) := by decide +kernel
theorem dX5_hill_82 : decode cX5_hill 82 = .ok (.putfield 51, 3) := by decide +kernel
theorem dX5_hill_85 : decode cX5_hill 85 = .ok (.aload_n 0, 1) := by decide +kernel
theorem dX5_hill_86 : decode cX5_hill 86 = .ok (.dup, 1) := by decide +kernel
theorem dX5_hill_87 : decode cX5_hill 87 = .ok (.getfield 55, 3) := by decide +kernel
theorem dX5_hill_90 : decode cX5_hill 90 = .ok (.iconst 1, 1) := by decide +kernel
theorem dX5_hill_91 : decode cX5_hill 91 = .ok (.iadd, 1) := by decide +kernel
theorem dX5_hill_92 : decode cX5_hill 92 = .ok (.putfield 55, 3) := by decide +kernel
theorem dX5_hill_95 : decode cX5_hill 95 = .ok (.aload_n 0, 1) := by decide +kernel
theorem dX5_hill_96 : decode cX5_hill 96 = .ok (.getfield 10, 3) := by decide +kernel
theorem dX5_hill_99 : decode cX5_hill 99 = .ok (.invokevirtual 66, 3) := by decide +kernel
theorem dX5_hill_102 : decode cX5_hill 102 = .ok (.aload_n 0, 1) := by decide +kernel
theorem dX5_hill_103 : decode cX5_hill 103 = .ok (.getfield 19, 3) := by decide +kernel
theorem dX5_hill_106 : decode cX5_hill 106 = .ok (.getfield 84, 3) := by decide +kernel
theorem dX5_hill_109 : decode cX5_hill 109 = .ok (.ireturn, 1) := by decide +kernel
theorem dX5_person_0 : decode cX5_person 0 = .ok (.aload_n 0, 1) := by decide +kernel
theorem dX5_person_1 : decode cX5_person 1 = .ok (.getfield 19, 3) := by decide +kernel
theorem dX5_person_4 : decode cX5_person 4 = .ok (.iload_n 1, 1) := by decide +kernel
theorem dX5_person_5 : decode cX5_person 5 = .ok (.invokevirtual 91, 3) := by decide +kernel
theorem dX5_person_8 : decode cX5_person 8 = .ok (.ifCond .ne 6, 3) := by decide +kernel
theorem dX5_person_11 : decode cX5_person 11 = .ok (.bipush (-101), 2) := by decide +kernel
theorem dX5_person_13 : decode cX5_person 13 = .ok (.ireturn, 1) := by decide +kernel
theorem dX5_person_14 : decode cX5_person 14 = .ok (.iload_n 2, 1) := by decide +kernel
theorem dX5_person_15 : decode cX5_person 15 = .ok (.tableswitch 93 0 5 #[37, 46, 55, 64, 73, 84], 37) := by decide +kernel
theorem dX5_person_52 : decode cX5_person 52 = .ok (.aload_n 0, 1) := by decide +kernel
theorem dX5_person_53 : decode cX5_person 53 = .ok (.getfield 19, 3) := by decide +kernel
theorem dX5_person_56 : decode cX5_person 56 = .ok (.iload_n 1, 1) := by decide +kernel
theorem dX5_person_57 : decode cX5_person 57 = .ok (.invokevirtual 98, 3) := by decide +kernel
theorem dX5_person_60 : decode cX5_person 60 = .ok (.ireturn, 1) := by decide +kernel
theorem dX5_person_61 : decode cX5_person 61 = .ok (.aload_n 0, 1) := by decide +kernel
theorem dX5_person_62 : decode cX5_person 62 = .ok (.getfield 26, 3) := by decide +kernel
theorem dX5_person_65 : decode cX5_person 65 = .ok (.iload_n 1, 1) := by decide +kernel
theorem dX5_person_66 : decode cX5_person 66 = .ok (.invokevirtual 101, 3) := by decide +kernel
theorem dX5_person_69 : decode cX5_person 69 = .ok (.ireturn, 1) := by decide +kernel
theorem dX5_person_70 : decode cX5_person 70 = .ok (.aload_n 0, 1) := by decide +kernel
theorem dX5_person_71 : decode cX5_person 71 = .ok (.getfield 26, 3) := by decide +kernel
theorem dX5_person_74 : decode cX5_person 74 = .ok (.iload_n 1, 1) := by decide +kernel
theorem dX5_person_75 : decode cX5_person 75 = .ok (.invokevirtual 104, 3) := by decide +kernel
theorem dX5_person_78 : decode cX5_person 78 = .ok (.ireturn, 1) := by decide +kernel
theorem dX5_person_79 : decode cX5_person 79 = .ok (.aload_n 0, 1) := by decide +kernel
theorem dX5_person_80 : decode cX5_person 80 = .ok (.getfield 26, 3) := by decide +kernel
theorem dX5_person_83 : decode cX5_person 83 = .ok (.iload_n 1, 1) := by decide +kernel
theorem dX5_person_84 : decode cX5_person 84 = .ok (.invokevirtual 107, 3) := by decide +kernel
theorem dX5_person_87 : decode cX5_person 87 = .ok (.ireturn, 1) := by decide +kernel
theorem dX5_person_88 : decode cX5_person 88 = .ok (.aload_n 0, 1) := by decide +kernel
theorem dX5_person_89 : decode cX5_person 89 = .ok (.getfield 38, 3) := by decide +kernel
theorem dX5_person_92 : decode cX5_person 92 = .ok (.iconst 1, 1) := by decide +kernel
theorem dX5_person_93 : decode cX5_person 93 = .ok (.iload_n 1, 1) := by decide +kernel
theorem dX5_person_94 : decode cX5_person 94 = .ok (.ishl, 1) := by decide +kernel
theorem dX5_person_95 : decode cX5_person 95 = .ok (.invokevirtual 110, 3) := by decide +kernel
theorem dX5_person_98 : decode cX5_person 98 = .ok (.ireturn, 1) := by decide +kernel
theorem dX5_person_99 : decode cX5_person 99 = .ok (.aload_n 0, 1) := by decide +kernel
theorem dX5_person_100 : decode cX5_person 100 = .ok (.getfield 38, 3) := by decide +kernel
theorem dX5_person_103 : decode cX5_person 103 = .ok (.iload_n 1, 1) := by decide +kernel
theorem dX5_person_104 : decode cX5_person 104 = .ok (.invokevirtual 113, 3) := by decide +kernel
theorem dX5_person_107 : decode cX5_person 107 = .ok (.ireturn, 1) := by decide +kernel
theorem dX5_person_108 : decode cX5_person 108 = .ok (.bipush (-102), 2) := by decide +kernel
theorem dX5_person_110 : decode cX5_person 110 = .ok (.ireturn, 1) := by decide +kernel
theorem dX5_as_0 : decode cX5_as 0 = .ok (.aload_n 0, 1) := by decide +kernel
theorem dX5_as_1 : decode cX5_as 1 = .ok (.getfield 19, 3) := by decide +kernel
theorem dX5_as_4 : decode cX5_as 4 = .ok (.iload_n 1, 1) := by decide +kernel
theorem dX5_as_5 : decode cX5_as 5 = .ok (.invokevirtual 91, 3) := by decide +kernel
theorem dX5_as_8 : decode cX5_as 8 = .ok (.ifCond .ne 6, 3) := by decide +kernel
theorem dX5_as_11 : decode cX5_as 11 = .ok (.bipush (-101), 2) := by decide +kernel
theorem dX5_as_13 : decode cX5_as 13 = .ok (.ireturn, 1) := by decide +kernel
theorem dX5_as_14 : decode cX5_as 14 = .ok (.iload_n 2, 1) := by decide +kernel
theorem dX5_as_15 : decode cX5_as 15 = .ok (.ifCond .lt 8, 3) := by decide +kernel
theorem dX5_as_18 : decode cX5_as 18 = .ok (.iload_n 2, 1) := by decide +kernel
theorem dX5_as_19 : decode cX5_as 19 = .ok (.iconst 5, 1) := by decide +kernel
theorem dX5_as_20 : decode cX5_as 20 = .ok (.if_icmp .lt 6, 3) := by decide +kernel
theorem dX5_as_23 : decode cX5_as 23 = .ok (.bipush (-102), 2) := by decide +kernel
theorem dX5_as_25 : decode cX5_as 25 = .ok (.ireturn, 1) := by decide +kernel
theorem dX5_as_26 : decode cX5_as 26 = .ok (.aload_n 0, 1) := by decide +kernel
theorem dX5_as_27 : decode cX5_as 27 = .ok (.getfield 19, 3) := by decide +kernel
theorem dX5_as_30 : decode cX5_as 30 = .ok (.iload_n 1, 1) := by decide +kernel
theorem dX5_as_31 : decode cX5_as 31 = .ok (.invokevirtual 98, 3) := by decide +kernel
theorem dX5_as_34 : decode cX5_as 34 = .ok (.iload_n 2, 1) := by decide +kernel
theorem dX5_as_35 : decode cX5_as 35 = .ok (.invokestatic 116, 3) := by decide +kernel
theorem dX5_as_38 : decode cX5_as 38 = .ok (.ifCond .eq 7, 3) := by decide +kernel
theorem dX5_as_41 : decode cX5_as 41 = .ok (.iload_n 1, 1) := by decide +kernel
theorem dX5_as_42 : decode cX5_as 42 = .ok (.goto 4, 3) := by decide +kernel
theorem dX5_as_45 : decode cX5_as 45 = .ok (.iconst (-1), 1) := by decide +kernel
theorem dX5_as_46 : decode cX5_as 46 = .ok (.ireturn, 1) := by decide +kernel
theorem dX5_next_0 : decode cX5_next 0 = .ok (.aload_n 0, 1) := by decide +kernel
theorem dX5_next_1 : decode cX5_next 1 = .ok (.getfield 19, 3) := by decide +kernel
theorem dX5_next_4 : decode cX5_next 4 = .ok (.iload_n 1, 1) := by decide +kernel
theorem dX5_next_5 : decode cX5_next 5 = .ok (.invokevirtual 91, 3) := by decide +kernel
theorem dX5_next_8 : decode cX5_next 8 = .ok (.ifCond .eq 19, 3) := by decide +kernel
theorem dX5_next_11 : decode cX5_next 11 = .ok (.iload_n 2, 1) := by decide +kernel
theorem dX5_next_12 : decode cX5_next 12 = .ok (.iconst (-1), 1) := by decide +kernel
theorem dX5_next_13 : decode cX5_next 13 = .ok (.if_icmp .eq 17, 3) := by decide +kernel
theorem dX5_next_16 : decode cX5_next 16 = .ok (.aload_n 0, 1) := by decide +kernel
theorem dX5_next_17 : decode cX5_next 17 = .ok (.getfield 19, 3) := by decide +kernel
theorem dX5_next_20 : decode cX5_next 20 = .ok (.iload_n 2, 1) := by decide +kernel
theorem dX5_next_21 : decode cX5_next 21 = .ok (.invokevirtual 91, 3) := by decide +kernel
theorem dX5_next_24 : decode cX5_next 24 = .ok (.ifCond .ne 6, 3) := by decide +kernel
theorem dX5_next_27 : decode cX5_next 27 = .ok (.bipush (-101), 2) := by decide +kernel
theorem dX5_next_29 : decode cX5_next 29 = .ok (.ireturn, 1) := by decide +kernel
theorem dX5_next_30 : decode cX5_next 30 = .ok (.aload_n 0, 1) := by decide +kernel
theorem dX5_next_31 : decode cX5_next 31 = .ok (.getfield 26, 3) := by decide +kernel
theorem dX5_next_34 : decode cX5_next 34 = .ok (.iload_n 1, 1) := by decide +kernel
theorem dX5_next_35 : decode cX5_next 35 = .ok (.invokevirtual 101, 3) := by decide +kernel
theorem dX5_next_38 : decode cX5_next 38 = .ok (.istore_n 3, 1) := by decide +kernel
theorem dX5_next_39 : decode cX5_next 39 = .ok (.aload_n 0, 1) := by decide +kernel
theorem dX5_next_40 : decode cX5_next 40 = .ok (.iload_n 1, 1) := by decide +kernel
theorem dX5_next_41 : decode cX5_next 41 = .ok (.iload_n 2, 1) := by decide +kernel
theorem dX5_next_42 : decode cX5_next 42 = .ok (.invokevirtual 94, 3) := by decide +kernel
theorem dX5_next_45 : decode cX5_next 45 = .ok (.aload_n 0, 1) := by decide +kernel
theorem dX5_next_46 : decode cX5_next 46 = .ok (.getfield 26, 3) := by decide +kernel
theorem dX5_next_49 : decode cX5_next 49 = .ok (.dup, 1) := by decide +kernel
theorem dX5_next_50 : decode cX5_next 50 = .ok (.getfield 120, 3) := by decide +kernel
theorem dX5_next_53 : decode cX5_next 53 = .ok (.iconst 1, 1) := by decide +kernel
theorem dX5_next_54 : decode cX5_next 54 = .ok (.iadd, 1) := by decide +kernel
theorem dX5_next_55 : decode cX5_next 55 = .ok (.putfield 120, 3) := by decide +kernel
theorem dX5_next_58 : decode cX5_next 58 = .ok (.iload_n 3, 1) := by decide +kernel
theorem dX5_next_59 : decode cX5_next 59 = .ok (.ireturn, 1) := by decide +kernel
theorem dX5_point_0 : decode cX5_point 0 = .ok (.iload_n 2, 1) := by decide +kernel
theorem dX5_point_1 : decode cX5_point 1 = .ok (.iload_n 1, 1) := by decide +kernel
theorem dX5_point_2 : decode cX5_point 2 = .ok (.if_icmp .ne 7, 3) := by decide +kernel
theorem dX5_point_5 : decode cX5_point 5 = .ok (.iconst (-1), 1) := by decide +kernel
theorem dX5_point_6 : decode cX5_point 6 = .ok (.goto 4, 3) := by decide +kernel
theorem dX5_point_9 : decode cX5_point 9 = .ok (.iload_n 2, 1) := by decide +kernel
theorem dX5_point_10 : decode cX5_point 10 = .ok (.istore_n 3, 1) := by decide +kernel
theorem dX5_point_11 : decode cX5_point 11 = .ok (.aload_n 0, 1) := by decide +kernel
theorem dX5_point_12 : decode cX5_point 12 = .ok (.getfield 26, 3) := by decide +kernel
theorem dX5_point_15 : decode cX5_point 15 = .ok (.iload_n 1, 1) := by decide +kernel
theorem dX5_point_16 : decode cX5_point 16 = .ok (.iload_n 3, 1) := by decide +kernel
theorem dX5_point_17 : decode cX5_point 17 = .ok (.aload_n 0, 1) := by decide +kernel
theorem dX5_point_18 : decode cX5_point 18 = .ok (.getfield 19, 3) := by decide +kernel
theorem dX5_point_21 : decode cX5_point 21 = .ok (.iload_n 1, 1) := by decide +kernel
theorem dX5_point_22 : decode cX5_point 22 = .ok (.iload_n 3, 1) := by decide +kernel
theorem dX5_point_23 : decode cX5_point 23 = .ok (.invokevirtual 123, 3) := by decide +kernel
theorem dX5_point_26 : decode cX5_point 26 = .ok (.invokevirtual 127, 3) := by decide +kernel
theorem dX5_point_29 : decode cX5_point 29 = .ok (.return_, 1) := by decide +kernel
theorem dX5_tell_0 : decode cX5_tell 0 = .ok (.aload_n 0, 1) := by decide +kernel
theorem dX5_tell_1 : decode cX5_tell 1 = .ok (.iload_n 1, 1) := by decide +kernel
theorem dX5_tell_2 : decode cX5_tell 2 = .ok (.invokevirtual 131, 3) := by decide +kernel
theorem dX5_tell_5 : decode cX5_tell 5 = .ok (.ifCond .eq 14, 3) := by decide +kernel
theorem dX5_tell_8 : decode cX5_tell 8 = .ok (.aload_n 0, 1) := by decide +kernel
theorem dX5_tell_9 : decode cX5_tell 9 = .ok (.getfield 19, 3) := by decide +kernel
theorem dX5_tell_12 : decode cX5_tell 12 = .ok (.iload_n 2, 1) := by decide +kernel
theorem dX5_tell_13 : decode cX5_tell 13 = .ok (.invokevirtual 91, 3) := by decide +kernel
theorem dX5_tell_16 : decode cX5_tell 16 = .ok (.ifCond .ne 6, 3) := by decide +kernel
theorem dX5_tell_19 : decode cX5_tell 19 = .ok (.bipush (-101), 2) := by decide +kernel
theorem dX5_tell_21 : decode cX5_tell 21 = .ok (.ireturn, 1) := by decide +kernel
theorem dX5_tell_22 : decode cX5_tell 22 = .ok (.iconst 1, 1) := by decide +kernel
theorem dX5_tell_23 : decode cX5_tell 23 = .ok (.iload_n 2, 1) := by decide +kernel
theorem dX5_tell_24 : decode cX5_tell 24 = .ok (.ishl, 1) := by decide +kernel
theorem dX5_tell_25 : decode cX5_tell 25 = .ok (.istore_n 3, 1) := by decide +kernel
theorem dX5_tell_26 : decode cX5_tell 26 = .ok (.aload_n 0, 1) := by decide +kernel
theorem dX5_tell_27 : decode cX5_tell 27 = .ok (.getfield 26, 3) := by decide +kernel
theorem dX5_tell_30 : decode cX5_tell 30 = .ok (.getfield 134, 3) := by decide +kernel
theorem dX5_tell_33 : decode cX5_tell 33 = .ok (.iload_n 1, 1) := by decide +kernel
theorem dX5_tell_34 : decode cX5_tell 34 = .ok (.iaload, 1) := by decide +kernel
theorem dX5_tell_35 : decode cX5_tell 35 = .ok (.iload_n 3, 1) := by decide +kernel
theorem dX5_tell_36 : decode cX5_tell 36 = .ok (.iand, 1) := by decide +kernel
theorem dX5_tell_37 : decode cX5_tell 37 = .ok (.ifCond .eq 6, 3) := by decide +kernel
theorem dX5_tell_40 : decode cX5_tell 40 = .ok (.bipush (-103), 2) := by decide +kernel
theorem dX5_tell_42 : decode cX5_tell 42 = .ok (.ireturn, 1) := by decide +kernel
theorem dX5_tell_43 : decode cX5_tell 43 = .ok (.aload_n 0, 1) := by decide +kernel
theorem dX5_tell_44 : decode cX5_tell 44 = .ok (.getfield 26, 3) := by decide +kernel
theorem dX5_tell_47 : decode cX5_tell 47 = .ok (.getfield 134, 3) := by decide +kernel
theorem dX5_tell_50 : decode cX5_tell 50 = .ok (.iload_n 1, 1) := by decide +kernel
theorem dX5_tell_51 : decode cX5_tell 51 = .ok (.dup2, 1) := by decide +kernel
theorem dX5_tell_52 : decode cX5_tell 52 = .ok (.iaload, 1) := by decide +kernel
theorem dX5_tell_53 : decode cX5_tell 53 = .ok (.iload_n 3, 1) := by decide +kernel
theorem dX5_tell_54 : decode cX5_tell 54 = .ok (.ior, 1) := by decide +kernel
theorem dX5_tell_55 : decode cX5_tell 55 = .ok (.iastore, 1) := by decide +kernel
theorem dX5_tell_56 : decode cX5_tell 56 = .ok (.aload_n 0, 1) := by decide +kernel
theorem dX5_tell_57 : decode cX5_tell 57 = .ok (.getfield 26, 3) := by decide +kernel
theorem dX5_tell_60 : decode cX5_tell 60 = .ok (.getfield 138, 3) := by decide +kernel
theorem dX5_tell_63 : decode cX5_tell 63 = .ok (.iload_n 1, 1) := by decide +kernel
theorem dX5_tell_64 : decode cX5_tell 64 = .ok (.dup2, 1) := by decide +kernel
theorem dX5_tell_65 : decode cX5_tell 65 = .ok (.iaload, 1) := by decide +kernel
theorem dX5_tell_66 : decode cX5_tell 66 = .ok (.iload_n 3, 1) := by decide +kernel
theorem dX5_tell_67 : decode cX5_tell 67 = .ok (.ior, 1) := by decide +kernel
theorem dX5_tell_68 : decode cX5_tell 68 = .ok (.iastore, 1) := by decide +kernel
theorem dX5_tell_69 : decode cX5_tell 69 = .ok (.aload_n 0, 1) := by decide +kernel
theorem dX5_tell_70 : decode cX5_tell 70 = .ok (.iload_n 1, 1) := by decide +kernel
theorem dX5_tell_71 : decode cX5_tell 71 = .ok (.invokevirtual 141, 3) := by decide +kernel
theorem dX5_tell_74 : decode cX5_tell 74 = .ok (.ireturn, 1) := by decide +kernel
theorem dX5_day_0 : decode cX5_day 0 = .ok (.aload_n 0, 1) := by decide +kernel
theorem dX5_day_1 : decode cX5_day 1 = .ok (.getfield 19, 3) := by decide +kernel
theorem dX5_day_4 : decode cX5_day 4 = .ok (.invokevirtual 144, 3) := by decide +kernel
theorem dX5_day_7 : decode cX5_day 7 = .ok (.ifCond .ne 6, 3) := by decide +kernel
theorem dX5_day_10 : decode cX5_day 10 = .ok (.bipush (-103), 2) := by decide +kernel
theorem dX5_day_12 : decode cX5_day 12 = .ok (.ireturn, 1) := by decide +kernel
theorem dX5_day_13 : decode cX5_day 13 = .ok (.aload_n 0, 1) := by decide +kernel
theorem dX5_day_14 : decode cX5_day 14 = .ok (.getfield 26, 3) := by decide +kernel
theorem dX5_day_17 : decode cX5_day 17 = .ok (.getfield 147, 3) := by decide +kernel
theorem dX5_day_20 : decode cX5_day 20 = .ok (.bipush 99, 2) := by decide +kernel
theorem dX5_day_22 : decode cX5_day 22 = .ok (.if_icmp .lt 6, 3) := by decide +kernel
theorem dX5_day_25 : decode cX5_day 25 = .ok (.bipush (-104), 2) := by decide +kernel
theorem dX5_day_27 : decode cX5_day 27 = .ok (.ireturn, 1) := by decide +kernel
theorem dX5_day_28 : decode cX5_day 28 = .ok (.aload_n 0, 1) := by decide +kernel
theorem dX5_day_29 : decode cX5_day 29 = .ok (.getfield 26, 3) := by decide +kernel
theorem dX5_day_32 : decode cX5_day 32 = .ok (.dup, 1) := by decide +kernel
theorem dX5_day_33 : decode cX5_day 33 = .ok (.getfield 147, 3) := by decide +kernel
theorem dX5_day_36 : decode cX5_day 36 = .ok (.iconst 1, 1) := by decide +kernel
theorem dX5_day_37 : decode cX5_day 37 = .ok (.iadd, 1) := by decide +kernel
theorem dX5_day_38 : decode cX5_day 38 = .ok (.putfield 147, 3) := by decide +kernel
theorem dX5_day_41 : decode cX5_day 41 = .ok (.iconst 0, 1) := by decide +kernel
theorem dX5_day_42 : decode cX5_day 42 = .ok (.istore_n 1, 1) := by decide +kernel
theorem dX5_day_43 : decode cX5_day 43 = .ok (.iconst 0, 1) := by decide +kernel
theorem dX5_day_44 : decode cX5_day 44 = .ok (.istore_n 2, 1) := by decide +kernel
theorem dX5_day_45 : decode cX5_day 45 = .ok (.iload_n 2, 1) := by decide +kernel
theorem dX5_day_46 : decode cX5_day 46 = .ok (.iconst 3, 1) := by decide +kernel
theorem dX5_day_47 : decode cX5_day 47 = .ok (.if_icmp .ge 79, 3) := by decide +kernel
theorem dX5_day_50 : decode cX5_day 50 = .ok (.aload_n 0, 1) := by decide +kernel
theorem dX5_day_51 : decode cX5_day 51 = .ok (.getfield 26, 3) := by decide +kernel
theorem dX5_day_54 : decode cX5_day 54 = .ok (.getfield 138, 3) := by decide +kernel
theorem dX5_day_57 : decode cX5_day 57 = .ok (.iload_n 2, 1) := by decide +kernel
theorem dX5_day_58 : decode cX5_day 58 = .ok (.aload_n 0, 1) := by decide +kernel
theorem dX5_day_59 : decode cX5_day 59 = .ok (.getfield 38, 3) := by decide +kernel
theorem dX5_day_62 : decode cX5_day 62 = .ok (.aload_n 0, 1) := by decide +kernel
theorem dX5_day_63 : decode cX5_day 63 = .ok (.getfield 26, 3) := by decide +kernel
theorem dX5_day_66 : decode cX5_day 66 = .ok (.getfield 134, 3) := by decide +kernel
theorem dX5_day_69 : decode cX5_day 69 = .ok (.iload_n 2, 1) := by decide +kernel
theorem dX5_day_70 : decode cX5_day 70 = .ok (.iaload, 1) := by decide +kernel
theorem dX5_day_71 : decode cX5_day 71 = .ok (.aload_n 0, 1) := by decide +kernel
theorem dX5_day_72 : decode cX5_day 72 = .ok (.getfield 26, 3) := by decide +kernel
theorem dX5_day_75 : decode cX5_day 75 = .ok (.getfield 138, 3) := by decide +kernel
theorem dX5_day_78 : decode cX5_day 78 = .ok (.iload_n 2, 1) := by decide +kernel
theorem dX5_day_79 : decode cX5_day 79 = .ok (.iaload, 1) := by decide +kernel
theorem dX5_day_80 : decode cX5_day 80 = .ok (.invokevirtual 150, 3) := by decide +kernel
theorem dX5_day_83 : decode cX5_day 83 = .ok (.iastore, 1) := by decide +kernel
theorem dX5_day_84 : decode cX5_day 84 = .ok (.aload_n 0, 1) := by decide +kernel
theorem dX5_day_85 : decode cX5_day 85 = .ok (.getfield 26, 3) := by decide +kernel
theorem dX5_day_88 : decode cX5_day 88 = .ok (.getfield 134, 3) := by decide +kernel
theorem dX5_day_91 : decode cX5_day 91 = .ok (.iload_n 2, 1) := by decide +kernel
theorem dX5_day_92 : decode cX5_day 92 = .ok (.dup2, 1) := by decide +kernel
theorem dX5_day_93 : decode cX5_day 93 = .ok (.iaload, 1) := by decide +kernel
theorem dX5_day_94 : decode cX5_day 94 = .ok (.aload_n 0, 1) := by decide +kernel
theorem dX5_day_95 : decode cX5_day 95 = .ok (.getfield 26, 3) := by decide +kernel
theorem dX5_day_98 : decode cX5_day 98 = .ok (.getfield 138, 3) := by decide +kernel
theorem dX5_day_101 : decode cX5_day 101 = .ok (.iload_n 2, 1) := by decide +kernel
theorem dX5_day_102 : decode cX5_day 102 = .ok (.iaload, 1) := by decide +kernel
theorem dX5_day_103 : decode cX5_day 103 = .ok (.ior, 1) := by decide +kernel
theorem dX5_day_104 : decode cX5_day 104 = .ok (.iastore, 1) := by decide +kernel
theorem dX5_day_105 : decode cX5_day 105 = .ok (.iload_n 1, 1) := by decide +kernel
theorem dX5_day_106 : decode cX5_day 106 = .ok (.aload_n 0, 1) := by decide +kernel
theorem dX5_day_107 : decode cX5_day 107 = .ok (.getfield 26, 3) := by decide +kernel
theorem dX5_day_110 : decode cX5_day 110 = .ok (.getfield 138, 3) := by decide +kernel
theorem dX5_day_113 : decode cX5_day 113 = .ok (.iload_n 2, 1) := by decide +kernel
theorem dX5_day_114 : decode cX5_day 114 = .ok (.iaload, 1) := by decide +kernel
theorem dX5_day_115 : decode cX5_day 115 = .ok (.invokestatic 153, 3) := by decide +kernel
theorem dX5_day_118 : decode cX5_day 118 = .ok (.iadd, 1) := by decide +kernel
theorem dX5_day_119 : decode cX5_day 119 = .ok (.istore_n 1, 1) := by decide +kernel
theorem dX5_day_120 : decode cX5_day 120 = .ok (.iinc 2 1, 3) := by decide +kernel
theorem dX5_day_123 : decode cX5_day 123 = .ok (.goto (-78), 3) := by decide +kernel
theorem dX5_day_126 : decode cX5_day 126 = .ok (.iload_n 1, 1) := by decide +kernel
theorem dX5_day_127 : decode cX5_day 127 = .ok (.ireturn, 1) := by decide +kernel
theorem dX5_deny_0 : decode cX5_deny 0 = .ok (.aload_n 0, 1) := by decide +kernel
theorem dX5_deny_1 : decode cX5_deny 1 = .ok (.iload_n 1, 1) := by decide +kernel
theorem dX5_deny_2 : decode cX5_deny 2 = .ok (.invokevirtual 131, 3) := by decide +kernel
theorem dX5_deny_5 : decode cX5_deny 5 = .ok (.ifCond .ne 6, 3) := by decide +kernel
theorem dX5_deny_8 : decode cX5_deny 8 = .ok (.bipush (-101), 2) := by decide +kernel
theorem dX5_deny_10 : decode cX5_deny 10 = .ok (.ireturn, 1) := by decide +kernel
theorem dX5_deny_11 : decode cX5_deny 11 = .ok (.aload_n 0, 1) := by decide +kernel
theorem dX5_deny_12 : decode cX5_deny 12 = .ok (.getfield 26, 3) := by decide +kernel
theorem dX5_deny_15 : decode cX5_deny 15 = .ok (.getfield 158, 3) := by decide +kernel
theorem dX5_deny_18 : decode cX5_deny 18 = .ok (.iload_n 1, 1) := by decide +kernel
theorem dX5_deny_19 : decode cX5_deny 19 = .ok (.iaload, 1) := by decide +kernel
theorem dX5_deny_20 : decode cX5_deny 20 = .ok (.bipush 9, 2) := by decide +kernel
theorem dX5_deny_22 : decode cX5_deny 22 = .ok (.if_icmp .lt 6, 3) := by decide +kernel
theorem dX5_deny_25 : decode cX5_deny 25 = .ok (.bipush (-104), 2) := by decide +kernel
theorem dX5_deny_27 : decode cX5_deny 27 = .ok (.ireturn, 1) := by decide +kernel
theorem dX5_deny_28 : decode cX5_deny 28 = .ok (.aload_n 0, 1) := by decide +kernel
theorem dX5_deny_29 : decode cX5_deny 29 = .ok (.getfield 26, 3) := by decide +kernel
theorem dX5_deny_32 : decode cX5_deny 32 = .ok (.getfield 158, 3) := by decide +kernel
theorem dX5_deny_35 : decode cX5_deny 35 = .ok (.iload_n 1, 1) := by decide +kernel
theorem dX5_deny_36 : decode cX5_deny 36 = .ok (.dup2, 1) := by decide +kernel
theorem dX5_deny_37 : decode cX5_deny 37 = .ok (.iaload, 1) := by decide +kernel
theorem dX5_deny_38 : decode cX5_deny 38 = .ok (.iconst 1, 1) := by decide +kernel
theorem dX5_deny_39 : decode cX5_deny 39 = .ok (.iadd, 1) := by decide +kernel
theorem dX5_deny_40 : decode cX5_deny 40 = .ok (.iastore, 1) := by decide +kernel
theorem dX5_deny_41 : decode cX5_deny 41 = .ok (.aload_n 0, 1) := by decide +kernel
theorem dX5_deny_42 : decode cX5_deny 42 = .ok (.iload_n 1, 1) := by decide +kernel
theorem dX5_deny_43 : decode cX5_deny 43 = .ok (.invokevirtual 141, 3) := by decide +kernel
theorem dX5_deny_46 : decode cX5_deny 46 = .ok (.ireturn, 1) := by decide +kernel
theorem dX5_tunnel_0 : decode cX5_tunnel 0 = .ok (.aload_n 0, 1) := by decide +kernel
theorem dX5_tunnel_1 : decode cX5_tunnel 1 = .ok (.iload_n 1, 1) := by decide +kernel
theorem dX5_tunnel_2 : decode cX5_tunnel 2 = .ok (.invokevirtual 131, 3) := by decide +kernel
theorem dX5_tunnel_5 : decode cX5_tunnel 5 = .ok (.ifCond .ne 6, 3) := by decide +kernel
theorem dX5_tunnel_8 : decode cX5_tunnel 8 = .ok (.bipush (-101), 2) := by decide +kernel
theorem dX5_tunnel_10 : decode cX5_tunnel 10 = .ok (.ireturn, 1) := by decide +kernel
theorem dX5_tunnel_11 : decode cX5_tunnel 11 = .ok (.iload_n 2, 1) := by decide +kernel
theorem dX5_tunnel_12 : decode cX5_tunnel 12 = .ok (.tableswitch 107 0 4 #[36, 42, 52, 62, 72], 36) := by decide +kernel
theorem dX5_tunnel_48 : decode cX5_tunnel 48 = .ok (.aload_n 0, 1) := by decide +kernel
theorem dX5_tunnel_49 : decode cX5_tunnel 49 = .ok (.iload_n 1, 1) := by decide +kernel
theorem dX5_tunnel_50 : decode cX5_tunnel 50 = .ok (.invokevirtual 141, 3) := by decide +kernel
theorem dX5_tunnel_53 : decode cX5_tunnel 53 = .ok (.ireturn, 1) := by decide +kernel
theorem dX5_tunnel_54 : decode cX5_tunnel 54 = .ok (.aload_n 0, 1) := by decide +kernel
theorem dX5_tunnel_55 : decode cX5_tunnel 55 = .ok (.getfield 26, 3) := by decide +kernel
theorem dX5_tunnel_58 : decode cX5_tunnel 58 = .ok (.getfield 134, 3) := by decide +kernel
theorem dX5_tunnel_61 : decode cX5_tunnel 61 = .ok (.iload_n 1, 1) := by decide +kernel
theorem dX5_tunnel_62 : decode cX5_tunnel 62 = .ok (.iaload, 1) := by decide +kernel
theorem dX5_tunnel_63 : decode cX5_tunnel 63 = .ok (.ireturn, 1) := by decide +kernel
theorem dX5_tunnel_64 : decode cX5_tunnel 64 = .ok (.aload_n 0, 1) := by decide +kernel
theorem dX5_tunnel_65 : decode cX5_tunnel 65 = .ok (.getfield 26, 3) := by decide +kernel
theorem dX5_tunnel_68 : decode cX5_tunnel 68 = .ok (.getfield 138, 3) := by decide +kernel
theorem dX5_tunnel_71 : decode cX5_tunnel 71 = .ok (.iload_n 1, 1) := by decide +kernel
theorem dX5_tunnel_72 : decode cX5_tunnel 72 = .ok (.iaload, 1) := by decide +kernel
theorem dX5_tunnel_73 : decode cX5_tunnel 73 = .ok (.ireturn, 1) := by decide +kernel
theorem dX5_tunnel_74 : decode cX5_tunnel 74 = .ok (.aload_n 0, 1) := by decide +kernel
theorem dX5_tunnel_75 : decode cX5_tunnel 75 = .ok (.getfield 26, 3) := by decide +kernel
theorem dX5_tunnel_78 : decode cX5_tunnel 78 = .ok (.getfield 158, 3) := by decide +kernel
theorem dX5_tunnel_81 : decode cX5_tunnel 81 = .ok (.iload_n 1, 1) := by decide +kernel
theorem dX5_tunnel_82 : decode cX5_tunnel 82 = .ok (.iaload, 1) := by decide +kernel
theorem dX5_tunnel_83 : decode cX5_tunnel 83 = .ok (.ireturn, 1) := by decide +kernel
theorem dX5_tunnel_84 : decode cX5_tunnel 84 = .ok (.aload_n 0, 1) := by decide +kernel
theorem dX5_tunnel_85 : decode cX5_tunnel 85 = .ok (.getfield 38, 3) := by decide +kernel
theorem dX5_tunnel_88 : decode cX5_tunnel 88 = .ok (.aload_n 0, 1) := by decide +kernel
theorem dX5_tunnel_89 : decode cX5_tunnel 89 = .ok (.getfield 26, 3) := by decide +kernel
theorem dX5_tunnel_92 : decode cX5_tunnel 92 = .ok (.getfield 134, 3) := by decide +kernel
theorem dX5_tunnel_95 : decode cX5_tunnel 95 = .ok (.iload_n 1, 1) := by decide +kernel
theorem dX5_tunnel_96 : decode cX5_tunnel 96 = .ok (.iaload, 1) := by decide +kernel
theorem dX5_tunnel_97 : decode cX5_tunnel 97 = .ok (.aload_n 0, 1) := by decide +kernel
theorem dX5_tunnel_98 : decode cX5_tunnel 98 = .ok (.getfield 26, 3) := by decide +kernel
theorem dX5_tunnel_101 : decode cX5_tunnel 101 = .ok (.getfield 138, 3) := by decide +kernel
theorem dX5_tunnel_104 : decode cX5_tunnel 104 = .ok (.iload_n 1, 1) := by decide +kernel
theorem dX5_tunnel_105 : decode cX5_tunnel 105 = .ok (.iaload, 1) := by decide +kernel
theorem dX5_tunnel_106 : decode cX5_tunnel 106 = .ok (.aload_n 0, 1) := by decide +kernel
theorem dX5_tunnel_107 : decode cX5_tunnel 107 = .ok (.getfield 26, 3) := by decide +kernel
theorem dX5_tunnel_110 : decode cX5_tunnel 110 = .ok (.getfield 158, 3) := by decide +kernel
theorem dX5_tunnel_113 : decode cX5_tunnel 113 = .ok (.iload_n 1, 1) := by decide +kernel
theorem dX5_tunnel_114 : decode cX5_tunnel 114 = .ok (.iaload, 1) := by decide +kernel
theorem dX5_tunnel_115 : decode cX5_tunnel 115 = .ok (.invokevirtual 161, 3) := by decide +kernel
theorem dX5_tunnel_118 : decode cX5_tunnel 118 = .ok (.ireturn, 1) := by decide +kernel
theorem dX5_tunnel_119 : decode cX5_tunnel 119 = .ok (.bipush (-102), 2) := by decide +kernel
theorem dX5_tunnel_121 : decode cX5_tunnel 121 = .ok (.ireturn, 1) := by decide +kernel
theorem dX5_isTunnel_0 : decode cX5_isTunnel 0 = .ok (.aload_n 0, 1) := by decide +kernel
theorem dX5_isTunnel_1 : decode cX5_isTunnel 1 = .ok (.getfield 19, 3) := by decide +kernel
theorem dX5_isTunnel_4 : decode cX5_isTunnel 4 = .ok (.invokevirtual 144, 3) := by decide +kernel
theorem dX5_isTunnel_7 : decode cX5_isTunnel 7 = .ok (.ifCond .eq 16, 3) := by decide +kernel
theorem dX5_isTunnel_10 : decode cX5_isTunnel 10 = .ok (.iload_n 1, 1) := by decide +kernel
theorem dX5_isTunnel_11 : decode cX5_isTunnel 11 = .ok (.ifCond .lt 12, 3) := by decide +kernel
theorem dX5_isTunnel_14 : decode cX5_isTunnel 14 = .ok (.iload_n 1, 1) := by decide +kernel
theorem dX5_isTunnel_15 : decode cX5_isTunnel 15 = .ok (.iconst 3, 1) := by decide +kernel
theorem dX5_isTunnel_16 : decode cX5_isTunnel 16 = .ok (.if_icmp .ge 7, 3) := by decide +kernel
theorem dX5_isTunnel_19 : decode cX5_isTunnel 19 = .ok (.iconst 1, 1) := by decide +kernel
theorem dX5_isTunnel_20 : decode cX5_isTunnel 20 = .ok (.goto 4, 3) := by decide +kernel
theorem dX5_isTunnel_23 : decode cX5_isTunnel 23 = .ok (.iconst 0, 1) := by decide +kernel
theorem dX5_isTunnel_24 : decode cX5_isTunnel 24 = .ok (.ireturn, 1) := by decide +kernel
theorem dX5_lengthOf_0 : decode cX5_lengthOf 0 = .ok (.aload_n 0, 1) := by decide +kernel
theorem dX5_lengthOf_1 : decode cX5_lengthOf 1 = .ok (.getfield 19, 3) := by decide +kernel
theorem dX5_lengthOf_4 : decode cX5_lengthOf 4 = .ok (.aload_n 0, 1) := by decide +kernel
theorem dX5_lengthOf_5 : decode cX5_lengthOf 5 = .ok (.getfield 26, 3) := by decide +kernel
theorem dX5_lengthOf_8 : decode cX5_lengthOf 8 = .ok (.getfield 134, 3) := by decide +kernel
theorem dX5_lengthOf_11 : decode cX5_lengthOf 11 = .ok (.iload_n 1, 1) := by decide +kernel
theorem dX5_lengthOf_12 : decode cX5_lengthOf 12 = .ok (.iaload, 1) := by decide +kernel
theorem dX5_lengthOf_13 : decode cX5_lengthOf 13 = .ok (.aload_n 0, 1) := by decide +kernel
theorem dX5_lengthOf_14 : decode cX5_lengthOf 14 = .ok (.getfield 26, 3) := by decide +kernel
theorem dX5_lengthOf_17 : decode cX5_lengthOf 17 = .ok (.getfield 158, 3) := by decide +kernel
theorem dX5_lengthOf_20 : decode cX5_lengthOf 20 = .ok (.iload_n 1, 1) := by decide +kernel
theorem dX5_lengthOf_21 : decode cX5_lengthOf 21 = .ok (.iaload, 1) := by decide +kernel
theorem dX5_lengthOf_22 : decode cX5_lengthOf 22 = .ok (.invokevirtual 165, 3) := by decide +kernel
theorem dX5_lengthOf_25 : decode cX5_lengthOf 25 = .ok (.ireturn, 1) := by decide +kernel
theorem dX5_aim_0 : decode cX5_aim 0 = .ok (.iload_n 1, 1) := by decide +kernel
theorem dX5_aim_1 : decode cX5_aim 1 = .ok (.iconst 1, 1) := by decide +kernel
theorem dX5_aim_2 : decode cX5_aim 2 = .ok (.if_icmp .lt 18, 3) := by decide +kernel
theorem dX5_aim_5 : decode cX5_aim 5 = .ok (.iload_n 1, 1) := by decide +kernel
theorem dX5_aim_6 : decode cX5_aim 6 = .ok (.bipush 12, 2) := by decide +kernel
theorem dX5_aim_8 : decode cX5_aim 8 = .ok (.if_icmp .gt 12, 3) := by decide +kernel
theorem dX5_aim_11 : decode cX5_aim 11 = .ok (.iload_n 2, 1) := by decide +kernel
theorem dX5_aim_12 : decode cX5_aim 12 = .ok (.ifCond .lt 8, 3) := by decide +kernel
theorem dX5_aim_15 : decode cX5_aim 15 = .ok (.iload_n 2, 1) := by decide +kernel
theorem dX5_aim_16 : decode cX5_aim 16 = .ok (.iconst 2, 1) := by decide +kernel
theorem dX5_aim_17 : decode cX5_aim 17 = .ok (.if_icmp .lt 6, 3) := by decide +kernel
theorem dX5_aim_20 : decode cX5_aim 20 = .ok (.bipush (-102), 2) := by decide +kernel
theorem dX5_aim_22 : decode cX5_aim 22 = .ok (.ireturn, 1) := by decide +kernel
theorem dX5_aim_23 : decode cX5_aim 23 = .ok (.aload_n 0, 1) := by decide +kernel
theorem dX5_aim_24 : decode cX5_aim 24 = .ok (.getfield 19, 3) := by decide +kernel
theorem dX5_aim_27 : decode cX5_aim 27 = .ok (.invokevirtual 144, 3) := by decide +kernel
theorem dX5_aim_30 : decode cX5_aim 30 = .ok (.ifCond .ne 6, 3) := by decide +kernel
theorem dX5_aim_33 : decode cX5_aim 33 = .ok (.bipush (-103), 2) := by decide +kernel
theorem dX5_aim_35 : decode cX5_aim 35 = .ok (.ireturn, 1) := by decide +kernel
theorem dX5_aim_36 : decode cX5_aim 36 = .ok (.aload_n 0, 1) := by decide +kernel
theorem dX5_aim_37 : decode cX5_aim 37 = .ok (.iload_n 1, 1) := by decide +kernel
theorem dX5_aim_38 : decode cX5_aim 38 = .ok (.invokevirtual 167, 3) := by decide +kernel
theorem dX5_aim_41 : decode cX5_aim 41 = .ok (.istore_n 3, 1) := by decide +kernel
theorem dX5_aim_42 : decode cX5_aim 42 = .ok (.iload_n 3, 1) := by decide +kernel
theorem dX5_aim_43 : decode cX5_aim 43 = .ok (.ifCond .ne 5, 3) := by decide +kernel
theorem dX5_aim_46 : decode cX5_aim 46 = .ok (.iconst (-1), 1) := by decide +kernel
theorem dX5_aim_47 : decode cX5_aim 47 = .ok (.ireturn, 1) := by decide +kernel
theorem dX5_aim_48 : decode cX5_aim 48 = .ok (.iload_n 2, 1) := by decide +kernel
theorem dX5_aim_49 : decode cX5_aim 49 = .ok (.ifCond .ne 10, 3) := by decide +kernel
theorem dX5_aim_52 : decode cX5_aim 52 = .ok (.iload_n 3, 1) := by decide +kernel
theorem dX5_aim_53 : decode cX5_aim 53 = .ok (.invokestatic 153, 3) := by decide +kernel
theorem dX5_aim_56 : decode cX5_aim 56 = .ok (.goto 4, 3) := by decide +kernel
theorem dX5_aim_59 : decode cX5_aim 59 = .ok (.iload_n 3, 1) := by decide +kernel
theorem dX5_aim_60 : decode cX5_aim 60 = .ok (.ireturn, 1) := by decide +kernel
theorem dX5_fewestToTell_0 : decode cX5_fewestToTell 0 = .ok (.iconst 0, 1) := by decide +kernel
theorem dX5_fewestToTell_1 : decode cX5_fewestToTell 1 = .ok (.istore_n 2, 1) := by decide +kernel
theorem dX5_fewestToTell_2 : decode cX5_fewestToTell 2 = .ok (.aload_n 0, 1) := by decide +kernel
theorem dX5_fewestToTell_3 : decode cX5_fewestToTell 3 = .ok (.getfield 19, 3) := by decide +kernel
theorem dX5_fewestToTell_6 : decode cX5_fewestToTell 6 = .ok (.getfield 84, 3) := by decide +kernel
theorem dX5_fewestToTell_9 : decode cX5_fewestToTell 9 = .ok (.iconst 1, 1) := by decide +kernel
theorem dX5_fewestToTell_10 : decode cX5_fewestToTell 10 = .ok (.iadd, 1) := by decide +kernel
theorem dX5_fewestToTell_11 : decode cX5_fewestToTell 11 = .ok (.istore_n 3, 1) := by decide +kernel
theorem dX5_fewestToTell_12 : decode cX5_fewestToTell 12 = .ok (.iconst 1, 1) := by decide +kernel
theorem dX5_fewestToTell_13 : decode cX5_fewestToTell 13 = .ok (.istore 4, 2) := by decide +kernel
theorem dX5_fewestToTell_15 : decode cX5_fewestToTell 15 = .ok (.iload 4, 2) := by decide +kernel
theorem dX5_fewestToTell_17 : decode cX5_fewestToTell 17 = .ok (.iconst 1, 1) := by decide +kernel
theorem dX5_fewestToTell_18 : decode cX5_fewestToTell 18 = .ok (.aload_n 0, 1) := by decide +kernel
theorem dX5_fewestToTell_19 : decode cX5_fewestToTell 19 = .ok (.getfield 19, 3) := by decide +kernel
theorem dX5_fewestToTell_22 : decode cX5_fewestToTell 22 = .ok (.getfield 84, 3) := by decide +kernel
theorem dX5_fewestToTell_25 : decode cX5_fewestToTell 25 = .ok (.ishl, 1) := by decide +kernel
theorem dX5_fewestToTell_26 : decode cX5_fewestToTell 26 = .ok (.if_icmp .ge 40, 3) := by decide +kernel
theorem dX5_fewestToTell_29 : decode cX5_fewestToTell 29 = .ok (.iload 4, 2) := by decide +kernel
theorem dX5_fewestToTell_31 : decode cX5_fewestToTell 31 = .ok (.invokestatic 153, 3) := by decide +kernel
theorem dX5_fewestToTell_34 : decode cX5_fewestToTell 34 = .ok (.iload_n 3, 1) := by decide +kernel
theorem dX5_fewestToTell_35 : decode cX5_fewestToTell 35 = .ok (.if_icmp .ge 25, 3) := by decide +kernel
theorem dX5_fewestToTell_38 : decode cX5_fewestToTell 38 = .ok (.aload_n 0, 1) := by decide +kernel
theorem dX5_fewestToTell_39 : decode cX5_fewestToTell 39 = .ok (.getfield 38, 3) := by decide +kernel
theorem dX5_fewestToTell_42 : decode cX5_fewestToTell 42 = .ok (.iload 4, 2) := by decide +kernel
theorem dX5_fewestToTell_44 : decode cX5_fewestToTell 44 = .ok (.invokevirtual 110, 3) := by decide +kernel
theorem dX5_fewestToTell_47 : decode cX5_fewestToTell 47 = .ok (.iload_n 1, 1) := by decide +kernel
theorem dX5_fewestToTell_48 : decode cX5_fewestToTell 48 = .ok (.if_icmp .ne 12, 3) := by decide +kernel
theorem dX5_fewestToTell_51 : decode cX5_fewestToTell 51 = .ok (.iload 4, 2) := by decide +kernel
theorem dX5_fewestToTell_53 : decode cX5_fewestToTell 53 = .ok (.istore_n 2, 1) := by decide +kernel
theorem dX5_fewestToTell_54 : decode cX5_fewestToTell 54 = .ok (.iload 4, 2) := by decide +kernel
theorem dX5_fewestToTell_56 : decode cX5_fewestToTell 56 = .ok (.invokestatic 153, 3) := by decide +kernel
theorem dX5_fewestToTell_59 : decode cX5_fewestToTell 59 = .ok (.istore_n 3, 1) := by decide +kernel
theorem dX5_fewestToTell_60 : decode cX5_fewestToTell 60 = .ok (.iinc 4 1, 3) := by decide +kernel
theorem dX5_fewestToTell_63 : decode cX5_fewestToTell 63 = .ok (.goto (-48), 3) := by decide +kernel
theorem dX5_fewestToTell_66 : decode cX5_fewestToTell 66 = .ok (.iload_n 2, 1) := by decide +kernel
theorem dX5_fewestToTell_67 : decode cX5_fewestToTell 67 = .ok (.ireturn, 1) := by decide +kernel
theorem dX5_heard_0 : decode cX5_heard 0 = .ok (.aload_n 0, 1) := by decide +kernel
theorem dX5_heard_1 : decode cX5_heard 1 = .ok (.getfield 19, 3) := by decide +kernel
theorem dX5_heard_4 : decode cX5_heard 4 = .ok (.iload_n 1, 1) := by decide +kernel
theorem dX5_heard_5 : decode cX5_heard 5 = .ok (.invokevirtual 91, 3) := by decide +kernel
theorem dX5_heard_8 : decode cX5_heard 8 = .ok (.ifCond .ne 6, 3) := by decide +kernel
theorem dX5_heard_11 : decode cX5_heard 11 = .ok (.bipush (-101), 2) := by decide +kernel
theorem dX5_heard_13 : decode cX5_heard 13 = .ok (.ireturn, 1) := by decide +kernel
theorem dX5_heard_14 : decode cX5_heard 14 = .ok (.iload_n 2, 1) := by decide +kernel
theorem dX5_heard_15 : decode cX5_heard 15 = .ok (.iconst (-1), 1) := by decide +kernel
theorem dX5_heard_16 : decode cX5_heard 16 = .ok (.if_icmp .eq 16, 3) := by decide +kernel
theorem dX5_heard_19 : decode cX5_heard 19 = .ok (.iload_n 2, 1) := by decide +kernel
theorem dX5_heard_20 : decode cX5_heard 20 = .ok (.ifCond .lt 9, 3) := by decide +kernel
theorem dX5_heard_23 : decode cX5_heard 23 = .ok (.iload_n 2, 1) := by decide +kernel
theorem dX5_heard_24 : decode cX5_heard 24 = .ok (.bipush 9, 2) := by decide +kernel
theorem dX5_heard_26 : decode cX5_heard 26 = .ok (.if_icmp .le 6, 3) := by decide +kernel
theorem dX5_heard_29 : decode cX5_heard 29 = .ok (.bipush (-102), 2) := by decide +kernel
theorem dX5_heard_31 : decode cX5_heard 31 = .ok (.ireturn, 1) := by decide +kernel
theorem dX5_heard_32 : decode cX5_heard 32 = .ok (.aload_n 0, 1) := by decide +kernel
theorem dX5_heard_33 : decode cX5_heard 33 = .ok (.getfield 26, 3) := by decide +kernel
theorem dX5_heard_36 : decode cX5_heard 36 = .ok (.iload_n 1, 1) := by decide +kernel
theorem dX5_heard_37 : decode cX5_heard 37 = .ok (.iload_n 2, 1) := by decide +kernel
theorem dX5_heard_38 : decode cX5_heard 38 = .ok (.invokevirtual 170, 3) := by decide +kernel
theorem dX5_heard_41 : decode cX5_heard 41 = .ok (.ifCond .eq 13, 3) := by decide +kernel
theorem dX5_heard_44 : decode cX5_heard 44 = .ok (.aload_n 0, 1) := by decide +kernel
theorem dX5_heard_45 : decode cX5_heard 45 = .ok (.getfield 26, 3) := by decide +kernel
theorem dX5_heard_48 : decode cX5_heard 48 = .ok (.getfield 173, 3) := by decide +kernel
theorem dX5_heard_51 : decode cX5_heard 51 = .ok (.goto 5, 3) := by decide +kernel
theorem dX5_heard_54 : decode cX5_heard 54 = .ok (.bipush (-104), 2) := by decide +kernel
theorem dX5_heard_56 : decode cX5_heard 56 = .ok (.ireturn, 1) := by decide +kernel
theorem dX5_forget_0 : decode cX5_forget 0 = .ok (.aload_n 0, 1) := by decide +kernel
theorem dX5_forget_1 : decode cX5_forget 1 = .ok (.getfield 26, 3) := by decide +kernel
theorem dX5_forget_4 : decode cX5_forget 4 = .ok (.getfield 173, 3) := by decide +kernel
theorem dX5_forget_7 : decode cX5_forget 7 = .ok (.istore_n 1, 1) := by decide +kernel
theorem dX5_forget_8 : decode cX5_forget 8 = .ok (.aload_n 0, 1) := by decide +kernel
theorem dX5_forget_9 : decode cX5_forget 9 = .ok (.getfield 26, 3) := by decide +kernel
theorem dX5_forget_12 : decode cX5_forget 12 = .ok (.iconst 0, 1) := by decide +kernel
theorem dX5_forget_13 : decode cX5_forget 13 = .ok (.putfield 173, 3) := by decide +kernel
theorem dX5_forget_16 : decode cX5_forget 16 = .ok (.iload_n 1, 1) := by decide +kernel
theorem dX5_forget_17 : decode cX5_forget 17 = .ok (.ireturn, 1) := by decide +kernel
theorem dX5_began_0 : decode cX5_began 0 = .ok (.aload_n 0, 1) := by decide +kernel
theorem dX5_began_1 : decode cX5_began 1 = .ok (.getfield 19, 3) := by decide +kernel
theorem dX5_began_4 : decode cX5_began 4 = .ok (.invokevirtual 144, 3) := by decide +kernel
theorem dX5_began_7 : decode cX5_began 7 = .ok (.ifCond .eq 13, 3) := by decide +kernel
theorem dX5_began_10 : decode cX5_began 10 = .ok (.aload_n 0, 1) := by decide +kernel
theorem dX5_began_11 : decode cX5_began 11 = .ok (.getfield 47, 3) := by decide +kernel
theorem dX5_began_14 : decode cX5_began 14 = .ok (.invokevirtual 176, 3) := by decide +kernel
theorem dX5_began_17 : decode cX5_began 17 = .ok (.goto 5, 3) := by decide +kernel
theorem dX5_began_20 : decode cX5_began 20 = .ok (.bipush (-103), 2) := by decide +kernel
theorem dX5_began_22 : decode cX5_began 22 = .ok (.ireturn, 1) := by decide +kernel
theorem dX5_ask_0 : decode cX5_ask 0 = .ok (.aload_n 0, 1) := by decide +kernel
theorem dX5_ask_1 : decode cX5_ask 1 = .ok (.getfield 19, 3) := by decide +kernel
theorem dX5_ask_4 : decode cX5_ask 4 = .ok (.invokevirtual 144, 3) := by decide +kernel
theorem dX5_ask_7 : decode cX5_ask 7 = .ok (.ifCond .eq 20, 3) := by decide +kernel
theorem dX5_ask_10 : decode cX5_ask 10 = .ok (.aload_n 0, 1) := by decide +kernel
theorem dX5_ask_11 : decode cX5_ask 11 = .ok (.getfield 47, 3) := by decide +kernel
theorem dX5_ask_14 : decode cX5_ask 14 = .ok (.aload_n 0, 1) := by decide +kernel
theorem dX5_ask_15 : decode cX5_ask 15 = .ok (.getfield 47, 3) := by decide +kernel
theorem dX5_ask_18 : decode cX5_ask 18 = .ok (.invokevirtual 176, 3) := by decide +kernel
theorem dX5_ask_21 : decode cX5_ask 21 = .ok (.invokevirtual 179, 3) := by decide +kernel
theorem dX5_ask_24 : decode cX5_ask 24 = .ok (.goto 5, 3) := by decide +kernel
theorem dX5_ask_27 : decode cX5_ask 27 = .ok (.bipush (-103), 2) := by decide +kernel
theorem dX5_ask_29 : decode cX5_ask 29 = .ok (.ireturn, 1) := by decide +kernel
theorem dX5_markets_0 : decode cX5_markets 0 = .ok (.iload_n 1, 1) := by decide +kernel
theorem dX5_markets_1 : decode cX5_markets 1 = .ok (.iconst 1, 1) := by decide +kernel
theorem dX5_markets_2 : decode cX5_markets 2 = .ok (.if_icmp .lt 22, 3) := by decide +kernel
theorem dX5_markets_5 : decode cX5_markets 5 = .ok (.iload_n 1, 1) := by decide +kernel
theorem dX5_markets_6 : decode cX5_markets 6 = .ok (.bipush 60, 2) := by decide +kernel
theorem dX5_markets_8 : decode cX5_markets 8 = .ok (.if_icmp .gt 16, 3) := by decide +kernel
theorem dX5_markets_11 : decode cX5_markets 11 = .ok (.iload_n 2, 1) := by decide +kernel
theorem dX5_markets_12 : decode cX5_markets 12 = .ok (.ifCond .lt 12, 3) := by decide +kernel
theorem dX5_markets_15 : decode cX5_markets 15 = .ok (.iload_n 3, 1) := by decide +kernel
theorem dX5_markets_16 : decode cX5_markets 16 = .ok (.ifCond .lt 8, 3) := by decide +kernel
theorem dX5_markets_19 : decode cX5_markets 19 = .ok (.iload_n 3, 1) := by decide +kernel
theorem dX5_markets_20 : decode cX5_markets 20 = .ok (.iconst 3, 1) := by decide +kernel
theorem dX5_markets_21 : decode cX5_markets 21 = .ok (.if_icmp .lt 6, 3) := by decide +kernel
theorem dX5_markets_24 : decode cX5_markets 24 = .ok (.bipush (-102), 2) := by decide +kernel
theorem dX5_markets_26 : decode cX5_markets 26 = .ok (.ireturn, 1) := by decide +kernel
theorem dX5_markets_27 : decode cX5_markets 27 = .ok (.aload_n 0, 1) := by decide +kernel
theorem dX5_markets_28 : decode cX5_markets 28 = .ok (.getfield 19, 3) := by decide +kernel
theorem dX5_markets_31 : decode cX5_markets 31 = .ok (.getfield 84, 3) := by decide +kernel
theorem dX5_markets_34 : decode cX5_markets 34 = .ok (.istore 4, 2) := by decide +kernel
theorem dX5_markets_36 : decode cX5_markets 36 = .ok (.iload 4, 2) := by decide +kernel
theorem dX5_markets_38 : decode cX5_markets 38 = .ok (.iconst 1, 1) := by decide +kernel
theorem dX5_markets_39 : decode cX5_markets 39 = .ok (.if_icmp .ge 6, 3) := by decide +kernel
theorem dX5_markets_42 : decode cX5_markets 42 = .ok (.bipush (-103), 2) := by decide +kernel
theorem dX5_markets_44 : decode cX5_markets 44 = .ok (.ireturn, 1) := by decide +kernel
theorem dX5_markets_45 : decode cX5_markets 45 = .ok (.iload_n 2, 1) := by decide +kernel
theorem dX5_markets_46 : decode cX5_markets 46 = .ok (.istore 5, 2) := by decide +kernel
theorem dX5_markets_48 : decode cX5_markets 48 = .ok (.iconst 0, 1) := by decide +kernel
theorem dX5_markets_49 : decode cX5_markets 49 = .ok (.istore 6, 2) := by decide +kernel
theorem dX5_markets_51 : decode cX5_markets 51 = .ok (.iconst 0, 1) := by decide +kernel
theorem dX5_markets_52 : decode cX5_markets 52 = .ok (.istore 7, 2) := by decide +kernel
theorem dX5_markets_54 : decode cX5_markets 54 = .ok (.iconst 0, 1) := by decide +kernel
theorem dX5_markets_55 : decode cX5_markets 55 = .ok (.istore 8, 2) := by decide +kernel
theorem dX5_markets_57 : decode cX5_markets 57 = .ok (.iload 8, 2) := by decide +kernel
theorem dX5_markets_59 : decode cX5_markets 59 = .ok (.iload_n 1, 1) := by decide +kernel
theorem dX5_markets_60 : decode cX5_markets 60 = .ok (.if_icmp .ge 51, 3) := by decide +kernel
theorem dX5_markets_63 : decode cX5_markets 63 = .ok (.iload 5, 2) := by decide +kernel
theorem dX5_markets_65 : decode cX5_markets 65 = .ok (.invokestatic 182, 3) := by decide +kernel
theorem dX5_markets_68 : decode cX5_markets 68 = .ok (.istore 5, 2) := by decide +kernel
theorem dX5_markets_70 : decode cX5_markets 70 = .ok (.aload_n 0, 1) := by decide +kernel
theorem dX5_markets_71 : decode cX5_markets 71 = .ok (.getfield 38, 3) := by decide +kernel
theorem dX5_markets_74 : decode cX5_markets 74 = .ok (.iconst 1, 1) := by decide +kernel
theorem dX5_markets_75 : decode cX5_markets 75 = .ok (.iload 5, 2) := by decide +kernel
theorem dX5_markets_77 : decode cX5_markets 77 = .ok (.ldc 185, 2) := by decide +kernel
theorem dX5_markets_79 : decode cX5_markets 79 = .ok (.idiv, 1) := by decide +kernel
theorem dX5_markets_80 : decode cX5_markets 80 = .ok (.iload 4, 2) := by decide +kernel
theorem dX5_markets_82 : decode cX5_markets 82 = .ok (.irem, 1) := by decide +kernel
theorem dX5_markets_83 : decode cX5_markets 83 = .ok (.ishl, 1) := by decide +kernel
theorem dX5_markets_84 : decode cX5_markets 84 = .ok (.invokevirtual 110, 3) := by decide +kernel
theorem dX5_markets_87 : decode cX5_markets 87 = .ok (.istore 9, 2) := by decide +kernel
theorem dX5_markets_89 : decode cX5_markets 89 = .ok (.iload 6, 2) := by decide +kernel
theorem dX5_markets_91 : decode cX5_markets 91 = .ok (.iload 9, 2) := by decide +kernel
theorem dX5_markets_93 : decode cX5_markets 93 = .ok (.iadd, 1) := by decide +kernel
theorem dX5_markets_94 : decode cX5_markets 94 = .ok (.istore 6, 2) := by decide +kernel
theorem dX5_markets_96 : decode cX5_markets 96 = .ok (.iload 7, 2) := by decide +kernel
theorem dX5_markets_98 : decode cX5_markets 98 = .ok (.iload 9, 2) := by decide +kernel
theorem dX5_markets_100 : decode cX5_markets 100 = .ok (.invokestatic 186, 3) := by decide +kernel
theorem dX5_markets_103 : decode cX5_markets 103 = .ok (.istore 7, 2) := by decide +kernel
theorem dX5_markets_105 : decode cX5_markets 105 = .ok (.iinc 8 1, 3) := by decide +kernel
theorem dX5_markets_108 : decode cX5_markets 108 = .ok (.goto (-51), 3) := by decide +kernel
theorem dX5_markets_111 : decode cX5_markets 111 = .ok (.iload_n 3, 1) := by decide +kernel
theorem dX5_markets_112 : decode cX5_markets 112 = .ok (.lookupswitch 34 #[(0, 28), (1, 31)], 28) := by decide +kernel
theorem dX5_markets_140 : decode cX5_markets 140 = .ok (.iload 6, 2) := by decide +kernel
theorem dX5_markets_142 : decode cX5_markets 142 = .ok (.ireturn, 1) := by decide +kernel
theorem dX5_markets_143 : decode cX5_markets 143 = .ok (.iload 7, 2) := by decide +kernel
theorem dX5_markets_145 : decode cX5_markets 145 = .ok (.ireturn, 1) := by decide +kernel
theorem dX5_markets_146 : decode cX5_markets 146 = .ok (.iload 5, 2) := by decide +kernel
theorem dX5_markets_148 : decode cX5_markets 148 = .ok (.ireturn, 1) := by decide +kernel
theorem dX5_seedBehind_0 : decode cX5_seedBehind 0 = .ok (.ldc 191, 2) := by decide +kernel
theorem dX5_seedBehind_2 : decode cX5_seedBehind 2 = .ok (.iload_n 0, 1) := by decide +kernel
theorem dX5_seedBehind_3 : decode cX5_seedBehind 3 = .ok (.imul, 1) := by decide +kernel
theorem dX5_seedBehind_4 : decode cX5_seedBehind 4 = .ok (.sipush 12345, 3) := by decide +kernel
theorem dX5_seedBehind_7 : decode cX5_seedBehind 7 = .ok (.iadd, 1) := by decide +kernel
theorem dX5_seedBehind_8 : decode cX5_seedBehind 8 = .ok (.ldc 192, 2) := by decide +kernel
theorem dX5_seedBehind_10 : decode cX5_seedBehind 10 = .ok (.iand, 1) := by decide +kernel
theorem dX5_seedBehind_11 : decode cX5_seedBehind 11 = .ok (.ireturn, 1) := by decide +kernel
theorem dX5_image_0 : decode cX5_image 0 = .ok (.aload_n 0, 1) := by decide +kernel
theorem dX5_image_1 : decode cX5_image 1 = .ok (.getfield 19, 3) := by decide +kernel
theorem dX5_image_4 : decode cX5_image 4 = .ok (.invokevirtual 144, 3) := by decide +kernel
theorem dX5_image_7 : decode cX5_image 7 = .ok (.ifCond .ne 6, 3) := by decide +kernel
theorem dX5_image_10 : decode cX5_image 10 = .ok (.bipush (-103), 2) := by decide +kernel
theorem dX5_image_12 : decode cX5_image 12 = .ok (.ireturn, 1) := by decide +kernel
theorem dX5_image_13 : decode cX5_image 13 = .ok (.aload_n 0, 1) := by decide +kernel
theorem dX5_image_14 : decode cX5_image 14 = .ok (.getfield 30, 3) := by decide +kernel
theorem dX5_image_17 : decode cX5_image 17 = .ok (.aload_n 0, 1) := by decide +kernel
theorem dX5_image_18 : decode cX5_image 18 = .ok (.getfield 26, 3) := by decide +kernel
theorem dX5_image_21 : decode cX5_image 21 = .ok (.invokevirtual 193, 3) := by decide +kernel
theorem dX5_image_24 : decode cX5_image 24 = .ok (.aload_n 0, 1) := by decide +kernel
theorem dX5_image_25 : decode cX5_image 25 = .ok (.iconst 1, 1) := by decide +kernel
theorem dX5_image_26 : decode cX5_image 26 = .ok (.putfield 51, 3) := by decide +kernel
theorem dX5_image_29 : decode cX5_image 29 = .ok (.aload_n 0, 1) := by decide +kernel
theorem dX5_image_30 : decode cX5_image 30 = .ok (.getfield 30, 3) := by decide +kernel
theorem dX5_image_33 : decode cX5_image 33 = .ok (.getfield 147, 3) := by decide +kernel
theorem dX5_image_36 : decode cX5_image 36 = .ok (.ireturn, 1) := by decide +kernel
theorem dX5_restore_0 : decode cX5_restore 0 = .ok (.aload_n 0, 1) := by decide +kernel
theorem dX5_restore_1 : decode cX5_restore 1 = .ok (.getfield 51, 3) := by decide +kernel
theorem dX5_restore_4 : decode cX5_restore 4 = .ok (.ifCond .ne 6, 3) := by decide +kernel
theorem dX5_restore_7 : decode cX5_restore 7 = .ok (.bipush (-103), 2) := by decide +kernel
theorem dX5_restore_9 : decode cX5_restore 9 = .ok (.ireturn, 1) := by decide +kernel
theorem dX5_restore_10 : decode cX5_restore 10 = .ok (.aload_n 0, 1) := by decide +kernel
theorem dX5_restore_11 : decode cX5_restore 11 = .ok (.getfield 26, 3) := by decide +kernel
theorem dX5_restore_14 : decode cX5_restore 14 = .ok (.aload_n 0, 1) := by decide +kernel
theorem dX5_restore_15 : decode cX5_restore 15 = .ok (.getfield 30, 3) := by decide +kernel
theorem dX5_restore_18 : decode cX5_restore 18 = .ok (.invokevirtual 193, 3) := by decide +kernel
theorem dX5_restore_21 : decode cX5_restore 21 = .ok (.aload_n 0, 1) := by decide +kernel
theorem dX5_restore_22 : decode cX5_restore 22 = .ok (.getfield 26, 3) := by decide +kernel
theorem dX5_restore_25 : decode cX5_restore 25 = .ok (.getfield 147, 3) := by decide +kernel
theorem dX5_restore_28 : decode cX5_restore 28 = .ok (.ireturn, 1) := by decide +kernel
theorem dX5_count_0 : decode cX5_count 0 = .ok (.iload_n 1, 1) := by decide +kernel
theorem dX5_count_1 : decode cX5_count 1 = .ok (.tableswitch 117 0 8 #[51, 59, 67, 75, 80, 88, 96, 104, 112], 51) := by decide +kernel
theorem dX5_count_52 : decode cX5_count 52 = .ok (.aload_n 0, 1) := by decide +kernel
theorem dX5_count_53 : decode cX5_count 53 = .ok (.getfield 19, 3) := by decide +kernel
theorem dX5_count_56 : decode cX5_count 56 = .ok (.getfield 84, 3) := by decide +kernel
theorem dX5_count_59 : decode cX5_count 59 = .ok (.ireturn, 1) := by decide +kernel
theorem dX5_count_60 : decode cX5_count 60 = .ok (.aload_n 0, 1) := by decide +kernel
theorem dX5_count_61 : decode cX5_count 61 = .ok (.getfield 19, 3) := by decide +kernel
theorem dX5_count_64 : decode cX5_count 64 = .ok (.getfield 197, 3) := by decide +kernel
theorem dX5_count_67 : decode cX5_count 67 = .ok (.ireturn, 1) := by decide +kernel
theorem dX5_count_68 : decode cX5_count 68 = .ok (.aload_n 0, 1) := by decide +kernel
theorem dX5_count_69 : decode cX5_count 69 = .ok (.getfield 26, 3) := by decide +kernel
theorem dX5_count_72 : decode cX5_count 72 = .ok (.getfield 147, 3) := by decide +kernel
theorem dX5_count_75 : decode cX5_count 75 = .ok (.ireturn, 1) := by decide +kernel
theorem dX5_count_76 : decode cX5_count 76 = .ok (.aload_n 0, 1) := by decide +kernel
theorem dX5_count_77 : decode cX5_count 77 = .ok (.invokevirtual 200, 3) := by decide +kernel
theorem dX5_count_80 : decode cX5_count 80 = .ok (.ireturn, 1) := by decide +kernel
theorem dX5_count_81 : decode cX5_count 81 = .ok (.aload_n 0, 1) := by decide +kernel
theorem dX5_count_82 : decode cX5_count 82 = .ok (.getfield 26, 3) := by decide +kernel
theorem dX5_count_85 : decode cX5_count 85 = .ok (.invokevirtual 203, 3) := by decide +kernel
theorem dX5_count_88 : decode cX5_count 88 = .ok (.ireturn, 1) := by decide +kernel
theorem dX5_count_89 : decode cX5_count 89 = .ok (.aload_n 0, 1) := by decide +kernel
theorem dX5_count_90 : decode cX5_count 90 = .ok (.getfield 26, 3) := by decide +kernel
theorem dX5_count_93 : decode cX5_count 93 = .ok (.getfield 120, 3) := by decide +kernel
theorem dX5_count_96 : decode cX5_count 96 = .ok (.ireturn, 1) := by decide +kernel
theorem dX5_count_97 : decode cX5_count 97 = .ok (.aload_n 0, 1) := by decide +kernel
theorem dX5_count_98 : decode cX5_count 98 = .ok (.getfield 26, 3) := by decide +kernel
theorem dX5_count_101 : decode cX5_count 101 = .ok (.getfield 173, 3) := by decide +kernel
theorem dX5_count_104 : decode cX5_count 104 = .ok (.ireturn, 1) := by decide +kernel
theorem dX5_count_105 : decode cX5_count 105 = .ok (.aload_n 0, 1) := by decide +kernel
theorem dX5_count_106 : decode cX5_count 106 = .ok (.getfield 10, 3) := by decide +kernel
theorem dX5_count_109 : decode cX5_count 109 = .ok (.getfield 63, 3) := by decide +kernel
theorem dX5_count_112 : decode cX5_count 112 = .ok (.ireturn, 1) := by decide +kernel
theorem dX5_count_113 : decode cX5_count 113 = .ok (.aload_n 0, 1) := by decide +kernel
theorem dX5_count_114 : decode cX5_count 114 = .ok (.getfield 55, 3) := by decide +kernel
theorem dX5_count_117 : decode cX5_count 117 = .ok (.ireturn, 1) := by decide +kernel
theorem dX5_count_118 : decode cX5_count 118 = .ok (.bipush (-102), 2) := by decide +kernel
theorem dX5_count_120 : decode cX5_count 120 = .ok (.ireturn, 1) := by decide +kernel
theorem dX5_lengthOfAll_0 : decode cX5_lengthOfAll 0 = .ok (.iconst 0, 1) := by decide +kernel
theorem dX5_lengthOfAll_1 : decode cX5_lengthOfAll 1 = .ok (.istore_n 1, 1) := by decide +kernel
theorem dX5_lengthOfAll_2 : decode cX5_lengthOfAll 2 = .ok (.iconst 0, 1) := by decide +kernel
theorem dX5_lengthOfAll_3 : decode cX5_lengthOfAll 3 = .ok (.istore_n 2, 1) := by decide +kernel
theorem dX5_lengthOfAll_4 : decode cX5_lengthOfAll 4 = .ok (.iload_n 2, 1) := by decide +kernel
theorem dX5_lengthOfAll_5 : decode cX5_lengthOfAll 5 = .ok (.iconst 3, 1) := by decide +kernel
theorem dX5_lengthOfAll_6 : decode cX5_lengthOfAll 6 = .ok (.if_icmp .ge 17, 3) := by decide +kernel
theorem dX5_lengthOfAll_9 : decode cX5_lengthOfAll 9 = .ok (.iload_n 1, 1) := by decide +kernel
theorem dX5_lengthOfAll_10 : decode cX5_lengthOfAll 10 = .ok (.aload_n 0, 1) := by decide +kernel
theorem dX5_lengthOfAll_11 : decode cX5_lengthOfAll 11 = .ok (.iload_n 2, 1) := by decide +kernel
theorem dX5_lengthOfAll_12 : decode cX5_lengthOfAll 12 = .ok (.invokevirtual 141, 3) := by decide +kernel
theorem dX5_lengthOfAll_15 : decode cX5_lengthOfAll 15 = .ok (.iadd, 1) := by decide +kernel
theorem dX5_lengthOfAll_16 : decode cX5_lengthOfAll 16 = .ok (.istore_n 1, 1) := by decide +kernel
theorem dX5_lengthOfAll_17 : decode cX5_lengthOfAll 17 = .ok (.iinc 2 1, 3) := by decide +kernel
theorem dX5_lengthOfAll_20 : decode cX5_lengthOfAll 20 = .ok (.goto (-16), 3) := by decide +kernel
theorem dX5_lengthOfAll_23 : decode cX5_lengthOfAll 23 = .ok (.iload_n 1, 1) := by decide +kernel
theorem dX5_lengthOfAll_24 : decode cX5_lengthOfAll 24 = .ok (.ireturn, 1) := by decide +kernel
theorem dX5_digest_0 : decode cX5_digest 0 = .ok (.ldc2_w 206, 3) := by decide +kernel
theorem dX5_digest_3 : decode cX5_digest 3 = .ok (.lstore_n 1, 1) := by decide +kernel
theorem dX5_digest_4 : decode cX5_digest 4 = .ok (.aload_n 0, 1) := by decide +kernel
theorem dX5_digest_5 : decode cX5_digest 5 = .ok (.getfield 19, 3) := by decide +kernel
theorem dX5_digest_8 : decode cX5_digest 8 = .ok (.invokevirtual 144, 3) := by decide +kernel
theorem dX5_digest_11 : decode cX5_digest 11 = .ok (.ifCond .eq 85, 3) := by decide +kernel
theorem dX5_digest_14 : decode cX5_digest 14 = .ok (.aload_n 0, 1) := by decide +kernel
theorem dX5_digest_15 : decode cX5_digest 15 = .ok (.lload_n 1, 1) := by decide +kernel
theorem dX5_digest_16 : decode cX5_digest 16 = .ok (.invokevirtual 208, 3) := by decide +kernel
theorem dX5_digest_19 : decode cX5_digest 19 = .ok (.lstore_n 1, 1) := by decide +kernel
theorem dX5_digest_20 : decode cX5_digest 20 = .ok (.aload_n 0, 1) := by decide +kernel
theorem dX5_digest_21 : decode cX5_digest 21 = .ok (.lload_n 1, 1) := by decide +kernel
theorem dX5_digest_22 : decode cX5_digest 22 = .ok (.invokevirtual 212, 3) := by decide +kernel
theorem dX5_digest_25 : decode cX5_digest 25 = .ok (.lstore_n 1, 1) := by decide +kernel
theorem dX5_digest_26 : decode cX5_digest 26 = .ok (.lload_n 1, 1) := by decide +kernel
theorem dX5_digest_27 : decode cX5_digest 27 = .ok (.aload_n 0, 1) := by decide +kernel
theorem dX5_digest_28 : decode cX5_digest 28 = .ok (.iconst 3, 1) := by decide +kernel
theorem dX5_digest_29 : decode cX5_digest 29 = .ok (.iconst 0, 1) := by decide +kernel
theorem dX5_digest_30 : decode cX5_digest 30 = .ok (.invokevirtual 215, 3) := by decide +kernel
theorem dX5_digest_33 : decode cX5_digest 33 = .ok (.i2l, 1) := by decide +kernel
theorem dX5_digest_34 : decode cX5_digest 34 = .ok (.invokestatic 218, 3) := by decide +kernel
theorem dX5_digest_37 : decode cX5_digest 37 = .ok (.lstore_n 1, 1) := by decide +kernel
theorem dX5_digest_38 : decode cX5_digest 38 = .ok (.lload_n 1, 1) := by decide +kernel
theorem dX5_digest_39 : decode cX5_digest 39 = .ok (.aload_n 0, 1) := by decide +kernel
theorem dX5_digest_40 : decode cX5_digest 40 = .ok (.iconst 3, 1) := by decide +kernel
theorem dX5_digest_41 : decode cX5_digest 41 = .ok (.iconst 1, 1) := by decide +kernel
theorem dX5_digest_42 : decode cX5_digest 42 = .ok (.invokevirtual 215, 3) := by decide +kernel
theorem dX5_digest_45 : decode cX5_digest 45 = .ok (.i2l, 1) := by decide +kernel
theorem dX5_digest_46 : decode cX5_digest 46 = .ok (.invokestatic 218, 3) := by decide +kernel
theorem dX5_digest_49 : decode cX5_digest 49 = .ok (.lstore_n 1, 1) := by decide +kernel
theorem dX5_digest_50 : decode cX5_digest 50 = .ok (.lload_n 1, 1) := by decide +kernel
theorem dX5_digest_51 : decode cX5_digest 51 = .ok (.aload_n 0, 1) := by decide +kernel
theorem dX5_digest_52 : decode cX5_digest 52 = .ok (.bipush 7, 2) := by decide +kernel
theorem dX5_digest_54 : decode cX5_digest 54 = .ok (.iconst 0, 1) := by decide +kernel
theorem dX5_digest_55 : decode cX5_digest 55 = .ok (.invokevirtual 215, 3) := by decide +kernel
theorem dX5_digest_58 : decode cX5_digest 58 = .ok (.i2l, 1) := by decide +kernel
theorem dX5_digest_59 : decode cX5_digest 59 = .ok (.invokestatic 218, 3) := by decide +kernel
theorem dX5_digest_62 : decode cX5_digest 62 = .ok (.lstore_n 1, 1) := by decide +kernel
theorem dX5_digest_63 : decode cX5_digest 63 = .ok (.lload_n 1, 1) := by decide +kernel
theorem dX5_digest_64 : decode cX5_digest 64 = .ok (.aload_n 0, 1) := by decide +kernel
theorem dX5_digest_65 : decode cX5_digest 65 = .ok (.bipush 7, 2) := by decide +kernel
theorem dX5_digest_67 : decode cX5_digest 67 = .ok (.iconst 1, 1) := by decide +kernel
theorem dX5_digest_68 : decode cX5_digest 68 = .ok (.invokevirtual 215, 3) := by decide +kernel
theorem dX5_digest_71 : decode cX5_digest 71 = .ok (.i2l, 1) := by decide +kernel
theorem dX5_digest_72 : decode cX5_digest 72 = .ok (.invokestatic 218, 3) := by decide +kernel
theorem dX5_digest_75 : decode cX5_digest 75 = .ok (.lstore_n 1, 1) := by decide +kernel
theorem dX5_digest_76 : decode cX5_digest 76 = .ok (.lload_n 1, 1) := by decide +kernel
theorem dX5_digest_77 : decode cX5_digest 77 = .ok (.aload_n 0, 1) := by decide +kernel
theorem dX5_digest_78 : decode cX5_digest 78 = .ok (.invokevirtual 222, 3) := by decide +kernel
theorem dX5_digest_81 : decode cX5_digest 81 = .ok (.i2l, 1) := by decide +kernel
theorem dX5_digest_82 : decode cX5_digest 82 = .ok (.invokestatic 218, 3) := by decide +kernel
theorem dX5_digest_85 : decode cX5_digest 85 = .ok (.lstore_n 1, 1) := by decide +kernel
theorem dX5_digest_86 : decode cX5_digest 86 = .ok (.lload_n 1, 1) := by decide +kernel
theorem dX5_digest_87 : decode cX5_digest 87 = .ok (.aload_n 0, 1) := by decide +kernel
theorem dX5_digest_88 : decode cX5_digest 88 = .ok (.invokevirtual 225, 3) := by decide +kernel
theorem dX5_digest_91 : decode cX5_digest 91 = .ok (.i2l, 1) := by decide +kernel
theorem dX5_digest_92 : decode cX5_digest 92 = .ok (.invokestatic 218, 3) := by decide +kernel
theorem dX5_digest_95 : decode cX5_digest 95 = .ok (.lstore_n 1, 1) := by decide +kernel
theorem dX5_digest_96 : decode cX5_digest 96 = .ok (.aload_n 0, 1) := by decide +kernel
theorem dX5_digest_97 : decode cX5_digest 97 = .ok (.lload_n 1, 1) := by decide +kernel
theorem dX5_digest_98 : decode cX5_digest 98 = .ok (.invokevirtual 228, 3) := by decide +kernel
theorem dX5_digest_101 : decode cX5_digest 101 = .ok (.lstore_n 1, 1) := by decide +kernel
theorem dX5_digest_102 : decode cX5_digest 102 = .ok (.iconst 0, 1) := by decide +kernel
theorem dX5_digest_103 : decode cX5_digest 103 = .ok (.istore_n 3, 1) := by decide +kernel
theorem dX5_digest_104 : decode cX5_digest 104 = .ok (.iload_n 3, 1) := by decide +kernel
theorem dX5_digest_105 : decode cX5_digest 105 = .ok (.bipush 9, 2) := by decide +kernel
theorem dX5_digest_107 : decode cX5_digest 107 = .ok (.if_icmp .ge 20, 3) := by decide +kernel
theorem dX5_digest_110 : decode cX5_digest 110 = .ok (.lload_n 1, 1) := by decide +kernel
theorem dX5_digest_111 : decode cX5_digest 111 = .ok (.aload_n 0, 1) := by decide +kernel
theorem dX5_digest_112 : decode cX5_digest 112 = .ok (.iload_n 3, 1) := by decide +kernel
theorem dX5_digest_113 : decode cX5_digest 113 = .ok (.invokevirtual 231, 3) := by decide +kernel
theorem dX5_digest_116 : decode cX5_digest 116 = .ok (.i2l, 1) := by decide +kernel
theorem dX5_digest_117 : decode cX5_digest 117 = .ok (.invokestatic 218, 3) := by decide +kernel
theorem dX5_digest_120 : decode cX5_digest 120 = .ok (.lstore_n 1, 1) := by decide +kernel
theorem dX5_digest_121 : decode cX5_digest 121 = .ok (.iinc 3 1, 3) := by decide +kernel
theorem dX5_digest_124 : decode cX5_digest 124 = .ok (.goto (-20), 3) := by decide +kernel
theorem dX5_digest_127 : decode cX5_digest 127 = .ok (.lload_n 1, 1) := by decide +kernel
theorem dX5_digest_128 : decode cX5_digest 128 = .ok (.lreturn, 1) := by decide +kernel
theorem dX5_withPeople_0 : decode cX5_withPeople 0 = .ok (.lload_n 1, 1) := by decide +kernel
theorem dX5_withPeople_1 : decode cX5_withPeople 1 = .ok (.lstore_n 3, 1) := by decide +kernel
theorem dX5_withPeople_2 : decode cX5_withPeople 2 = .ok (.iconst 0, 1) := by decide +kernel
theorem dX5_withPeople_3 : decode cX5_withPeople 3 = .ok (.istore 5, 2) := by decide +kernel
theorem dX5_withPeople_5 : decode cX5_withPeople 5 = .ok (.iload 5, 2) := by decide +kernel
theorem dX5_withPeople_7 : decode cX5_withPeople 7 = .ok (.aload_n 0, 1) := by decide +kernel
theorem dX5_withPeople_8 : decode cX5_withPeople 8 = .ok (.getfield 19, 3) := by decide +kernel
theorem dX5_withPeople_11 : decode cX5_withPeople 11 = .ok (.getfield 84, 3) := by decide +kernel
theorem dX5_withPeople_14 : decode cX5_withPeople 14 = .ok (.if_icmp .ge 39, 3) := by decide +kernel
theorem dX5_withPeople_17 : decode cX5_withPeople 17 = .ok (.iconst 0, 1) := by decide +kernel
theorem dX5_withPeople_18 : decode cX5_withPeople 18 = .ok (.istore 6, 2) := by decide +kernel
theorem dX5_withPeople_20 : decode cX5_withPeople 20 = .ok (.iload 6, 2) := by decide +kernel
theorem dX5_withPeople_22 : decode cX5_withPeople 22 = .ok (.bipush 6, 2) := by decide +kernel
theorem dX5_withPeople_24 : decode cX5_withPeople 24 = .ok (.if_icmp .ge 23, 3) := by decide +kernel
theorem dX5_withPeople_27 : decode cX5_withPeople 27 = .ok (.lload_n 3, 1) := by decide +kernel
theorem dX5_withPeople_28 : decode cX5_withPeople 28 = .ok (.aload_n 0, 1) := by decide +kernel
theorem dX5_withPeople_29 : decode cX5_withPeople 29 = .ok (.iload 5, 2) := by decide +kernel
theorem dX5_withPeople_31 : decode cX5_withPeople 31 = .ok (.iload 6, 2) := by decide +kernel
theorem dX5_withPeople_33 : decode cX5_withPeople 33 = .ok (.invokevirtual 234, 3) := by decide +kernel
theorem dX5_withPeople_36 : decode cX5_withPeople 36 = .ok (.i2l, 1) := by decide +kernel
theorem dX5_withPeople_37 : decode cX5_withPeople 37 = .ok (.invokestatic 218, 3) := by decide +kernel
theorem dX5_withPeople_40 : decode cX5_withPeople 40 = .ok (.lstore_n 3, 1) := by decide +kernel
theorem dX5_withPeople_41 : decode cX5_withPeople 41 = .ok (.iinc 6 1, 3) := by decide +kernel
theorem dX5_withPeople_44 : decode cX5_withPeople 44 = .ok (.goto (-24), 3) := by decide +kernel
theorem dX5_withPeople_47 : decode cX5_withPeople 47 = .ok (.iinc 5 1, 3) := by decide +kernel
theorem dX5_withPeople_50 : decode cX5_withPeople 50 = .ok (.goto (-45), 3) := by decide +kernel
theorem dX5_withPeople_53 : decode cX5_withPeople 53 = .ok (.lload_n 3, 1) := by decide +kernel
theorem dX5_withPeople_54 : decode cX5_withPeople 54 = .ok (.lreturn, 1) := by decide +kernel
theorem dX5_withTunnels_0 : decode cX5_withTunnels 0 = .ok (.lload_n 1, 1) := by decide +kernel
theorem dX5_withTunnels_1 : decode cX5_withTunnels 1 = .ok (.lstore_n 3, 1) := by decide +kernel
theorem dX5_withTunnels_2 : decode cX5_withTunnels 2 = .ok (.iconst 0, 1) := by decide +kernel
theorem dX5_withTunnels_3 : decode cX5_withTunnels 3 = .ok (.istore 5, 2) := by decide +kernel
theorem dX5_withTunnels_5 : decode cX5_withTunnels 5 = .ok (.iload 5, 2) := by decide +kernel
theorem dX5_withTunnels_7 : decode cX5_withTunnels 7 = .ok (.iconst 3, 1) := by decide +kernel
theorem dX5_withTunnels_8 : decode cX5_withTunnels 8 = .ok (.if_icmp .ge 38, 3) := by decide +kernel
theorem dX5_withTunnels_11 : decode cX5_withTunnels 11 = .ok (.iconst 0, 1) := by decide +kernel
theorem dX5_withTunnels_12 : decode cX5_withTunnels 12 = .ok (.istore 6, 2) := by decide +kernel
theorem dX5_withTunnels_14 : decode cX5_withTunnels 14 = .ok (.iload 6, 2) := by decide +kernel
theorem dX5_withTunnels_16 : decode cX5_withTunnels 16 = .ok (.iconst 5, 1) := by decide +kernel
theorem dX5_withTunnels_17 : decode cX5_withTunnels 17 = .ok (.if_icmp .ge 23, 3) := by decide +kernel
theorem dX5_withTunnels_20 : decode cX5_withTunnels 20 = .ok (.lload_n 3, 1) := by decide +kernel
theorem dX5_withTunnels_21 : decode cX5_withTunnels 21 = .ok (.aload_n 0, 1) := by decide +kernel
theorem dX5_withTunnels_22 : decode cX5_withTunnels 22 = .ok (.iload 5, 2) := by decide +kernel
theorem dX5_withTunnels_24 : decode cX5_withTunnels 24 = .ok (.iload 6, 2) := by decide +kernel
theorem dX5_withTunnels_26 : decode cX5_withTunnels 26 = .ok (.invokevirtual 237, 3) := by decide +kernel
theorem dX5_withTunnels_29 : decode cX5_withTunnels 29 = .ok (.i2l, 1) := by decide +kernel
theorem dX5_withTunnels_30 : decode cX5_withTunnels 30 = .ok (.invokestatic 218, 3) := by decide +kernel
theorem dX5_withTunnels_33 : decode cX5_withTunnels 33 = .ok (.lstore_n 3, 1) := by decide +kernel
theorem dX5_withTunnels_34 : decode cX5_withTunnels 34 = .ok (.iinc 6 1, 3) := by decide +kernel
theorem dX5_withTunnels_37 : decode cX5_withTunnels 37 = .ok (.goto (-23), 3) := by decide +kernel
theorem dX5_withTunnels_40 : decode cX5_withTunnels 40 = .ok (.iinc 5 1, 3) := by decide +kernel
theorem dX5_withTunnels_43 : decode cX5_withTunnels 43 = .ok (.goto (-38), 3) := by decide +kernel
theorem dX5_withTunnels_46 : decode cX5_withTunnels 46 = .ok (.lload_n 3, 1) := by decide +kernel
theorem dX5_withTunnels_47 : decode cX5_withTunnels 47 = .ok (.lreturn, 1) := by decide +kernel
theorem dX5_withLetters_0 : decode cX5_withLetters 0 = .ok (.lload_n 1, 1) := by decide +kernel
theorem dX5_withLetters_1 : decode cX5_withLetters 1 = .ok (.lstore_n 3, 1) := by decide +kernel
theorem dX5_withLetters_2 : decode cX5_withLetters 2 = .ok (.iconst 0, 1) := by decide +kernel
theorem dX5_withLetters_3 : decode cX5_withLetters 3 = .ok (.istore 5, 2) := by decide +kernel
theorem dX5_withLetters_5 : decode cX5_withLetters 5 = .ok (.iload 5, 2) := by decide +kernel
theorem dX5_withLetters_7 : decode cX5_withLetters 7 = .ok (.aload_n 0, 1) := by decide +kernel
theorem dX5_withLetters_8 : decode cX5_withLetters 8 = .ok (.getfield 10, 3) := by decide +kernel
theorem dX5_withLetters_11 : decode cX5_withLetters 11 = .ok (.getfield 63, 3) := by decide +kernel
theorem dX5_withLetters_14 : decode cX5_withLetters 14 = .ok (.if_icmp .ge 24, 3) := by decide +kernel
theorem dX5_withLetters_17 : decode cX5_withLetters 17 = .ok (.lload_n 3, 1) := by decide +kernel
theorem dX5_withLetters_18 : decode cX5_withLetters 18 = .ok (.aload_n 0, 1) := by decide +kernel
theorem dX5_withLetters_19 : decode cX5_withLetters 19 = .ok (.getfield 10, 3) := by decide +kernel
theorem dX5_withLetters_22 : decode cX5_withLetters 22 = .ok (.iload 5, 2) := by decide +kernel
theorem dX5_withLetters_24 : decode cX5_withLetters 24 = .ok (.invokevirtual 240, 3) := by decide +kernel
theorem dX5_withLetters_27 : decode cX5_withLetters 27 = .ok (.i2l, 1) := by decide +kernel
theorem dX5_withLetters_28 : decode cX5_withLetters 28 = .ok (.invokestatic 218, 3) := by decide +kernel
theorem dX5_withLetters_31 : decode cX5_withLetters 31 = .ok (.lstore_n 3, 1) := by decide +kernel
theorem dX5_withLetters_32 : decode cX5_withLetters 32 = .ok (.iinc 5 1, 3) := by decide +kernel
theorem dX5_withLetters_35 : decode cX5_withLetters 35 = .ok (.goto (-30), 3) := by decide +kernel
theorem dX5_withLetters_38 : decode cX5_withLetters 38 = .ok (.lload_n 3, 1) := by decide +kernel
theorem dX5_withLetters_39 : decode cX5_withLetters 39 = .ok (.lreturn, 1) := by decide +kernel
theorem dX5_mixed_0 : decode cX5_mixed 0 = .ok (.ldc2_w 243, 3) := by decide +kernel
theorem dX5_mixed_3 : decode cX5_mixed 3 = .ok (.lload_n 0, 1) := by decide +kernel
theorem dX5_mixed_4 : decode cX5_mixed 4 = .ok (.lmul, 1) := by decide +kernel
theorem dX5_mixed_5 : decode cX5_mixed 5 = .ok (.lload_n 2, 1) := by decide +kernel
theorem dX5_mixed_6 : decode cX5_mixed 6 = .ok (.ladd, 1) := by decide +kernel
theorem dX5_mixed_7 : decode cX5_mixed 7 = .ok (.lreturn, 1) := by decide +kernel
theorem dX5_isOfKind_0 : decode cX5_isOfKind 0 = .ok (.iload_n 1, 1) := by decide +kernel
theorem dX5_isOfKind_1 : decode cX5_isOfKind 1 = .ok (.ifCond .eq 18, 3) := by decide +kernel
theorem dX5_isOfKind_4 : decode cX5_isOfKind 4 = .ok (.iload_n 1, 1) := by decide +kernel
theorem dX5_isOfKind_5 : decode cX5_isOfKind 5 = .ok (.iload_n 0, 1) := by decide +kernel
theorem dX5_isOfKind_6 : decode cX5_isOfKind 6 = .ok (.if_icmp .eq 13, 3) := by decide +kernel
theorem dX5_isOfKind_9 : decode cX5_isOfKind 9 = .ok (.iload_n 1, 1) := by decide +kernel
theorem dX5_isOfKind_10 : decode cX5_isOfKind 10 = .ok (.iconst 2, 1) := by decide +kernel
theorem dX5_isOfKind_11 : decode cX5_isOfKind 11 = .ok (.if_icmp .ne 12, 3) := by decide +kernel
theorem dX5_isOfKind_14 : decode cX5_isOfKind 14 = .ok (.iload_n 0, 1) := by decide +kernel
theorem dX5_isOfKind_15 : decode cX5_isOfKind 15 = .ok (.iconst 4, 1) := by decide +kernel
theorem dX5_isOfKind_16 : decode cX5_isOfKind 16 = .ok (.if_icmp .ne 7, 3) := by decide +kernel
theorem dX5_isOfKind_19 : decode cX5_isOfKind 19 = .ok (.iconst 1, 1) := by decide +kernel
theorem dX5_isOfKind_20 : decode cX5_isOfKind 20 = .ok (.goto 4, 3) := by decide +kernel
theorem dX5_isOfKind_23 : decode cX5_isOfKind 23 = .ok (.iconst 0, 1) := by decide +kernel
theorem dX5_isOfKind_24 : decode cX5_isOfKind 24 = .ok (.ireturn, 1) := by decide +kernel
theorem dX5_isIn_0 : decode cX5_isIn 0 = .ok (.iload_n 1, 1) := by decide +kernel
theorem dX5_isIn_1 : decode cX5_isIn 1 = .ok (.iload_n 0, 1) := by decide +kernel
theorem dX5_isIn_2 : decode cX5_isIn 2 = .ok (.ishr, 1) := by decide +kernel
theorem dX5_isIn_3 : decode cX5_isIn 3 = .ok (.iconst 1, 1) := by decide +kernel
theorem dX5_isIn_4 : decode cX5_isIn 4 = .ok (.iand, 1) := by decide +kernel
theorem dX5_isIn_5 : decode cX5_isIn 5 = .ok (.ifCond .eq 7, 3) := by decide +kernel
theorem dX5_isIn_8 : decode cX5_isIn 8 = .ok (.iconst 1, 1) := by decide +kernel
theorem dX5_isIn_9 : decode cX5_isIn 9 = .ok (.goto 4, 3) := by decide +kernel
theorem dX5_isIn_12 : decode cX5_isIn 12 = .ok (.iconst 0, 1) := by decide +kernel
theorem dX5_isIn_13 : decode cX5_isIn 13 = .ok (.ireturn, 1) := by decide +kernel
