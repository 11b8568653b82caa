theorem dX0_init_0 : decode cX0_init 0 = .ok (.aload_n 0, 1) := by decide +kernel
theorem dX0_init_1 : decode cX0_init 1 = .ok (.invokespecial 3, 3) := by decide +kernel
theorem dX0_init_4 : decode cX0_init 4 = .ok (.aload_n 0, 1) := by decide +kernel
theorem dX0_init_5 : decode cX0_init 5 = .ok (.sipush 289, 3) := by decide +kernel
theorem dX0_init_8 : decode cX0_init 8 = .ok (.newarray .int, 2) := by decide +kernel
theorem dX0_init_10 : decode cX0_init 10 = .ok (.putfield 9, 3) := by decide +kernel
theorem dX0_init_13 : decode cX0_init 13 = .ok (.aload_n 0, 1) := by decide +kernel
theorem dX0_init_14 : decode cX0_init 14 = .ok (.iconst (-1), 1) := by decide +kernel
theorem dX0_init_15 : decode cX0_init 15 = .ok (.putfield 15, 3) := by decide +kernel
theorem dX0_init_18 : decode cX0_init 18 = .ok (.aload_n 0, 1) := by decide +kernel
theorem dX0_init_19 : decode cX0_init 19 = .ok (.iconst (-1), 1) := by decide +kernel
theorem dX0_init_20 : decode cX0_init 20 = .ok (.putfield 19, 3) := by decide +kernel
theorem dX0_init_23 : decode cX0_init 23 = .ok (.aload_n 0, 1) := by decide +kernel
theorem dX0_init_24 : decode cX0_init 24 = .ok (.invokevirtual 22, 3) := by decide +kernel
theorem dX0_init_27 : decode cX0_init 27 = .ok (.return_, 1) := by decide +kernel
theorem dX0_clear_0 : decode cX0_clear 0 = .ok (.aload_n 0, 1) := by decide +kernel
theorem dX0_clear_1 : decode cX0_clear 1 = .ok (.getfield 9, 3) := by decide +kernel
theorem dX0_clear_4 : decode cX0_clear 4 = .ok (.iconst (-1), 1) := by decide +kernel
theorem dX0_clear_5 : decode cX0_clear 5 = .ok (.invokestatic 25, 3) := by decide +kernel
theorem dX0_clear_8 : decode cX0_clear 8 = .ok (.iconst 0, 1) := by decide +kernel
theorem dX0_clear_9 : decode cX0_clear 9 = .ok (.istore_n 1, 1) := by decide +kernel
theorem dX0_clear_10 : decode cX0_clear 10 = .ok (.iload_n 1, 1) := by decide +kernel
theorem dX0_clear_11 : decode cX0_clear 11 = .ok (.bipush 91, 2) := by decide +kernel
theorem dX0_clear_13 : decode cX0_clear 13 = .ok (.if_icmp .ge 34, 3) := by decide +kernel
theorem dX0_clear_16 : decode cX0_clear 16 = .ok (.iload_n 1, 1) := by decide +kernel
theorem dX0_clear_17 : decode cX0_clear 17 = .ok (.invokestatic 31, 3) := by decide +kernel
theorem dX0_clear_20 : decode cX0_clear 20 = .ok (.istore_n 2, 1) := by decide +kernel
theorem dX0_clear_21 : decode cX0_clear 21 = .ok (.iload_n 2, 1) := by decide +kernel
theorem dX0_clear_22 : decode cX0_clear 22 = .ok (.ifCond .lt 19, 3) := by decide +kernel
theorem dX0_clear_25 : decode cX0_clear 25 = .ok (.iload_n 2, 1) := by decide +kernel
theorem dX0_clear_26 : decode cX0_clear 26 = .ok (.aload_n 0, 1) := by decide +kernel
theorem dX0_clear_27 : decode cX0_clear 27 = .ok (.getfield 9, 3) := by decide +kernel
theorem dX0_clear_30 : decode cX0_clear 30 = .ok (.arraylength, 1) := by decide +kernel
theorem dX0_clear_31 : decode cX0_clear 31 = .ok (.if_icmp .ge 10, 3) := by decide +kernel
theorem dX0_clear_34 : decode cX0_clear 34 = .ok (.aload_n 0, 1) := by decide +kernel
theorem dX0_clear_35 : decode cX0_clear 35 = .ok (.getfield 9, 3) := by decide +kernel
theorem dX0_clear_38 : decode cX0_clear 38 = .ok (.iload_n 2, 1) := by decide +kernel
theorem dX0_clear_39 : decode cX0_clear 39 = .ok (.iconst 0, 1) := by decide +kernel
theorem dX0_clear_40 : decode cX0_clear 40 = .ok (.iastore, 1) := by decide +kernel
theorem dX0_clear_41 : decode cX0_clear 41 = .ok (.iinc 1 1, 3) := by decide +kernel
theorem dX0_clear_44 : decode cX0_clear 44 = .ok (.goto (-34), 3) := by decide +kernel
theorem dX0_clear_47 : decode cX0_clear 47 = .ok (.aload_n 0, 1) := by decide +kernel
theorem dX0_clear_48 : decode cX0_clear 48 = .ok (.iconst (-1), 1) := by decide +kernel
theorem dX0_clear_49 : decode cX0_clear 49 = .ok (.putfield 15, 3) := by decide +kernel
theorem dX0_clear_52 : decode cX0_clear 52 = .ok (.aload_n 0, 1) := by decide +kernel
theorem dX0_clear_53 : decode cX0_clear 53 = .ok (.iconst (-1), 1) := by decide +kernel
theorem dX0_clear_54 : decode cX0_clear 54 = .ok (.putfield 19, 3) := by decide +kernel
theorem dX0_clear_57 : decode cX0_clear 57 = .ok (.return_, 1) := by decide +kernel
theorem dX0_on_0 : decode cX0_on 0 = .ok (.iload_n 1, 1) := by decide +kernel
theorem dX0_on_1 : decode cX0_on 1 = .ok (.ifCond .lt 21, 3) := by decide +kernel
theorem dX0_on_4 : decode cX0_on 4 = .ok (.iload_n 1, 1) := by decide +kernel
theorem dX0_on_5 : decode cX0_on 5 = .ok (.aload_n 0, 1) := by decide +kernel
theorem dX0_on_6 : decode cX0_on 6 = .ok (.getfield 9, 3) := by decide +kernel
theorem dX0_on_9 : decode cX0_on 9 = .ok (.arraylength, 1) := by decide +kernel
theorem dX0_on_10 : decode cX0_on 10 = .ok (.if_icmp .ge 12, 3) := by decide +kernel
theorem dX0_on_13 : decode cX0_on 13 = .ok (.aload_n 0, 1) := by decide +kernel
theorem dX0_on_14 : decode cX0_on 14 = .ok (.getfield 9, 3) := by decide +kernel
theorem dX0_on_17 : decode cX0_on 17 = .ok (.iload_n 1, 1) := by decide +kernel
theorem dX0_on_18 : decode cX0_on 18 = .ok (.iaload, 1) := by decide +kernel
theorem dX0_on_19 : decode cX0_on 19 = .ok (.goto 4, 3) := by decide +kernel
theorem dX0_on_22 : decode cX0_on 22 = .ok (.iconst (-1), 1) := by decide +kernel
theorem dX0_on_23 : decode cX0_on 23 = .ok (.ireturn, 1) := by decide +kernel
theorem dX0_set_0 : decode cX0_set 0 = .ok (.iload_n 1, 1) := by decide +kernel
theorem dX0_set_1 : decode cX0_set 1 = .ok (.ifCond .lt 22, 3) := by decide +kernel
theorem dX0_set_4 : decode cX0_set 4 = .ok (.iload_n 1, 1) := by decide +kernel
theorem dX0_set_5 : decode cX0_set 5 = .ok (.aload_n 0, 1) := by decide +kernel
theorem dX0_set_6 : decode cX0_set 6 = .ok (.getfield 9, 3) := by decide +kernel
theorem dX0_set_9 : decode cX0_set 9 = .ok (.arraylength, 1) := by decide +kernel
theorem dX0_set_10 : decode cX0_set 10 = .ok (.if_icmp .ge 13, 3) := by decide +kernel
theorem dX0_set_13 : decode cX0_set 13 = .ok (.aload_n 0, 1) := by decide +kernel
theorem dX0_set_14 : decode cX0_set 14 = .ok (.getfield 9, 3) := by decide +kernel
theorem dX0_set_17 : decode cX0_set 17 = .ok (.iload_n 1, 1) := by decide +kernel
theorem dX0_set_18 : decode cX0_set 18 = .ok (.iaload, 1) := by decide +kernel
theorem dX0_set_19 : decode cX0_set 19 = .ok (.iconst (-1), 1) := by decide +kernel
theorem dX0_set_20 : decode cX0_set 20 = .ok (.if_icmp .ne 4, 3) := by decide +kernel
theorem dX0_set_23 : decode cX0_set 23 = .ok (.return_, 1) := by decide +kernel
theorem dX0_set_24 : decode cX0_set 24 = .ok (.aload_n 0, 1) := by decide +kernel
theorem dX0_set_25 : decode cX0_set 25 = .ok (.getfield 9, 3) := by decide +kernel
theorem dX0_set_28 : decode cX0_set 28 = .ok (.iload_n 1, 1) := by decide +kernel
theorem dX0_set_29 : decode cX0_set 29 = .ok (.iload_n 2, 1) := by decide +kernel
theorem dX0_set_30 : decode cX0_set 30 = .ok (.iastore, 1) := by decide +kernel
theorem dX0_set_31 : decode cX0_set 31 = .ok (.iload_n 1, 1) := by decide +kernel
theorem dX0_set_32 : decode cX0_set 32 = .ok (.aload_n 0, 1) := by decide +kernel
theorem dX0_set_33 : decode cX0_set 33 = .ok (.getfield 15, 3) := by decide +kernel
theorem dX0_set_36 : decode cX0_set 36 = .ok (.if_icmp .ne 8, 3) := by decide +kernel
theorem dX0_set_39 : decode cX0_set 39 = .ok (.aload_n 0, 1) := by decide +kernel
theorem dX0_set_40 : decode cX0_set 40 = .ok (.iconst (-1), 1) := by decide +kernel
theorem dX0_set_41 : decode cX0_set 41 = .ok (.putfield 15, 3) := by decide +kernel
theorem dX0_set_44 : decode cX0_set 44 = .ok (.iload_n 1, 1) := by decide +kernel
theorem dX0_set_45 : decode cX0_set 45 = .ok (.aload_n 0, 1) := by decide +kernel
theorem dX0_set_46 : decode cX0_set 46 = .ok (.getfield 19, 3) := by decide +kernel
theorem dX0_set_49 : decode cX0_set 49 = .ok (.if_icmp .ne 8, 3) := by decide +kernel
theorem dX0_set_52 : decode cX0_set 52 = .ok (.aload_n 0, 1) := by decide +kernel
theorem dX0_set_53 : decode cX0_set 53 = .ok (.iconst (-1), 1) := by decide +kernel
theorem dX0_set_54 : decode cX0_set 54 = .ok (.putfield 19, 3) := by decide +kernel
theorem dX0_set_57 : decode cX0_set 57 = .ok (.iload_n 2, 1) := by decide +kernel
theorem dX0_set_58 : decode cX0_set 58 = .ok (.iconst 1, 1) := by decide +kernel
theorem dX0_set_59 : decode cX0_set 59 = .ok (.if_icmp .ne 8, 3) := by decide +kernel
theorem dX0_set_62 : decode cX0_set 62 = .ok (.aload_n 0, 1) := by decide +kernel
theorem dX0_set_63 : decode cX0_set 63 = .ok (.iload_n 1, 1) := by decide +kernel
theorem dX0_set_64 : decode cX0_set 64 = .ok (.putfield 15, 3) := by decide +kernel
theorem dX0_set_67 : decode cX0_set 67 = .ok (.iload_n 2, 1) := by decide +kernel
theorem dX0_set_68 : decode cX0_set 68 = .ok (.bipush 9, 2) := by decide +kernel
theorem dX0_set_70 : decode cX0_set 70 = .ok (.if_icmp .ne 8, 3) := by decide +kernel
theorem dX0_set_73 : decode cX0_set 73 = .ok (.aload_n 0, 1) := by decide +kernel
theorem dX0_set_74 : decode cX0_set 74 = .ok (.iload_n 1, 1) := by decide +kernel
theorem dX0_set_75 : decode cX0_set 75 = .ok (.putfield 19, 3) := by decide +kernel
theorem dX0_set_78 : decode cX0_set 78 = .ok (.return_, 1) := by decide +kernel
theorem dX0_kingOf_0 : decode cX0_kingOf 0 = .ok (.iload_n 1, 1) := by decide +kernel
theorem dX0_kingOf_1 : decode cX0_kingOf 1 = .ok (.ifCond .ne 10, 3) := by decide +kernel
theorem dX0_kingOf_4 : decode cX0_kingOf 4 = .ok (.aload_n 0, 1) := by decide +kernel
theorem dX0_kingOf_5 : decode cX0_kingOf 5 = .ok (.getfield 15, 3) := by decide +kernel
theorem dX0_kingOf_8 : decode cX0_kingOf 8 = .ok (.goto 7, 3) := by decide +kernel
theorem dX0_kingOf_11 : decode cX0_kingOf 11 = .ok (.aload_n 0, 1) := by decide +kernel
theorem dX0_kingOf_12 : decode cX0_kingOf 12 = .ok (.getfield 19, 3) := by decide +kernel
theorem dX0_kingOf_15 : decode cX0_kingOf 15 = .ok (.ireturn, 1) := by decide +kernel
theorem dX0_firstTaken_0 : decode cX0_firstTaken 0 = .ok (.iload_n 1, 1) := by decide +kernel
theorem dX0_firstTaken_1 : decode cX0_firstTaken 1 = .ok (.iload_n 2, 1) := by decide +kernel
theorem dX0_firstTaken_2 : decode cX0_firstTaken 2 = .ok (.iadd, 1) := by decide +kernel
theorem dX0_firstTaken_3 : decode cX0_firstTaken 3 = .ok (.istore_n 3, 1) := by decide +kernel
theorem dX0_firstTaken_4 : decode cX0_firstTaken 4 = .ok (.iconst 0, 1) := by decide +kernel
theorem dX0_firstTaken_5 : decode cX0_firstTaken 5 = .ok (.istore 4, 2) := by decide +kernel
theorem dX0_firstTaken_7 : decode cX0_firstTaken 7 = .ok (.iload 4, 2) := by decide +kernel
theorem dX0_firstTaken_9 : decode cX0_firstTaken 9 = .ok (.bipush 17, 2) := by decide +kernel
theorem dX0_firstTaken_11 : decode cX0_firstTaken 11 = .ok (.if_icmp .ge 38, 3) := by decide +kernel
theorem dX0_firstTaken_14 : decode cX0_firstTaken 14 = .ok (.iload_n 3, 1) := by decide +kernel
theorem dX0_firstTaken_15 : decode cX0_firstTaken 15 = .ok (.ifCond .lt 34, 3) := by decide +kernel
theorem dX0_firstTaken_18 : decode cX0_firstTaken 18 = .ok (.iload_n 3, 1) := by decide +kernel
theorem dX0_firstTaken_19 : decode cX0_firstTaken 19 = .ok (.aload_n 0, 1) := by decide +kernel
theorem dX0_firstTaken_20 : decode cX0_firstTaken 20 = .ok (.getfield 9, 3) := by decide +kernel
theorem dX0_firstTaken_23 : decode cX0_firstTaken 23 = .ok (.arraylength, 1) := by decide +kernel
theorem dX0_firstTaken_24 : decode cX0_firstTaken 24 = .ok (.if_icmp .ge 25, 3) := by decide +kernel
theorem dX0_firstTaken_27 : decode cX0_firstTaken 27 = .ok (.aload_n 0, 1) := by decide +kernel
theorem dX0_firstTaken_28 : decode cX0_firstTaken 28 = .ok (.getfield 9, 3) := by decide +kernel
theorem dX0_firstTaken_31 : decode cX0_firstTaken 31 = .ok (.iload_n 3, 1) := by decide +kernel
theorem dX0_firstTaken_32 : decode cX0_firstTaken 32 = .ok (.iaload, 1) := by decide +kernel
theorem dX0_firstTaken_33 : decode cX0_firstTaken 33 = .ok (.ifCond .eq 6, 3) := by decide +kernel
theorem dX0_firstTaken_36 : decode cX0_firstTaken 36 = .ok (.goto 13, 3) := by decide +kernel
theorem dX0_firstTaken_39 : decode cX0_firstTaken 39 = .ok (.iload_n 3, 1) := by decide +kernel
theorem dX0_firstTaken_40 : decode cX0_firstTaken 40 = .ok (.iload_n 2, 1) := by decide +kernel
theorem dX0_firstTaken_41 : decode cX0_firstTaken 41 = .ok (.iadd, 1) := by decide +kernel
theorem dX0_firstTaken_42 : decode cX0_firstTaken 42 = .ok (.istore_n 3, 1) := by decide +kernel
theorem dX0_firstTaken_43 : decode cX0_firstTaken 43 = .ok (.iinc 4 1, 3) := by decide +kernel
theorem dX0_firstTaken_46 : decode cX0_firstTaken 46 = .ok (.goto (-39), 3) := by decide +kernel
theorem dX0_firstTaken_49 : decode cX0_firstTaken 49 = .ok (.iload_n 3, 1) := by decide +kernel
theorem dX0_firstTaken_50 : decode cX0_firstTaken 50 = .ok (.ireturn, 1) := by decide +kernel
theorem dX0_attackers_0 : decode cX0_attackers 0 = .ok (.iconst 0, 1) := by decide +kernel
theorem dX0_attackers_1 : decode cX0_attackers 1 = .ok (.istore_n 3, 1) := by decide +kernel
theorem dX0_attackers_2 : decode cX0_attackers 2 = .ok (.iconst 0, 1) := by decide +kernel
theorem dX0_attackers_3 : decode cX0_attackers 3 = .ok (.istore 4, 2) := by decide +kernel
theorem dX0_attackers_5 : decode cX0_attackers 5 = .ok (.iload 4, 2) := by decide +kernel
theorem dX0_attackers_7 : decode cX0_attackers 7 = .ok (.getstatic 35, 3) := by decide +kernel
theorem dX0_attackers_10 : decode cX0_attackers 10 = .ok (.arraylength, 1) := by decide +kernel
theorem dX0_attackers_11 : decode cX0_attackers 11 = .ok (.if_icmp .ge 73, 3) := by decide +kernel
theorem dX0_attackers_14 : decode cX0_attackers 14 = .ok (.aload_n 0, 1) := by decide +kernel
theorem dX0_attackers_15 : decode cX0_attackers 15 = .ok (.iload_n 1, 1) := by decide +kernel
theorem dX0_attackers_16 : decode cX0_attackers 16 = .ok (.getstatic 35, 3) := by decide +kernel
theorem dX0_attackers_19 : decode cX0_attackers 19 = .ok (.iload 4, 2) := by decide +kernel
theorem dX0_attackers_21 : decode cX0_attackers 21 = .ok (.iaload, 1) := by decide +kernel
theorem dX0_attackers_22 : decode cX0_attackers 22 = .ok (.invokevirtual 38, 3) := by decide +kernel
theorem dX0_attackers_25 : decode cX0_attackers 25 = .ok (.istore 5, 2) := by decide +kernel
theorem dX0_attackers_27 : decode cX0_attackers 27 = .ok (.aload_n 0, 1) := by decide +kernel
theorem dX0_attackers_28 : decode cX0_attackers 28 = .ok (.iload 5, 2) := by decide +kernel
theorem dX0_attackers_30 : decode cX0_attackers 30 = .ok (.invokevirtual 42, 3) := by decide +kernel
theorem dX0_attackers_33 : decode cX0_attackers 33 = .ok (.istore 6, 2) := by decide +kernel
theorem dX0_attackers_35 : decode cX0_attackers 35 = .ok (.iload 6, 2) := by decide +kernel
theorem dX0_attackers_37 : decode cX0_attackers 37 = .ok (.invokestatic 45, 3) := by decide +kernel
theorem dX0_attackers_40 : decode cX0_attackers 40 = .ok (.iload_n 2, 1) := by decide +kernel
theorem dX0_attackers_41 : decode cX0_attackers 41 = .ok (.if_icmp .ne 37, 3) := by decide +kernel
theorem dX0_attackers_44 : decode cX0_attackers 44 = .ok (.iload 6, 2) := by decide +kernel
theorem dX0_attackers_46 : decode cX0_attackers 46 = .ok (.invokestatic 48, 3) := by decide +kernel
theorem dX0_attackers_49 : decode cX0_attackers 49 = .ok (.iload 4, 2) := by decide +kernel
theorem dX0_attackers_51 : decode cX0_attackers 51 = .ok (.iload 5, 2) := by decide +kernel
theorem dX0_attackers_53 : decode cX0_attackers 53 = .ok (.iload_n 1, 1) := by decide +kernel
theorem dX0_attackers_54 : decode cX0_attackers 54 = .ok (.getstatic 35, 3) := by decide +kernel
theorem dX0_attackers_57 : decode cX0_attackers 57 = .ok (.iload 4, 2) := by decide +kernel
theorem dX0_attackers_59 : decode cX0_attackers 59 = .ok (.iaload, 1) := by decide +kernel
theorem dX0_attackers_60 : decode cX0_attackers 60 = .ok (.iadd, 1) := by decide +kernel
theorem dX0_attackers_61 : decode cX0_attackers 61 = .ok (.if_icmp .ne 7, 3) := by decide +kernel
theorem dX0_attackers_64 : decode cX0_attackers 64 = .ok (.iconst 1, 1) := by decide +kernel
theorem dX0_attackers_65 : decode cX0_attackers 65 = .ok (.goto 4, 3) := by decide +kernel
theorem dX0_attackers_68 : decode cX0_attackers 68 = .ok (.iconst 0, 1) := by decide +kernel
theorem dX0_attackers_69 : decode cX0_attackers 69 = .ok (.invokestatic 51, 3) := by decide +kernel
theorem dX0_attackers_72 : decode cX0_attackers 72 = .ok (.ifCond .eq 6, 3) := by decide +kernel
theorem dX0_attackers_75 : decode cX0_attackers 75 = .ok (.iinc 3 1, 3) := by decide +kernel
theorem dX0_attackers_78 : decode cX0_attackers 78 = .ok (.iinc 4 1, 3) := by decide +kernel
theorem dX0_attackers_81 : decode cX0_attackers 81 = .ok (.goto (-76), 3) := by decide +kernel
theorem dX0_attackers_84 : decode cX0_attackers 84 = .ok (.iload_n 2, 1) := by decide +kernel
theorem dX0_attackers_85 : decode cX0_attackers 85 = .ok (.iconst 5, 1) := by decide +kernel
theorem dX0_attackers_86 : decode cX0_attackers 86 = .ok (.invokestatic 55, 3) := by decide +kernel
theorem dX0_attackers_89 : decode cX0_attackers 89 = .ok (.istore 4, 2) := by decide +kernel
theorem dX0_attackers_91 : decode cX0_attackers 91 = .ok (.iconst 0, 1) := by decide +kernel
theorem dX0_attackers_92 : decode cX0_attackers 92 = .ok (.istore 5, 2) := by decide +kernel
theorem dX0_attackers_94 : decode cX0_attackers 94 = .ok (.iload 5, 2) := by decide +kernel
theorem dX0_attackers_96 : decode cX0_attackers 96 = .ok (.getstatic 58, 3) := by decide +kernel
theorem dX0_attackers_99 : decode cX0_attackers 99 = .ok (.arraylength, 1) := by decide +kernel
theorem dX0_attackers_100 : decode cX0_attackers 100 = .ok (.if_icmp .ge 29, 3) := by decide +kernel
theorem dX0_attackers_103 : decode cX0_attackers 103 = .ok (.aload_n 0, 1) := by decide +kernel
theorem dX0_attackers_104 : decode cX0_attackers 104 = .ok (.iload_n 1, 1) := by decide +kernel
theorem dX0_attackers_105 : decode cX0_attackers 105 = .ok (.getstatic 58, 3) := by decide +kernel
theorem dX0_attackers_108 : decode cX0_attackers 108 = .ok (.iload 5, 2) := by decide +kernel
theorem dX0_attackers_110 : decode cX0_attackers 110 = .ok (.iaload, 1) := by decide +kernel
theorem dX0_attackers_111 : decode cX0_attackers 111 = .ok (.iadd, 1) := by decide +kernel
theorem dX0_attackers_112 : decode cX0_attackers 112 = .ok (.invokevirtual 42, 3) := by decide +kernel
theorem dX0_attackers_115 : decode cX0_attackers 115 = .ok (.iload 4, 2) := by decide +kernel
theorem dX0_attackers_117 : decode cX0_attackers 117 = .ok (.if_icmp .ne 6, 3) := by decide +kernel
theorem dX0_attackers_120 : decode cX0_attackers 120 = .ok (.iinc 3 1, 3) := by decide +kernel
theorem dX0_attackers_123 : decode cX0_attackers 123 = .ok (.iinc 5 1, 3) := by decide +kernel
theorem dX0_attackers_126 : decode cX0_attackers 126 = .ok (.goto (-32), 3) := by decide +kernel
theorem dX0_attackers_129 : decode cX0_attackers 129 = .ok (.iload_n 2, 1) := by decide +kernel
theorem dX0_attackers_130 : decode cX0_attackers 130 = .ok (.bipush 6, 2) := by decide +kernel
theorem dX0_attackers_132 : decode cX0_attackers 132 = .ok (.invokestatic 55, 3) := by decide +kernel
theorem dX0_attackers_135 : decode cX0_attackers 135 = .ok (.istore 5, 2) := by decide +kernel
theorem dX0_attackers_137 : decode cX0_attackers 137 = .ok (.iconst 0, 1) := by decide +kernel
theorem dX0_attackers_138 : decode cX0_attackers 138 = .ok (.istore 6, 2) := by decide +kernel
theorem dX0_attackers_140 : decode cX0_attackers 140 = .ok (.iload 6, 2) := by decide +kernel
theorem dX0_attackers_142 : decode cX0_attackers 142 = .ok (.getstatic 61, 3) := by decide +kernel
theorem dX0_attackers_145 : decode cX0_attackers 145 = .ok (.arraylength, 1) := by decide +kernel
theorem dX0_attackers_146 : decode cX0_attackers 146 = .ok (.if_icmp .ge 34, 3) := by decide +kernel
theorem dX0_attackers_149 : decode cX0_attackers 149 = .ok (.aload_n 0, 1) := by decide +kernel
theorem dX0_attackers_150 : decode cX0_attackers 150 = .ok (.iload_n 1, 1) := by decide +kernel
theorem dX0_attackers_151 : decode cX0_attackers 151 = .ok (.getstatic 61, 3) := by decide +kernel
theorem dX0_attackers_154 : decode cX0_attackers 154 = .ok (.iload 6, 2) := by decide +kernel
theorem dX0_attackers_156 : decode cX0_attackers 156 = .ok (.iaload, 1) := by decide +kernel
theorem dX0_attackers_157 : decode cX0_attackers 157 = .ok (.iload_n 2, 1) := by decide +kernel
theorem dX0_attackers_158 : decode cX0_attackers 158 = .ok (.invokestatic 64, 3) := by decide +kernel
theorem dX0_attackers_161 : decode cX0_attackers 161 = .ok (.imul, 1) := by decide +kernel
theorem dX0_attackers_162 : decode cX0_attackers 162 = .ok (.isub, 1) := by decide +kernel
theorem dX0_attackers_163 : decode cX0_attackers 163 = .ok (.invokevirtual 42, 3) := by decide +kernel
theorem dX0_attackers_166 : decode cX0_attackers 166 = .ok (.iload 5, 2) := by decide +kernel
theorem dX0_attackers_168 : decode cX0_attackers 168 = .ok (.if_icmp .ne 6, 3) := by decide +kernel
theorem dX0_attackers_171 : decode cX0_attackers 171 = .ok (.iinc 3 1, 3) := by decide +kernel
theorem dX0_attackers_174 : decode cX0_attackers 174 = .ok (.iinc 6 1, 3) := by decide +kernel
theorem dX0_attackers_177 : decode cX0_attackers 177 = .ok (.goto (-37), 3) := by decide +kernel
theorem dX0_attackers_180 : decode cX0_attackers 180 = .ok (.iload_n 3, 1) := by decide +kernel
theorem dX0_attackers_181 : decode cX0_attackers 181 = .ok (.ireturn, 1) := by decide +kernel
theorem dX0_pieces_0 : decode cX0_pieces 0 = .ok (.iconst 0, 1) := by decide +kernel
theorem dX0_pieces_1 : decode cX0_pieces 1 = .ok (.istore_n 2, 1) := by decide +kernel
theorem dX0_pieces_2 : decode cX0_pieces 2 = .ok (.iconst 0, 1) := by decide +kernel
theorem dX0_pieces_3 : decode cX0_pieces 3 = .ok (.istore_n 3, 1) := by decide +kernel
theorem dX0_pieces_4 : decode cX0_pieces 4 = .ok (.iload_n 3, 1) := by decide +kernel
theorem dX0_pieces_5 : decode cX0_pieces 5 = .ok (.bipush 91, 2) := by decide +kernel
theorem dX0_pieces_7 : decode cX0_pieces 7 = .ok (.if_icmp .ge 27, 3) := by decide +kernel
theorem dX0_pieces_10 : decode cX0_pieces 10 = .ok (.aload_n 0, 1) := by decide +kernel
theorem dX0_pieces_11 : decode cX0_pieces 11 = .ok (.iload_n 3, 1) := by decide +kernel
theorem dX0_pieces_12 : decode cX0_pieces 12 = .ok (.invokestatic 31, 3) := by decide +kernel
theorem dX0_pieces_15 : decode cX0_pieces 15 = .ok (.invokevirtual 42, 3) := by decide +kernel
theorem dX0_pieces_18 : decode cX0_pieces 18 = .ok (.invokestatic 45, 3) := by decide +kernel
theorem dX0_pieces_21 : decode cX0_pieces 21 = .ok (.iload_n 1, 1) := by decide +kernel
theorem dX0_pieces_22 : decode cX0_pieces 22 = .ok (.if_icmp .ne 6, 3) := by decide +kernel
theorem dX0_pieces_25 : decode cX0_pieces 25 = .ok (.iinc 2 1, 3) := by decide +kernel
theorem dX0_pieces_28 : decode cX0_pieces 28 = .ok (.iinc 3 1, 3) := by decide +kernel
theorem dX0_pieces_31 : decode cX0_pieces 31 = .ok (.goto (-27), 3) := by decide +kernel
theorem dX0_pieces_34 : decode cX0_pieces 34 = .ok (.iload_n 2, 1) := by decide +kernel
theorem dX0_pieces_35 : decode cX0_pieces 35 = .ok (.ireturn, 1) := by decide +kernel
theorem dX0_worth_0 : decode cX0_worth 0 = .ok (.iconst 0, 1) := by decide +kernel
theorem dX0_worth_1 : decode cX0_worth 1 = .ok (.istore_n 2, 1) := by decide +kernel
theorem dX0_worth_2 : decode cX0_worth 2 = .ok (.iconst 0, 1) := by decide +kernel
theorem dX0_worth_3 : decode cX0_worth 3 = .ok (.istore_n 3, 1) := by decide +kernel
theorem dX0_worth_4 : decode cX0_worth 4 = .ok (.iload_n 3, 1) := by decide +kernel
theorem dX0_worth_5 : decode cX0_worth 5 = .ok (.bipush 91, 2) := by decide +kernel
theorem dX0_worth_7 : decode cX0_worth 7 = .ok (.if_icmp .ge 39, 3) := by decide +kernel
theorem dX0_worth_10 : decode cX0_worth 10 = .ok (.aload_n 0, 1) := by decide +kernel
theorem dX0_worth_11 : decode cX0_worth 11 = .ok (.iload_n 3, 1) := by decide +kernel
theorem dX0_worth_12 : decode cX0_worth 12 = .ok (.invokestatic 31, 3) := by decide +kernel
theorem dX0_worth_15 : decode cX0_worth 15 = .ok (.invokevirtual 42, 3) := by decide +kernel
theorem dX0_worth_18 : decode cX0_worth 18 = .ok (.istore 4, 2) := by decide +kernel
theorem dX0_worth_20 : decode cX0_worth 20 = .ok (.iload 4, 2) := by decide +kernel
theorem dX0_worth_22 : decode cX0_worth 22 = .ok (.invokestatic 45, 3) := by decide +kernel
theorem dX0_worth_25 : decode cX0_worth 25 = .ok (.iload_n 1, 1) := by decide +kernel
theorem dX0_worth_26 : decode cX0_worth 26 = .ok (.if_icmp .ne 14, 3) := by decide +kernel
theorem dX0_worth_29 : decode cX0_worth 29 = .ok (.iload_n 2, 1) := by decide +kernel
theorem dX0_worth_30 : decode cX0_worth 30 = .ok (.iload 4, 2) := by decide +kernel
theorem dX0_worth_32 : decode cX0_worth 32 = .ok (.invokestatic 48, 3) := by decide +kernel
theorem dX0_worth_35 : decode cX0_worth 35 = .ok (.invokestatic 67, 3) := by decide +kernel
theorem dX0_worth_38 : decode cX0_worth 38 = .ok (.iadd, 1) := by decide +kernel
theorem dX0_worth_39 : decode cX0_worth 39 = .ok (.istore_n 2, 1) := by decide +kernel
theorem dX0_worth_40 : decode cX0_worth 40 = .ok (.iinc 3 1, 3) := by decide +kernel
theorem dX0_worth_43 : decode cX0_worth 43 = .ok (.goto (-39), 3) := by decide +kernel
theorem dX0_worth_46 : decode cX0_worth 46 = .ok (.iload_n 2, 1) := by decide +kernel
theorem dX0_worth_47 : decode cX0_worth 47 = .ok (.ireturn, 1) := by decide +kernel
theorem dX0_setUp_0 : decode cX0_setUp 0 = .ok (.aload_n 0, 1) := by decide +kernel
theorem dX0_setUp_1 : decode cX0_setUp 1 = .ok (.invokevirtual 22, 3) := by decide +kernel
theorem dX0_setUp_4 : decode cX0_setUp 4 = .ok (.iconst 0, 1) := by decide +kernel
theorem dX0_setUp_5 : decode cX0_setUp 5 = .ok (.istore_n 1, 1) := by decide +kernel
theorem dX0_setUp_6 : decode cX0_setUp 6 = .ok (.iload_n 1, 1) := by decide +kernel
theorem dX0_setUp_7 : decode cX0_setUp 7 = .ok (.bipush 91, 2) := by decide +kernel
theorem dX0_setUp_9 : decode cX0_setUp 9 = .ok (.if_icmp .ge 52, 3) := by decide +kernel
theorem dX0_setUp_12 : decode cX0_setUp 12 = .ok (.iload_n 1, 1) := by decide +kernel
theorem dX0_setUp_13 : decode cX0_setUp 13 = .ok (.invokestatic 31, 3) := by decide +kernel
theorem dX0_setUp_16 : decode cX0_setUp 16 = .ok (.istore_n 2, 1) := by decide +kernel
theorem dX0_setUp_17 : decode cX0_setUp 17 = .ok (.iload_n 2, 1) := by decide +kernel
theorem dX0_setUp_18 : decode cX0_setUp 18 = .ok (.iconst 0, 1) := by decide +kernel
theorem dX0_setUp_19 : decode cX0_setUp 19 = .ok (.invokestatic 70, 3) := by decide +kernel
theorem dX0_setUp_22 : decode cX0_setUp 22 = .ok (.ifCond .eq 14, 3) := by decide +kernel
theorem dX0_setUp_25 : decode cX0_setUp 25 = .ok (.aload_n 0, 1) := by decide +kernel
theorem dX0_setUp_26 : decode cX0_setUp 26 = .ok (.iload_n 2, 1) := by decide +kernel
theorem dX0_setUp_27 : decode cX0_setUp 27 = .ok (.iconst 0, 1) := by decide +kernel
theorem dX0_setUp_28 : decode cX0_setUp 28 = .ok (.bipush 6, 2) := by decide +kernel
theorem dX0_setUp_30 : decode cX0_setUp 30 = .ok (.invokestatic 55, 3) := by decide +kernel
theorem dX0_setUp_33 : decode cX0_setUp 33 = .ok (.invokevirtual 74, 3) := by decide +kernel
theorem dX0_setUp_36 : decode cX0_setUp 36 = .ok (.iload_n 2, 1) := by decide +kernel
theorem dX0_setUp_37 : decode cX0_setUp 37 = .ok (.iconst 1, 1) := by decide +kernel
theorem dX0_setUp_38 : decode cX0_setUp 38 = .ok (.invokestatic 70, 3) := by decide +kernel
theorem dX0_setUp_41 : decode cX0_setUp 41 = .ok (.ifCond .eq 14, 3) := by decide +kernel
theorem dX0_setUp_44 : decode cX0_setUp 44 = .ok (.aload_n 0, 1) := by decide +kernel
theorem dX0_setUp_45 : decode cX0_setUp 45 = .ok (.iload_n 2, 1) := by decide +kernel
theorem dX0_setUp_46 : decode cX0_setUp 46 = .ok (.iconst 1, 1) := by decide +kernel
theorem dX0_setUp_47 : decode cX0_setUp 47 = .ok (.bipush 6, 2) := by decide +kernel
theorem dX0_setUp_49 : decode cX0_setUp 49 = .ok (.invokestatic 55, 3) := by decide +kernel
theorem dX0_setUp_52 : decode cX0_setUp 52 = .ok (.invokevirtual 74, 3) := by decide +kernel
theorem dX0_setUp_55 : decode cX0_setUp 55 = .ok (.iinc 1 1, 3) := by decide +kernel
theorem dX0_setUp_58 : decode cX0_setUp 58 = .ok (.goto (-52), 3) := by decide +kernel
theorem dX0_setUp_61 : decode cX0_setUp 61 = .ok (.aload_n 0, 1) := by decide +kernel
theorem dX0_setUp_62 : decode cX0_setUp 62 = .ok (.iconst 3, 1) := by decide +kernel
theorem dX0_setUp_63 : decode cX0_setUp 63 = .ok (.iconst 2, 1) := by decide +kernel
theorem dX0_setUp_64 : decode cX0_setUp 64 = .ok (.iconst 1, 1) := by decide +kernel
theorem dX0_setUp_65 : decode cX0_setUp 65 = .ok (.invokevirtual 78, 3) := by decide +kernel
theorem dX0_setUp_68 : decode cX0_setUp 68 = .ok (.aload_n 0, 1) := by decide +kernel
theorem dX0_setUp_69 : decode cX0_setUp 69 = .ok (.iconst 5, 1) := by decide +kernel
theorem dX0_setUp_70 : decode cX0_setUp 70 = .ok (.iconst 3, 1) := by decide +kernel
theorem dX0_setUp_71 : decode cX0_setUp 71 = .ok (.iconst 1, 1) := by decide +kernel
theorem dX0_setUp_72 : decode cX0_setUp 72 = .ok (.invokevirtual 78, 3) := by decide +kernel
theorem dX0_setUp_75 : decode cX0_setUp 75 = .ok (.aload_n 0, 1) := by decide +kernel
theorem dX0_setUp_76 : decode cX0_setUp 76 = .ok (.iconst 2, 1) := by decide +kernel
theorem dX0_setUp_77 : decode cX0_setUp 77 = .ok (.iconst 4, 1) := by decide +kernel
theorem dX0_setUp_78 : decode cX0_setUp 78 = .ok (.iconst 1, 1) := by decide +kernel
theorem dX0_setUp_79 : decode cX0_setUp 79 = .ok (.invokevirtual 78, 3) := by decide +kernel
theorem dX0_setUp_82 : decode cX0_setUp 82 = .ok (.aload_n 0, 1) := by decide +kernel
theorem dX0_setUp_83 : decode cX0_setUp 83 = .ok (.iconst 4, 1) := by decide +kernel
theorem dX0_setUp_84 : decode cX0_setUp 84 = .ok (.iconst 5, 1) := by decide +kernel
theorem dX0_setUp_85 : decode cX0_setUp 85 = .ok (.iconst 1, 1) := by decide +kernel
theorem dX0_setUp_86 : decode cX0_setUp 86 = .ok (.invokevirtual 78, 3) := by decide +kernel
theorem dX0_setUp_89 : decode cX0_setUp 89 = .ok (.aload_n 0, 1) := by decide +kernel
theorem dX0_setUp_90 : decode cX0_setUp 90 = .ok (.iconst 4, 1) := by decide +kernel
theorem dX0_setUp_91 : decode cX0_setUp 91 = .ok (.iconst 5, 1) := by decide +kernel
theorem dX0_setUp_92 : decode cX0_setUp 92 = .ok (.iconst 2, 1) := by decide +kernel
theorem dX0_setUp_93 : decode cX0_setUp 93 = .ok (.invokevirtual 78, 3) := by decide +kernel
theorem dX0_setUp_96 : decode cX0_setUp 96 = .ok (.aload_n 0, 1) := by decide +kernel
theorem dX0_setUp_97 : decode cX0_setUp 97 = .ok (.iconst 4, 1) := by decide +kernel
theorem dX0_setUp_98 : decode cX0_setUp 98 = .ok (.iconst 5, 1) := by decide +kernel
theorem dX0_setUp_99 : decode cX0_setUp 99 = .ok (.iconst 3, 1) := by decide +kernel
theorem dX0_setUp_100 : decode cX0_setUp 100 = .ok (.invokevirtual 78, 3) := by decide +kernel
theorem dX0_setUp_103 : decode cX0_setUp 103 = .ok (.aload_n 0, 1) := by decide +kernel
theorem dX0_setUp_104 : decode cX0_setUp 104 = .ok (.iconst 1, 1) := by decide +kernel
theorem dX0_setUp_105 : decode cX0_setUp 105 = .ok (.bipush 6, 2) := by decide +kernel
theorem dX0_setUp_107 : decode cX0_setUp 107 = .ok (.iconst 1, 1) := by decide +kernel
theorem dX0_setUp_108 : decode cX0_setUp 108 = .ok (.invokevirtual 78, 3) := by decide +kernel
theorem dX0_setUp_111 : decode cX0_setUp 111 = .ok (.aload_n 0, 1) := by decide +kernel
theorem dX0_setUp_112 : decode cX0_setUp 112 = .ok (.iconst 5, 1) := by decide +kernel
theorem dX0_setUp_113 : decode cX0_setUp 113 = .ok (.bipush 7, 2) := by decide +kernel
theorem dX0_setUp_115 : decode cX0_setUp 115 = .ok (.iconst 1, 1) := by decide +kernel
theorem dX0_setUp_116 : decode cX0_setUp 116 = .ok (.invokevirtual 78, 3) := by decide +kernel
theorem dX0_setUp_119 : decode cX0_setUp 119 = .ok (.aload_n 0, 1) := by decide +kernel
theorem dX0_setUp_120 : decode cX0_setUp 120 = .ok (.iconst 3, 1) := by decide +kernel
theorem dX0_setUp_121 : decode cX0_setUp 121 = .ok (.bipush 8, 2) := by decide +kernel
theorem dX0_setUp_123 : decode cX0_setUp 123 = .ok (.iconst 1, 1) := by decide +kernel
theorem dX0_setUp_124 : decode cX0_setUp 124 = .ok (.invokevirtual 78, 3) := by decide +kernel
theorem dX0_setUp_127 : decode cX0_setUp 127 = .ok (.return_, 1) := by decide +kernel
theorem dX0_setBoth_0 : decode cX0_setBoth 0 = .ok (.iload_n 2, 1) := by decide +kernel
theorem dX0_setBoth_1 : decode cX0_setBoth 1 = .ok (.invokestatic 82, 3) := by decide +kernel
theorem dX0_setBoth_4 : decode cX0_setBoth 4 = .ok (.iconst 1, 1) := by decide +kernel
theorem dX0_setBoth_5 : decode cX0_setBoth 5 = .ok (.iadd, 1) := by decide +kernel
theorem dX0_setBoth_6 : decode cX0_setBoth 6 = .ok (.iload_n 3, 1) := by decide +kernel
theorem dX0_setBoth_7 : decode cX0_setBoth 7 = .ok (.isub, 1) := by decide +kernel
theorem dX0_setBoth_8 : decode cX0_setBoth 8 = .ok (.istore 4, 2) := by decide +kernel
theorem dX0_setBoth_10 : decode cX0_setBoth 10 = .ok (.aload_n 0, 1) := by decide +kernel
theorem dX0_setBoth_11 : decode cX0_setBoth 11 = .ok (.iload_n 2, 1) := by decide +kernel
theorem dX0_setBoth_12 : decode cX0_setBoth 12 = .ok (.iload_n 3, 1) := by decide +kernel
theorem dX0_setBoth_13 : decode cX0_setBoth 13 = .ok (.invokestatic 85, 3) := by decide +kernel
theorem dX0_setBoth_16 : decode cX0_setBoth 16 = .ok (.invokestatic 31, 3) := by decide +kernel
theorem dX0_setBoth_19 : decode cX0_setBoth 19 = .ok (.iconst 0, 1) := by decide +kernel
theorem dX0_setBoth_20 : decode cX0_setBoth 20 = .ok (.iload_n 1, 1) := by decide +kernel
theorem dX0_setBoth_21 : decode cX0_setBoth 21 = .ok (.invokestatic 55, 3) := by decide +kernel
theorem dX0_setBoth_24 : decode cX0_setBoth 24 = .ok (.invokevirtual 74, 3) := by decide +kernel
theorem dX0_setBoth_27 : decode cX0_setBoth 27 = .ok (.aload_n 0, 1) := by decide +kernel
theorem dX0_setBoth_28 : decode cX0_setBoth 28 = .ok (.iload_n 2, 1) := by decide +kernel
theorem dX0_setBoth_29 : decode cX0_setBoth 29 = .ok (.iload 4, 2) := by decide +kernel
theorem dX0_setBoth_31 : decode cX0_setBoth 31 = .ok (.invokestatic 85, 3) := by decide +kernel
theorem dX0_setBoth_34 : decode cX0_setBoth 34 = .ok (.invokestatic 31, 3) := by decide +kernel
theorem dX0_setBoth_37 : decode cX0_setBoth 37 = .ok (.iconst 1, 1) := by decide +kernel
theorem dX0_setBoth_38 : decode cX0_setBoth 38 = .ok (.iload_n 1, 1) := by decide +kernel
theorem dX0_setBoth_39 : decode cX0_setBoth 39 = .ok (.invokestatic 55, 3) := by decide +kernel
theorem dX0_setBoth_42 : decode cX0_setBoth 42 = .ok (.invokevirtual 74, 3) := by decide +kernel
theorem dX0_setBoth_45 : decode cX0_setBoth 45 = .ok (.return_, 1) := by decide +kernel
theorem dX1_init_0 : decode cX1_init 0 = .ok (.aload_n 0, 1) := by decide +kernel
theorem dX1_init_1 : decode cX1_init 1 = .ok (.invokespecial 3, 3) := by decide +kernel
theorem dX1_init_4 : decode cX1_init 4 = .ok (.aload_n 0, 1) := by decide +kernel
theorem dX1_init_5 : decode cX1_init 5 = .ok (.new 9, 3) := by decide +kernel
theorem dX1_init_8 : decode cX1_init 8 = .ok (.dup, 1) := by decide +kernel
theorem dX1_init_9 : decode cX1_init 9 = .ok (.invokespecial 11, 3) := by decide +kernel
theorem dX1_init_12 : decode cX1_init 12 = .ok (.putfield 12, 3) := by decide +kernel
theorem dX1_init_15 : decode cX1_init 15 = .ok (.aload_n 0, 1) := by decide +kernel
theorem dX1_init_16 : decode cX1_init 16 = .ok (.iconst 0, 1) := by decide +kernel
theorem dX1_init_17 : decode cX1_init 17 = .ok (.putfield 18, 3) := by decide +kernel
theorem dX1_init_20 : decode cX1_init 20 = .ok (.aload_n 0, 1) := by decide +kernel
theorem dX1_init_21 : decode cX1_init 21 = .ok (.iconst 0, 1) := by decide +kernel
theorem dX1_init_22 : decode cX1_init 22 = .ok (.putfield 22, 3) := by decide +kernel
theorem dX1_init_25 : decode cX1_init 25 = .ok (.aload_n 0, 1) := by decide +kernel
theorem dX1_init_26 : decode cX1_init 26 = .ok (.iconst (-1), 1) := by decide +kernel
theorem dX1_init_27 : decode cX1_init 27 = .ok (.putfield 25, 3) := by decide +kernel
theorem dX1_init_30 : decode cX1_init 30 = .ok (.aload_n 0, 1) := by decide +kernel
theorem dX1_init_31 : decode cX1_init 31 = .ok (.sipush 620, 3) := by decide +kernel
theorem dX1_init_34 : decode cX1_init 34 = .ok (.newarray .long, 2) := by decide +kernel
theorem dX1_init_36 : decode cX1_init 36 = .ok (.putfield 28, 3) := by decide +kernel
theorem dX1_init_39 : decode cX1_init 39 = .ok (.aload_n 0, 1) := by decide +kernel
theorem dX1_init_40 : decode cX1_init 40 = .ok (.iconst 0, 1) := by decide +kernel
theorem dX1_init_41 : decode cX1_init 41 = .ok (.putfield 32, 3) := by decide +kernel
theorem dX1_init_44 : decode cX1_init 44 = .ok (.aload_n 0, 1) := by decide +kernel
theorem dX1_init_45 : decode cX1_init 45 = .ok (.sipush 840, 3) := by decide +kernel
theorem dX1_init_48 : decode cX1_init 48 = .ok (.newarray .int, 2) := by decide +kernel
theorem dX1_init_50 : decode cX1_init 50 = .ok (.putfield 35, 3) := by decide +kernel
theorem dX1_init_53 : decode cX1_init 53 = .ok (.aload_n 0, 1) := by decide +kernel
theorem dX1_init_54 : decode cX1_init 54 = .ok (.iconst 0, 1) := by decide +kernel
theorem dX1_init_55 : decode cX1_init 55 = .ok (.putfield 39, 3) := by decide +kernel
theorem dX1_init_58 : decode cX1_init 58 = .ok (.aload_n 0, 1) := by decide +kernel
theorem dX1_init_59 : decode cX1_init 59 = .ok (.iconst 0, 1) := by decide +kernel
theorem dX1_init_60 : decode cX1_init 60 = .ok (.putfield 42, 3) := by decide +kernel
theorem dX1_init_63 : decode cX1_init 63 = .ok (.aload_n 0, 1) := by decide +kernel
theorem dX1_init_64 : decode cX1_init 64 = .ok (.bipush 42, 2) := by decide +kernel
theorem dX1_init_66 : decode cX1_init 66 = .ok (.newarray .int, 2) := by decide +kernel
theorem dX1_init_68 : decode cX1_init 68 = .ok (.putfield 46, 3) := by decide +kernel
theorem dX1_init_71 : decode cX1_init 71 = .ok (.aload_n 0, 1) := by decide +kernel
theorem dX1_init_72 : decode cX1_init 72 = .ok (.iconst 0, 1) := by decide +kernel
theorem dX1_init_73 : decode cX1_init 73 = .ok (.putfield 49, 3) := by decide +kernel
theorem dX1_init_76 : decode cX1_init 76 = .ok (.aload_n 0, 1) := by decide +kernel
theorem dX1_init_77 : decode cX1_init 77 = .ok (.getstatic 52, 3) := by decide +kernel
theorem dX1_init_80 : decode cX1_init 80 = .ok (.arraylength, 1) := by decide +kernel
theorem dX1_init_81 : decode cX1_init 81 = .ok (.newarray .int, 2) := by decide +kernel
theorem dX1_init_83 : decode cX1_init 83 = .ok (.putfield 55, 3) := by decide +kernel
theorem dX1_init_86 : decode cX1_init 86 = .ok (.aload_n 0, 1) := by decide +kernel
theorem dX1_init_87 : decode cX1_init 87 = .ok (.iconst 0, 1) := by decide +kernel
theorem dX1_init_88 : decode cX1_init 88 = .ok (.putfield 58, 3) := by decide +kernel
theorem dX1_init_91 : decode cX1_init 91 = .ok (.aload_n 0, 1) := by decide +kernel
theorem dX1_init_92 : decode cX1_init 92 = .ok (.iconst 0, 1) := by decide +kernel
theorem dX1_init_93 : decode cX1_init 93 = .ok (.putfield 61, 3) := by decide +kernel
theorem dX1_init_96 : decode cX1_init 96 = .ok (.return_, 1) := by decide +kernel
theorem dX1_clear_0 : decode cX1_clear 0 = .ok (.aload_n 0, 1) := by decide +kernel
theorem dX1_clear_1 : decode cX1_clear 1 = .ok (.getfield 12, 3) := by decide +kernel
theorem dX1_clear_4 : decode cX1_clear 4 = .ok (.invokevirtual 64, 3) := by decide +kernel
theorem dX1_clear_7 : decode cX1_clear 7 = .ok (.aload_n 0, 1) := by decide +kernel
theorem dX1_clear_8 : decode cX1_clear 8 = .ok (.iconst 0, 1) := by decide +kernel
theorem dX1_clear_9 : decode cX1_clear 9 = .ok (.putfield 18, 3) := by decide +kernel
theorem dX1_clear_12 : decode cX1_clear 12 = .ok (.aload_n 0, 1) := by decide +kernel
theorem dX1_clear_13 : decode cX1_clear 13 = .ok (.invokevirtual 67, 3) := by decide +kernel
theorem dX1_clear_16 : decode cX1_clear 16 = .ok (.return_, 1) := by decide +kernel
theorem dX1_setUp_0 : decode cX1_setUp 0 = .ok (.aload_n 0, 1) := by decide +kernel
theorem dX1_setUp_1 : decode cX1_setUp 1 = .ok (.getfield 12, 3) := by decide +kernel
theorem dX1_setUp_4 : decode cX1_setUp 4 = .ok (.invokevirtual 70, 3) := by decide +kernel
theorem dX1_setUp_7 : decode cX1_setUp 7 = .ok (.aload_n 0, 1) := by decide +kernel
theorem dX1_setUp_8 : decode cX1_setUp 8 = .ok (.iconst 0, 1) := by decide +kernel
theorem dX1_setUp_9 : decode cX1_setUp 9 = .ok (.putfield 18, 3) := by decide +kernel
theorem dX1_setUp_12 : decode cX1_setUp 12 = .ok (.aload_n 0, 1) := by decide +kernel
theorem dX1_setUp_13 : decode cX1_setUp 13 = .ok (.invokevirtual 67, 3) := by decide +kernel
theorem dX1_setUp_16 : decode cX1_setUp 16 = .ok (.return_, 1) := by decide +kernel
theorem dX1_put_0 : decode cX1_put 0 = .ok (.aload_n 0, 1) := by decide +kernel
theorem dX1_put_1 : decode cX1_put 1 = .ok (.getfield 12, 3) := by decide +kernel
theorem dX1_put_4 : decode cX1_put 4 = .ok (.iload_n 3, 1) := by decide +kernel
theorem dX1_put_5 : decode cX1_put 5 = .ok (.invokestatic 73, 3) := by decide +kernel
theorem dX1_put_8 : decode cX1_put 8 = .ok (.iload_n 1, 1) := by decide +kernel
theorem dX1_put_9 : decode cX1_put 9 = .ok (.iload_n 2, 1) := by decide +kernel
theorem dX1_put_10 : decode cX1_put 10 = .ok (.invokestatic 77, 3) := by decide +kernel
theorem dX1_put_13 : decode cX1_put 13 = .ok (.invokevirtual 81, 3) := by decide +kernel
theorem dX1_put_16 : decode cX1_put 16 = .ok (.aload_n 0, 1) := by decide +kernel
theorem dX1_put_17 : decode cX1_put 17 = .ok (.invokevirtual 67, 3) := by decide +kernel
theorem dX1_put_20 : decode cX1_put 20 = .ok (.return_, 1) := by decide +kernel
theorem dX1_giveTurn_0 : decode cX1_giveTurn 0 = .ok (.aload_n 0, 1) := by decide +kernel
theorem dX1_giveTurn_1 : decode cX1_giveTurn 1 = .ok (.iload_n 1, 1) := by decide +kernel
theorem dX1_giveTurn_2 : decode cX1_giveTurn 2 = .ok (.putfield 18, 3) := by decide +kernel
theorem dX1_giveTurn_5 : decode cX1_giveTurn 5 = .ok (.aload_n 0, 1) := by decide +kernel
theorem dX1_giveTurn_6 : decode cX1_giveTurn 6 = .ok (.invokevirtual 67, 3) := by decide +kernel
theorem dX1_giveTurn_9 : decode cX1_giveTurn 9 = .ok (.return_, 1) := by decide +kernel
theorem dX1_startAnew_0 : decode cX1_startAnew 0 = .ok (.aload_n 0, 1) := by decide +kernel
theorem dX1_startAnew_1 : decode cX1_startAnew 1 = .ok (.iconst 0, 1) := by decide +kernel
theorem dX1_startAnew_2 : decode cX1_startAnew 2 = .ok (.putfield 22, 3) := by decide +kernel
theorem dX1_startAnew_5 : decode cX1_startAnew 5 = .ok (.aload_n 0, 1) := by decide +kernel
theorem dX1_startAnew_6 : decode cX1_startAnew 6 = .ok (.iconst (-1), 1) := by decide +kernel
theorem dX1_startAnew_7 : decode cX1_startAnew 7 = .ok (.putfield 25, 3) := by decide +kernel
theorem dX1_startAnew_10 : decode cX1_startAnew 10 = .ok (.aload_n 0, 1) := by decide +kernel
theorem dX1_startAnew_11 : decode cX1_startAnew 11 = .ok (.iconst 0, 1) := by decide +kernel
theorem dX1_startAnew_12 : decode cX1_startAnew 12 = .ok (.putfield 32, 3) := by decide +kernel
theorem dX1_startAnew_15 : decode cX1_startAnew 15 = .ok (.aload_n 0, 1) := by decide +kernel
theorem dX1_startAnew_16 : decode cX1_startAnew 16 = .ok (.iconst 0, 1) := by decide +kernel
theorem dX1_startAnew_17 : decode cX1_startAnew 17 = .ok (.putfield 42, 3) := by decide +kernel
theorem dX1_startAnew_20 : decode cX1_startAnew 20 = .ok (.return_, 1) := by decide +kernel
theorem dX1_valueOn_0 : decode cX1_valueOn 0 = .ok (.aload_n 0, 1) := by decide +kernel
theorem dX1_valueOn_1 : decode cX1_valueOn 1 = .ok (.getfield 12, 3) := by decide +kernel
theorem dX1_valueOn_4 : decode cX1_valueOn 4 = .ok (.iload_n 1, 1) := by decide +kernel
theorem dX1_valueOn_5 : decode cX1_valueOn 5 = .ok (.invokestatic 73, 3) := by decide +kernel
theorem dX1_valueOn_8 : decode cX1_valueOn 8 = .ok (.invokevirtual 85, 3) := by decide +kernel
theorem dX1_valueOn_11 : decode cX1_valueOn 11 = .ok (.ireturn, 1) := by decide +kernel
theorem dX1_attackersOf_0 : decode cX1_attackersOf 0 = .ok (.aload_n 0, 1) := by decide +kernel
theorem dX1_attackersOf_1 : decode cX1_attackersOf 1 = .ok (.getfield 12, 3) := by decide +kernel
theorem dX1_attackersOf_4 : decode cX1_attackersOf 4 = .ok (.iload_n 1, 1) := by decide +kernel
theorem dX1_attackersOf_5 : decode cX1_attackersOf 5 = .ok (.invokestatic 73, 3) := by decide +kernel
theorem dX1_attackersOf_8 : decode cX1_attackersOf 8 = .ok (.iload_n 2, 1) := by decide +kernel
theorem dX1_attackersOf_9 : decode cX1_attackersOf 9 = .ok (.invokevirtual 88, 3) := by decide +kernel
theorem dX1_attackersOf_12 : decode cX1_attackersOf 12 = .ok (.ireturn, 1) := by decide +kernel
theorem dX1_hasKing_0 : decode cX1_hasKing 0 = .ok (.aload_n 0, 1) := by decide +kernel
theorem dX1_hasKing_1 : decode cX1_hasKing 1 = .ok (.getfield 12, 3) := by decide +kernel
theorem dX1_hasKing_4 : decode cX1_hasKing 4 = .ok (.iload_n 1, 1) := by decide +kernel
theorem dX1_hasKing_5 : decode cX1_hasKing 5 = .ok (.invokevirtual 91, 3) := by decide +kernel
theorem dX1_hasKing_8 : decode cX1_hasKing 8 = .ok (.iconst (-1), 1) := by decide +kernel
theorem dX1_hasKing_9 : decode cX1_hasKing 9 = .ok (.if_icmp .eq 7, 3) := by decide +kernel
theorem dX1_hasKing_12 : decode cX1_hasKing 12 = .ok (.iconst 1, 1) := by decide +kernel
theorem dX1_hasKing_13 : decode cX1_hasKing 13 = .ok (.goto 4, 3) := by decide +kernel
theorem dX1_hasKing_16 : decode cX1_hasKing 16 = .ok (.iconst 0, 1) := by decide +kernel
theorem dX1_hasKing_17 : decode cX1_hasKing 17 = .ok (.ireturn, 1) := by decide +kernel
theorem dX1_passingCell_0 : decode cX1_passingCell 0 = .ok (.aload_n 0, 1) := by decide +kernel
theorem dX1_passingCell_1 : decode cX1_passingCell 1 = .ok (.getfield 25, 3) := by decide +kernel
theorem dX1_passingCell_4 : decode cX1_passingCell 4 = .ok (.invokestatic 94, 3) := by decide +kernel
theorem dX1_passingCell_7 : decode cX1_passingCell 7 = .ok (.ireturn, 1) := by decide +kernel
theorem dX1_isPlayable_0 : decode cX1_isPlayable 0 = .ok (.aload_n 0, 1) := by decide +kernel
theorem dX1_isPlayable_1 : decode cX1_isPlayable 1 = .ok (.iconst 0, 1) := by decide +kernel
theorem dX1_isPlayable_2 : decode cX1_isPlayable 2 = .ok (.invokevirtual 97, 3) := by decide +kernel
theorem dX1_isPlayable_5 : decode cX1_isPlayable 5 = .ok (.ifCond .eq 42, 3) := by decide +kernel
theorem dX1_isPlayable_8 : decode cX1_isPlayable 8 = .ok (.aload_n 0, 1) := by decide +kernel
theorem dX1_isPlayable_9 : decode cX1_isPlayable 9 = .ok (.iconst 1, 1) := by decide +kernel
theorem dX1_isPlayable_10 : decode cX1_isPlayable 10 = .ok (.invokevirtual 97, 3) := by decide +kernel
theorem dX1_isPlayable_13 : decode cX1_isPlayable 13 = .ok (.ifCond .eq 34, 3) := by decide +kernel
theorem dX1_isPlayable_16 : decode cX1_isPlayable 16 = .ok (.aload_n 0, 1) := by decide +kernel
theorem dX1_isPlayable_17 : decode cX1_isPlayable 17 = .ok (.getfield 12, 3) := by decide +kernel
theorem dX1_isPlayable_20 : decode cX1_isPlayable 20 = .ok (.aload_n 0, 1) := by decide +kernel
theorem dX1_isPlayable_21 : decode cX1_isPlayable 21 = .ok (.getfield 12, 3) := by decide +kernel
theorem dX1_isPlayable_24 : decode cX1_isPlayable 24 = .ok (.iconst 1, 1) := by decide +kernel
theorem dX1_isPlayable_25 : decode cX1_isPlayable 25 = .ok (.aload_n 0, 1) := by decide +kernel
theorem dX1_isPlayable_26 : decode cX1_isPlayable 26 = .ok (.getfield 18, 3) := by decide +kernel
theorem dX1_isPlayable_29 : decode cX1_isPlayable 29 = .ok (.isub, 1) := by decide +kernel
theorem dX1_isPlayable_30 : decode cX1_isPlayable 30 = .ok (.invokevirtual 91, 3) := by decide +kernel
theorem dX1_isPlayable_33 : decode cX1_isPlayable 33 = .ok (.aload_n 0, 1) := by decide +kernel
theorem dX1_isPlayable_34 : decode cX1_isPlayable 34 = .ok (.getfield 18, 3) := by decide +kernel
theorem dX1_isPlayable_37 : decode cX1_isPlayable 37 = .ok (.invokevirtual 88, 3) := by decide +kernel
theorem dX1_isPlayable_40 : decode cX1_isPlayable 40 = .ok (.ifCond .ne 7, 3) := by decide +kernel
theorem dX1_isPlayable_43 : decode cX1_isPlayable 43 = .ok (.iconst 1, 1) := by decide +kernel
theorem dX1_isPlayable_44 : decode cX1_isPlayable 44 = .ok (.goto 4, 3) := by decide +kernel
theorem dX1_isPlayable_47 : decode cX1_isPlayable 47 = .ok (.iconst 0, 1) := by decide +kernel
theorem dX1_isPlayable_48 : decode cX1_isPlayable 48 = .ok (.ireturn, 1) := by decide +kernel
theorem dX1_isAttacked_0 : decode cX1_isAttacked 0 = .ok (.aload_n 0, 1) := by decide +kernel
theorem dX1_isAttacked_1 : decode cX1_isAttacked 1 = .ok (.getfield 12, 3) := by decide +kernel
theorem dX1_isAttacked_4 : decode cX1_isAttacked 4 = .ok (.aload_n 0, 1) := by decide +kernel
theorem dX1_isAttacked_5 : decode cX1_isAttacked 5 = .ok (.getfield 12, 3) := by decide +kernel
theorem dX1_isAttacked_8 : decode cX1_isAttacked 8 = .ok (.iload_n 1, 1) := by decide +kernel
theorem dX1_isAttacked_9 : decode cX1_isAttacked 9 = .ok (.invokevirtual 91, 3) := by decide +kernel
theorem dX1_isAttacked_12 : decode cX1_isAttacked 12 = .ok (.iconst 1, 1) := by decide +kernel
theorem dX1_isAttacked_13 : decode cX1_isAttacked 13 = .ok (.iload_n 1, 1) := by decide +kernel
theorem dX1_isAttacked_14 : decode cX1_isAttacked 14 = .ok (.isub, 1) := by decide +kernel
theorem dX1_isAttacked_15 : decode cX1_isAttacked 15 = .ok (.invokevirtual 88, 3) := by decide +kernel
theorem dX1_isAttacked_18 : decode cX1_isAttacked 18 = .ok (.ifCond .le 7, 3) := by decide +kernel
theorem dX1_isAttacked_21 : decode cX1_isAttacked 21 = .ok (.iconst 1, 1) := by decide +kernel
theorem dX1_isAttacked_22 : decode cX1_isAttacked 22 = .ok (.goto 4, 3) := by decide +kernel
theorem dX1_isAttacked_25 : decode cX1_isAttacked 25 = .ok (.iconst 0, 1) := by decide +kernel
theorem dX1_isAttacked_26 : decode cX1_isAttacked 26 = .ok (.ireturn, 1) := by decide +kernel
theorem dX1_howItIs_0 : decode cX1_howItIs 0 = .ok (.aload_n 0, 1) := by decide +kernel
theorem dX1_howItIs_1 : decode cX1_howItIs 1 = .ok (.invokevirtual 101, 3) := by decide +kernel
theorem dX1_howItIs_4 : decode cX1_howItIs 4 = .ok (.ifCond .ne 5, 3) := by decide +kernel
theorem dX1_howItIs_7 : decode cX1_howItIs 7 = .ok (.iconst 5, 1) := by decide +kernel
theorem dX1_howItIs_8 : decode cX1_howItIs 8 = .ok (.ireturn, 1) := by decide +kernel
theorem dX1_howItIs_9 : decode cX1_howItIs 9 = .ok (.aload_n 0, 1) := by decide +kernel
theorem dX1_howItIs_10 : decode cX1_howItIs 10 = .ok (.invokevirtual 105, 3) := by decide +kernel
theorem dX1_howItIs_13 : decode cX1_howItIs 13 = .ok (.aload_n 0, 1) := by decide +kernel
theorem dX1_howItIs_14 : decode cX1_howItIs 14 = .ok (.aload_n 0, 1) := by decide +kernel
theorem dX1_howItIs_15 : decode cX1_howItIs 15 = .ok (.getfield 18, 3) := by decide +kernel
theorem dX1_howItIs_18 : decode cX1_howItIs 18 = .ok (.invokevirtual 108, 3) := by decide +kernel
theorem dX1_howItIs_21 : decode cX1_howItIs 21 = .ok (.istore_n 1, 1) := by decide +kernel
theorem dX1_howItIs_22 : decode cX1_howItIs 22 = .ok (.aload_n 0, 1) := by decide +kernel
theorem dX1_howItIs_23 : decode cX1_howItIs 23 = .ok (.getfield 39, 3) := by decide +kernel
theorem dX1_howItIs_26 : decode cX1_howItIs 26 = .ok (.ifCond .ne 13, 3) := by decide +kernel
theorem dX1_howItIs_29 : decode cX1_howItIs 29 = .ok (.iload_n 1, 1) := by decide +kernel
theorem dX1_howItIs_30 : decode cX1_howItIs 30 = .ok (.ifCond .eq 7, 3) := by decide +kernel
theorem dX1_howItIs_33 : decode cX1_howItIs 33 = .ok (.iconst 2, 1) := by decide +kernel
theorem dX1_howItIs_34 : decode cX1_howItIs 34 = .ok (.goto 4, 3) := by decide +kernel
theorem dX1_howItIs_37 : decode cX1_howItIs 37 = .ok (.iconst 3, 1) := by decide +kernel
theorem dX1_howItIs_38 : decode cX1_howItIs 38 = .ok (.ireturn, 1) := by decide +kernel
theorem dX1_howItIs_39 : decode cX1_howItIs 39 = .ok (.aload_n 0, 1) := by decide +kernel
theorem dX1_howItIs_40 : decode cX1_howItIs 40 = .ok (.getfield 22, 3) := by decide +kernel
theorem dX1_howItIs_43 : decode cX1_howItIs 43 = .ok (.bipush 60, 2) := by decide +kernel
theorem dX1_howItIs_45 : decode cX1_howItIs 45 = .ok (.if_icmp .lt 5, 3) := by decide +kernel
theorem dX1_howItIs_48 : decode cX1_howItIs 48 = .ok (.iconst 4, 1) := by decide +kernel
theorem dX1_howItIs_49 : decode cX1_howItIs 49 = .ok (.ireturn, 1) := by decide +kernel
theorem dX1_howItIs_50 : decode cX1_howItIs 50 = .ok (.iload_n 1, 1) := by decide +kernel
theorem dX1_howItIs_51 : decode cX1_howItIs 51 = .ok (.ifCond .eq 7, 3) := by decide +kernel
theorem dX1_howItIs_54 : decode cX1_howItIs 54 = .ok (.iconst 1, 1) := by decide +kernel
theorem dX1_howItIs_55 : decode cX1_howItIs 55 = .ok (.goto 4, 3) := by decide +kernel
theorem dX1_howItIs_58 : decode cX1_howItIs 58 = .ok (.iconst 0, 1) := by decide +kernel
theorem dX1_howItIs_59 : decode cX1_howItIs 59 = .ok (.ireturn, 1) := by decide +kernel
theorem dX1_pointsOf_0 : decode cX1_pointsOf 0 = .ok (.aload_n 0, 1) := by decide +kernel
theorem dX1_pointsOf_1 : decode cX1_pointsOf 1 = .ok (.invokevirtual 111, 3) := by decide +kernel
theorem dX1_pointsOf_4 : decode cX1_pointsOf 4 = .ok (.tableswitch 58 2 4 #[28, 42, 56], 28) := by decide +kernel
theorem dX1_pointsOf_32 : decode cX1_pointsOf 32 = .ok (.iload_n 1, 1) := by decide +kernel
theorem dX1_pointsOf_33 : decode cX1_pointsOf 33 = .ok (.aload_n 0, 1) := by decide +kernel
theorem dX1_pointsOf_34 : decode cX1_pointsOf 34 = .ok (.getfield 18, 3) := by decide +kernel
theorem dX1_pointsOf_37 : decode cX1_pointsOf 37 = .ok (.if_icmp .ne 7, 3) := by decide +kernel
theorem dX1_pointsOf_40 : decode cX1_pointsOf 40 = .ok (.iconst 0, 1) := by decide +kernel
theorem dX1_pointsOf_41 : decode cX1_pointsOf 41 = .ok (.goto 4, 3) := by decide +kernel
theorem dX1_pointsOf_44 : decode cX1_pointsOf 44 = .ok (.iconst 4, 1) := by decide +kernel
theorem dX1_pointsOf_45 : decode cX1_pointsOf 45 = .ok (.ireturn, 1) := by decide +kernel
theorem dX1_pointsOf_46 : decode cX1_pointsOf 46 = .ok (.iload_n 1, 1) := by decide +kernel
theorem dX1_pointsOf_47 : decode cX1_pointsOf 47 = .ok (.aload_n 0, 1) := by decide +kernel
theorem dX1_pointsOf_48 : decode cX1_pointsOf 48 = .ok (.getfield 18, 3) := by decide +kernel
theorem dX1_pointsOf_51 : decode cX1_pointsOf 51 = .ok (.if_icmp .ne 7, 3) := by decide +kernel
theorem dX1_pointsOf_54 : decode cX1_pointsOf 54 = .ok (.iconst 1, 1) := by decide +kernel
theorem dX1_pointsOf_55 : decode cX1_pointsOf 55 = .ok (.goto 4, 3) := by decide +kernel
theorem dX1_pointsOf_58 : decode cX1_pointsOf 58 = .ok (.iconst 3, 1) := by decide +kernel
theorem dX1_pointsOf_59 : decode cX1_pointsOf 59 = .ok (.ireturn, 1) := by decide +kernel
theorem dX1_pointsOf_60 : decode cX1_pointsOf 60 = .ok (.iconst 2, 1) := by decide +kernel
theorem dX1_pointsOf_61 : decode cX1_pointsOf 61 = .ok (.ireturn, 1) := by decide +kernel
theorem dX1_pointsOf_62 : decode cX1_pointsOf 62 = .ok (.iconst 0, 1) := by decide +kernel
theorem dX1_pointsOf_63 : decode cX1_pointsOf 63 = .ok (.ireturn, 1) := by decide +kernel
theorem dX1_moveCount_0 : decode cX1_moveCount 0 = .ok (.aload_n 0, 1) := by decide +kernel
theorem dX1_moveCount_1 : decode cX1_moveCount 1 = .ok (.invokevirtual 105, 3) := by decide +kernel
theorem dX1_moveCount_4 : decode cX1_moveCount 4 = .ok (.aload_n 0, 1) := by decide +kernel
theorem dX1_moveCount_5 : decode cX1_moveCount 5 = .ok (.invokevirtual 115, 3) := by decide +kernel
theorem dX1_moveCount_8 : decode cX1_moveCount 8 = .ok (.ireturn, 1) := by decide +kernel
theorem dX1_openMoves_0 : decode cX1_openMoves 0 = .ok (.aload_n 0, 1) := by decide +kernel
theorem dX1_openMoves_1 : decode cX1_openMoves 1 = .ok (.getfield 22, 3) := by decide +kernel
theorem dX1_openMoves_4 : decode cX1_openMoves 4 = .ok (.bipush 60, 2) := by decide +kernel
theorem dX1_openMoves_6 : decode cX1_openMoves 6 = .ok (.if_icmp .lt 7, 3) := by decide +kernel
theorem dX1_openMoves_9 : decode cX1_openMoves 9 = .ok (.iconst 0, 1) := by decide +kernel
theorem dX1_openMoves_10 : decode cX1_openMoves 10 = .ok (.goto 7, 3) := by decide +kernel
theorem dX1_openMoves_13 : decode cX1_openMoves 13 = .ok (.aload_n 0, 1) := by decide +kernel
theorem dX1_openMoves_14 : decode cX1_openMoves 14 = .ok (.getfield 39, 3) := by decide +kernel
theorem dX1_openMoves_17 : decode cX1_openMoves 17 = .ok (.ireturn, 1) := by decide +kernel
theorem dX1_moveAt_0 : decode cX1_moveAt 0 = .ok (.iload_n 1, 1) := by decide +kernel
theorem dX1_moveAt_1 : decode cX1_moveAt 1 = .ok (.ifCond .lt 21, 3) := by decide +kernel
theorem dX1_moveAt_4 : decode cX1_moveAt 4 = .ok (.iload_n 1, 1) := by decide +kernel
theorem dX1_moveAt_5 : decode cX1_moveAt 5 = .ok (.aload_n 0, 1) := by decide +kernel
theorem dX1_moveAt_6 : decode cX1_moveAt 6 = .ok (.getfield 35, 3) := by decide +kernel
theorem dX1_moveAt_9 : decode cX1_moveAt 9 = .ok (.arraylength, 1) := by decide +kernel
theorem dX1_moveAt_10 : decode cX1_moveAt 10 = .ok (.if_icmp .ge 12, 3) := by decide +kernel
theorem dX1_moveAt_13 : decode cX1_moveAt 13 = .ok (.aload_n 0, 1) := by decide +kernel
theorem dX1_moveAt_14 : decode cX1_moveAt 14 = .ok (.getfield 35, 3) := by decide +kernel
theorem dX1_moveAt_17 : decode cX1_moveAt 17 = .ok (.iload_n 1, 1) := by decide +kernel
theorem dX1_moveAt_18 : decode cX1_moveAt 18 = .ok (.iaload, 1) := by decide +kernel
theorem dX1_moveAt_19 : decode cX1_moveAt 19 = .ok (.goto 4, 3) := by decide +kernel
theorem dX1_moveAt_22 : decode cX1_moveAt 22 = .ok (.iconst (-1), 1) := by decide +kernel
theorem dX1_moveAt_23 : decode cX1_moveAt 23 = .ok (.ireturn, 1) := by decide +kernel
theorem dX1_movesFrom_0 : decode cX1_movesFrom 0 = .ok (.aload_n 0, 1) := by decide +kernel
theorem dX1_movesFrom_1 : decode cX1_movesFrom 1 = .ok (.invokevirtual 105, 3) := by decide +kernel
theorem dX1_movesFrom_4 : decode cX1_movesFrom 4 = .ok (.iconst 0, 1) := by decide +kernel
theorem dX1_movesFrom_5 : decode cX1_movesFrom 5 = .ok (.istore_n 2, 1) := by decide +kernel
theorem dX1_movesFrom_6 : decode cX1_movesFrom 6 = .ok (.aload_n 0, 1) := by decide +kernel
theorem dX1_movesFrom_7 : decode cX1_movesFrom 7 = .ok (.invokevirtual 115, 3) := by decide +kernel
theorem dX1_movesFrom_10 : decode cX1_movesFrom 10 = .ok (.istore_n 3, 1) := by decide +kernel
theorem dX1_movesFrom_11 : decode cX1_movesFrom 11 = .ok (.iconst 0, 1) := by decide +kernel
theorem dX1_movesFrom_12 : decode cX1_movesFrom 12 = .ok (.istore 4, 2) := by decide +kernel
theorem dX1_movesFrom_14 : decode cX1_movesFrom 14 = .ok (.iload 4, 2) := by decide +kernel
theorem dX1_movesFrom_16 : decode cX1_movesFrom 16 = .ok (.iload_n 3, 1) := by decide +kernel
theorem dX1_movesFrom_17 : decode cX1_movesFrom 17 = .ok (.if_icmp .ge 25, 3) := by decide +kernel
theorem dX1_movesFrom_20 : decode cX1_movesFrom 20 = .ok (.aload_n 0, 1) := by decide +kernel
theorem dX1_movesFrom_21 : decode cX1_movesFrom 21 = .ok (.iload 4, 2) := by decide +kernel
theorem dX1_movesFrom_23 : decode cX1_movesFrom 23 = .ok (.invokevirtual 118, 3) := by decide +kernel
theorem dX1_movesFrom_26 : decode cX1_movesFrom 26 = .ok (.bipush 91, 2) := by decide +kernel
theorem dX1_movesFrom_28 : decode cX1_movesFrom 28 = .ok (.idiv, 1) := by decide +kernel
theorem dX1_movesFrom_29 : decode cX1_movesFrom 29 = .ok (.iload_n 1, 1) := by decide +kernel
theorem dX1_movesFrom_30 : decode cX1_movesFrom 30 = .ok (.if_icmp .ne 6, 3) := by decide +kernel
theorem dX1_movesFrom_33 : decode cX1_movesFrom 33 = .ok (.iinc 2 1, 3) := by decide +kernel
theorem dX1_movesFrom_36 : decode cX1_movesFrom 36 = .ok (.iinc 4 1, 3) := by decide +kernel
theorem dX1_movesFrom_39 : decode cX1_movesFrom 39 = .ok (.goto (-25), 3) := by decide +kernel
theorem dX1_movesFrom_42 : decode cX1_movesFrom 42 = .ok (.iload_n 2, 1) := by decide +kernel
theorem dX1_movesFrom_43 : decode cX1_movesFrom 43 = .ok (.ireturn, 1) := by decide +kernel
theorem dX1_allows_0 : decode cX1_allows 0 = .ok (.aload_n 0, 1) := by decide +kernel
theorem dX1_allows_1 : decode cX1_allows 1 = .ok (.invokevirtual 105, 3) := by decide +kernel
theorem dX1_allows_4 : decode cX1_allows 4 = .ok (.aload_n 0, 1) := by decide +kernel
theorem dX1_allows_5 : decode cX1_allows 5 = .ok (.invokevirtual 115, 3) := by decide +kernel
theorem dX1_allows_8 : decode cX1_allows 8 = .ok (.istore_n 3, 1) := by decide +kernel
theorem dX1_allows_9 : decode cX1_allows 9 = .ok (.iconst 0, 1) := by decide +kernel
theorem dX1_allows_10 : decode cX1_allows 10 = .ok (.istore 4, 2) := by decide +kernel
theorem dX1_allows_12 : decode cX1_allows 12 = .ok (.iload 4, 2) := by decide +kernel
theorem dX1_allows_14 : decode cX1_allows 14 = .ok (.iload_n 3, 1) := by decide +kernel
theorem dX1_allows_15 : decode cX1_allows 15 = .ok (.if_icmp .ge 26, 3) := by decide +kernel
theorem dX1_allows_18 : decode cX1_allows 18 = .ok (.aload_n 0, 1) := by decide +kernel
theorem dX1_allows_19 : decode cX1_allows 19 = .ok (.iload 4, 2) := by decide +kernel
theorem dX1_allows_21 : decode cX1_allows 21 = .ok (.invokevirtual 118, 3) := by decide +kernel
theorem dX1_allows_24 : decode cX1_allows 24 = .ok (.iload_n 1, 1) := by decide +kernel
theorem dX1_allows_25 : decode cX1_allows 25 = .ok (.bipush 91, 2) := by decide +kernel
theorem dX1_allows_27 : decode cX1_allows 27 = .ok (.imul, 1) := by decide +kernel
theorem dX1_allows_28 : decode cX1_allows 28 = .ok (.iload_n 2, 1) := by decide +kernel
theorem dX1_allows_29 : decode cX1_allows 29 = .ok (.iadd, 1) := by decide +kernel
theorem dX1_allows_30 : decode cX1_allows 30 = .ok (.if_icmp .ne 5, 3) := by decide +kernel
theorem dX1_allows_33 : decode cX1_allows 33 = .ok (.iconst 1, 1) := by decide +kernel
theorem dX1_allows_34 : decode cX1_allows 34 = .ok (.ireturn, 1) := by decide +kernel
theorem dX1_allows_35 : decode cX1_allows 35 = .ok (.iinc 4 1, 3) := by decide +kernel
theorem dX1_allows_38 : decode cX1_allows 38 = .ok (.goto (-26), 3) := by decide +kernel
theorem dX1_allows_41 : decode cX1_allows 41 = .ok (.iconst 0, 1) := by decide +kernel
theorem dX1_allows_42 : decode cX1_allows 42 = .ok (.ireturn, 1) := by decide +kernel
theorem dX1_listMoves_0 : decode cX1_listMoves 0 = .ok (.aload_n 0, 1) := by decide +kernel
theorem dX1_listMoves_1 : decode cX1_listMoves 1 = .ok (.getfield 42, 3) := by decide +kernel
theorem dX1_listMoves_4 : decode cX1_listMoves 4 = .ok (.ifCond .eq 4, 3) := by decide +kernel
theorem dX1_listMoves_7 : decode cX1_listMoves 7 = .ok (.return_, 1) := by decide +kernel
theorem dX1_listMoves_8 : decode cX1_listMoves 8 = .ok (.aload_n 0, 1) := by decide +kernel
theorem dX1_listMoves_9 : decode cX1_listMoves 9 = .ok (.iconst 1, 1) := by decide +kernel
theorem dX1_listMoves_10 : decode cX1_listMoves 10 = .ok (.putfield 42, 3) := by decide +kernel
theorem dX1_listMoves_13 : decode cX1_listMoves 13 = .ok (.aload_n 0, 1) := by decide +kernel
theorem dX1_listMoves_14 : decode cX1_listMoves 14 = .ok (.iconst 0, 1) := by decide +kernel
theorem dX1_listMoves_15 : decode cX1_listMoves 15 = .ok (.putfield 39, 3) := by decide +kernel
theorem dX1_listMoves_18 : decode cX1_listMoves 18 = .ok (.aload_n 0, 1) := by decide +kernel
theorem dX1_listMoves_19 : decode cX1_listMoves 19 = .ok (.invokevirtual 101, 3) := by decide +kernel
theorem dX1_listMoves_22 : decode cX1_listMoves 22 = .ok (.ifCond .ne 4, 3) := by decide +kernel
theorem dX1_listMoves_25 : decode cX1_listMoves 25 = .ok (.return_, 1) := by decide +kernel
theorem dX1_listMoves_26 : decode cX1_listMoves 26 = .ok (.aload_n 0, 1) := by decide +kernel
theorem dX1_listMoves_27 : decode cX1_listMoves 27 = .ok (.invokevirtual 121, 3) := by decide +kernel
theorem dX1_listMoves_30 : decode cX1_listMoves 30 = .ok (.iconst 0, 1) := by decide +kernel
theorem dX1_listMoves_31 : decode cX1_listMoves 31 = .ok (.istore_n 1, 1) := by decide +kernel
theorem dX1_listMoves_32 : decode cX1_listMoves 32 = .ok (.iload_n 1, 1) := by decide +kernel
theorem dX1_listMoves_33 : decode cX1_listMoves 33 = .ok (.bipush 91, 2) := by decide +kernel
theorem dX1_listMoves_35 : decode cX1_listMoves 35 = .ok (.if_icmp .ge 114, 3) := by decide +kernel
theorem dX1_listMoves_38 : decode cX1_listMoves 38 = .ok (.iload_n 1, 1) := by decide +kernel
theorem dX1_listMoves_39 : decode cX1_listMoves 39 = .ok (.invokestatic 73, 3) := by decide +kernel
theorem dX1_listMoves_42 : decode cX1_listMoves 42 = .ok (.istore_n 2, 1) := by decide +kernel
theorem dX1_listMoves_43 : decode cX1_listMoves 43 = .ok (.aload_n 0, 1) := by decide +kernel
theorem dX1_listMoves_44 : decode cX1_listMoves 44 = .ok (.iload_n 2, 1) := by decide +kernel
theorem dX1_listMoves_45 : decode cX1_listMoves 45 = .ok (.invokevirtual 124, 3) := by decide +kernel
theorem dX1_listMoves_48 : decode cX1_listMoves 48 = .ok (.aload_n 0, 1) := by decide +kernel
theorem dX1_listMoves_49 : decode cX1_listMoves 49 = .ok (.invokevirtual 128, 3) := by decide +kernel
theorem dX1_listMoves_52 : decode cX1_listMoves 52 = .ok (.iconst 0, 1) := by decide +kernel
theorem dX1_listMoves_53 : decode cX1_listMoves 53 = .ok (.istore_n 3, 1) := by decide +kernel
theorem dX1_listMoves_54 : decode cX1_listMoves 54 = .ok (.iload_n 3, 1) := by decide +kernel
theorem dX1_listMoves_55 : decode cX1_listMoves 55 = .ok (.aload_n 0, 1) := by decide +kernel
theorem dX1_listMoves_56 : decode cX1_listMoves 56 = .ok (.getfield 49, 3) := by decide +kernel
theorem dX1_listMoves_59 : decode cX1_listMoves 59 = .ok (.if_icmp .ge 84, 3) := by decide +kernel
theorem dX1_listMoves_62 : decode cX1_listMoves 62 = .ok (.iload_n 3, 1) := by decide +kernel
theorem dX1_listMoves_63 : decode cX1_listMoves 63 = .ok (.aload_n 0, 1) := by decide +kernel
theorem dX1_listMoves_64 : decode cX1_listMoves 64 = .ok (.getfield 46, 3) := by decide +kernel
theorem dX1_listMoves_67 : decode cX1_listMoves 67 = .ok (.arraylength, 1) := by decide +kernel
theorem dX1_listMoves_68 : decode cX1_listMoves 68 = .ok (.if_icmp .ge 75, 3) := by decide +kernel
theorem dX1_listMoves_71 : decode cX1_listMoves 71 = .ok (.aload_n 0, 1) := by decide +kernel
theorem dX1_listMoves_72 : decode cX1_listMoves 72 = .ok (.iload_n 2, 1) := by decide +kernel
theorem dX1_listMoves_73 : decode cX1_listMoves 73 = .ok (.aload_n 0, 1) := by decide +kernel
theorem dX1_listMoves_74 : decode cX1_listMoves 74 = .ok (.getfield 46, 3) := by decide +kernel
theorem dX1_listMoves_77 : decode cX1_listMoves 77 = .ok (.iload_n 3, 1) := by decide +kernel
theorem dX1_listMoves_78 : decode cX1_listMoves 78 = .ok (.iaload, 1) := by decide +kernel
theorem dX1_listMoves_79 : decode cX1_listMoves 79 = .ok (.invokevirtual 131, 3) := by decide +kernel
theorem dX1_listMoves_82 : decode cX1_listMoves 82 = .ok (.ifCond .eq 55, 3) := by decide +kernel
theorem dX1_listMoves_85 : decode cX1_listMoves 85 = .ok (.aload_n 0, 1) := by decide +kernel
theorem dX1_listMoves_86 : decode cX1_listMoves 86 = .ok (.getfield 39, 3) := by decide +kernel
theorem dX1_listMoves_89 : decode cX1_listMoves 89 = .ok (.ifCond .lt 48, 3) := by decide +kernel
theorem dX1_listMoves_92 : decode cX1_listMoves 92 = .ok (.aload_n 0, 1) := by decide +kernel
theorem dX1_listMoves_93 : decode cX1_listMoves 93 = .ok (.getfield 39, 3) := by decide +kernel
theorem dX1_listMoves_96 : decode cX1_listMoves 96 = .ok (.aload_n 0, 1) := by decide +kernel
theorem dX1_listMoves_97 : decode cX1_listMoves 97 = .ok (.getfield 35, 3) := by decide +kernel
theorem dX1_listMoves_100 : decode cX1_listMoves 100 = .ok (.arraylength, 1) := by decide +kernel
theorem dX1_listMoves_101 : decode cX1_listMoves 101 = .ok (.if_icmp .ge 36, 3) := by decide +kernel
theorem dX1_listMoves_104 : decode cX1_listMoves 104 = .ok (.aload_n 0, 1) := by decide +kernel
theorem dX1_listMoves_105 : decode cX1_listMoves 105 = .ok (.getfield 35, 3) := by decide +kernel
theorem dX1_listMoves_108 : decode cX1_listMoves 108 = .ok (.aload_n 0, 1) := by decide +kernel
theorem dX1_listMoves_109 : decode cX1_listMoves 109 = .ok (.getfield 39, 3) := by decide +kernel
theorem dX1_listMoves_112 : decode cX1_listMoves 112 = .ok (.iload_n 1, 1) := by decide +kernel
theorem dX1_listMoves_113 : decode cX1_listMoves 113 = .ok (.bipush 91, 2) := by decide +kernel
theorem dX1_listMoves_115 : decode cX1_listMoves 115 = .ok (.imul, 1) := by decide +kernel
theorem dX1_listMoves_116 : decode cX1_listMoves 116 = .ok (.aload_n 0, 1) := by decide +kernel
theorem dX1_listMoves_117 : decode cX1_listMoves 117 = .ok (.getfield 46, 3) := by decide +kernel
theorem dX1_listMoves_120 : decode cX1_listMoves 120 = .ok (.iload_n 3, 1) := by decide +kernel
theorem dX1_listMoves_121 : decode cX1_listMoves 121 = .ok (.iaload, 1) := by decide +kernel
theorem dX1_listMoves_122 : decode cX1_listMoves 122 = .ok (.invokestatic 94, 3) := by decide +kernel
theorem dX1_listMoves_125 : decode cX1_listMoves 125 = .ok (.iadd, 1) := by decide +kernel
theorem dX1_listMoves_126 : decode cX1_listMoves 126 = .ok (.iastore, 1) := by decide +kernel
theorem dX1_listMoves_127 : decode cX1_listMoves 127 = .ok (.aload_n 0, 1) := by decide +kernel
theorem dX1_listMoves_128 : decode cX1_listMoves 128 = .ok (.dup, 1) := by decide +kernel
theorem dX1_listMoves_129 : decode cX1_listMoves 129 = .ok (.getfield 39, 3) := by decide +kernel
theorem dX1_listMoves_132 : decode cX1_listMoves 132 = .ok (.iconst 1, 1) := by decide +kernel
theorem dX1_listMoves_133 : decode cX1_listMoves 133 = .ok (.iadd, 1) := by decide +kernel
theorem dX1_listMoves_134 : decode cX1_listMoves 134 = .ok (.putfield 39, 3) := by decide +kernel
theorem dX1_listMoves_137 : decode cX1_listMoves 137 = .ok (.iinc 3 1, 3) := by decide +kernel
theorem dX1_listMoves_140 : decode cX1_listMoves 140 = .ok (.goto (-86), 3) := by decide +kernel
theorem dX1_listMoves_143 : decode cX1_listMoves 143 = .ok (.iinc 1 1, 3) := by decide +kernel
theorem dX1_listMoves_146 : decode cX1_listMoves 146 = .ok (.goto (-114), 3) := by decide +kernel
theorem dX1_listMoves_149 : decode cX1_listMoves 149 = .ok (.return_, 1) := by decide +kernel
theorem dX1_countMoves_0 : decode cX1_countMoves 0 = .ok (.aload_n 0, 1) := by decide +kernel
theorem dX1_countMoves_1 : decode cX1_countMoves 1 = .ok (.invokevirtual 121, 3) := by decide +kernel
theorem dX1_countMoves_4 : decode cX1_countMoves 4 = .ok (.iconst 0, 1) := by decide +kernel
theorem dX1_countMoves_5 : decode cX1_countMoves 5 = .ok (.istore_n 2, 1) := by decide +kernel
theorem dX1_countMoves_6 : decode cX1_countMoves 6 = .ok (.iconst 0, 1) := by decide +kernel
theorem dX1_countMoves_7 : decode cX1_countMoves 7 = .ok (.istore_n 3, 1) := by decide +kernel
theorem dX1_countMoves_8 : decode cX1_countMoves 8 = .ok (.iload_n 3, 1) := by decide +kernel
theorem dX1_countMoves_9 : decode cX1_countMoves 9 = .ok (.bipush 91, 2) := by decide +kernel
theorem dX1_countMoves_11 : decode cX1_countMoves 11 = .ok (.if_icmp .ge 73, 3) := by decide +kernel
theorem dX1_countMoves_14 : decode cX1_countMoves 14 = .ok (.iload_n 2, 1) := by decide +kernel
theorem dX1_countMoves_15 : decode cX1_countMoves 15 = .ok (.iload_n 1, 1) := by decide +kernel
theorem dX1_countMoves_16 : decode cX1_countMoves 16 = .ok (.if_icmp .ge 68, 3) := by decide +kernel
theorem dX1_countMoves_19 : decode cX1_countMoves 19 = .ok (.iload_n 3, 1) := by decide +kernel
theorem dX1_countMoves_20 : decode cX1_countMoves 20 = .ok (.invokestatic 73, 3) := by decide +kernel
theorem dX1_countMoves_23 : decode cX1_countMoves 23 = .ok (.istore 4, 2) := by decide +kernel
theorem dX1_countMoves_25 : decode cX1_countMoves 25 = .ok (.aload_n 0, 1) := by decide +kernel
theorem dX1_countMoves_26 : decode cX1_countMoves 26 = .ok (.iload 4, 2) := by decide +kernel
theorem dX1_countMoves_28 : decode cX1_countMoves 28 = .ok (.invokevirtual 124, 3) := by decide +kernel
theorem dX1_countMoves_31 : decode cX1_countMoves 31 = .ok (.iconst 0, 1) := by decide +kernel
theorem dX1_countMoves_32 : decode cX1_countMoves 32 = .ok (.istore 5, 2) := by decide +kernel
theorem dX1_countMoves_34 : decode cX1_countMoves 34 = .ok (.iload 5, 2) := by decide +kernel
theorem dX1_countMoves_36 : decode cX1_countMoves 36 = .ok (.aload_n 0, 1) := by decide +kernel
theorem dX1_countMoves_37 : decode cX1_countMoves 37 = .ok (.getfield 49, 3) := by decide +kernel
theorem dX1_countMoves_40 : decode cX1_countMoves 40 = .ok (.if_icmp .ge 38, 3) := by decide +kernel
theorem dX1_countMoves_43 : decode cX1_countMoves 43 = .ok (.iload 5, 2) := by decide +kernel
theorem dX1_countMoves_45 : decode cX1_countMoves 45 = .ok (.aload_n 0, 1) := by decide +kernel
theorem dX1_countMoves_46 : decode cX1_countMoves 46 = .ok (.getfield 46, 3) := by decide +kernel
theorem dX1_countMoves_49 : decode cX1_countMoves 49 = .ok (.arraylength, 1) := by decide +kernel
theorem dX1_countMoves_50 : decode cX1_countMoves 50 = .ok (.if_icmp .ge 28, 3) := by decide +kernel
theorem dX1_countMoves_53 : decode cX1_countMoves 53 = .ok (.aload_n 0, 1) := by decide +kernel
theorem dX1_countMoves_54 : decode cX1_countMoves 54 = .ok (.iload 4, 2) := by decide +kernel
theorem dX1_countMoves_56 : decode cX1_countMoves 56 = .ok (.aload_n 0, 1) := by decide +kernel
theorem dX1_countMoves_57 : decode cX1_countMoves 57 = .ok (.getfield 46, 3) := by decide +kernel
theorem dX1_countMoves_60 : decode cX1_countMoves 60 = .ok (.iload 5, 2) := by decide +kernel
theorem dX1_countMoves_62 : decode cX1_countMoves 62 = .ok (.iaload, 1) := by decide +kernel
theorem dX1_countMoves_63 : decode cX1_countMoves 63 = .ok (.invokevirtual 131, 3) := by decide +kernel
theorem dX1_countMoves_66 : decode cX1_countMoves 66 = .ok (.ifCond .eq 6, 3) := by decide +kernel
theorem dX1_countMoves_69 : decode cX1_countMoves 69 = .ok (.iinc 2 1, 3) := by decide +kernel
theorem dX1_countMoves_72 : decode cX1_countMoves 72 = .ok (.iinc 5 1, 3) := by decide +kernel
theorem dX1_countMoves_75 : decode cX1_countMoves 75 = .ok (.goto (-41), 3) := by decide +kernel
theorem dX1_countMoves_78 : decode cX1_countMoves 78 = .ok (.iinc 3 1, 3) := by decide +kernel
theorem dX1_countMoves_81 : decode cX1_countMoves 81 = .ok (.goto (-73), 3) := by decide +kernel
theorem dX1_countMoves_84 : decode cX1_countMoves 84 = .ok (.iload_n 2, 1) := by decide +kernel
theorem dX1_countMoves_85 : decode cX1_countMoves 85 = .ok (.iload_n 1, 1) := by decide +kernel
theorem dX1_countMoves_86 : decode cX1_countMoves 86 = .ok (.invokestatic 135, 3) := by decide +kernel
theorem dX1_countMoves_89 : decode cX1_countMoves 89 = .ok (.ireturn, 1) := by decide +kernel
theorem dX1_sortTargets_0 : decode cX1_sortTargets 0 = .ok (.iconst 1, 1) := by decide +kernel
theorem dX1_sortTargets_1 : decode cX1_sortTargets 1 = .ok (.istore_n 1, 1) := by decide +kernel
theorem dX1_sortTargets_2 : decode cX1_sortTargets 2 = .ok (.iload_n 1, 1) := by decide +kernel
theorem dX1_sortTargets_3 : decode cX1_sortTargets 3 = .ok (.aload_n 0, 1) := by decide +kernel
theorem dX1_sortTargets_4 : decode cX1_sortTargets 4 = .ok (.getfield 49, 3) := by decide +kernel
theorem dX1_sortTargets_7 : decode cX1_sortTargets 7 = .ok (.if_icmp .ge 70, 3) := by decide +kernel
theorem dX1_sortTargets_10 : decode cX1_sortTargets 10 = .ok (.iload_n 1, 1) := by decide +kernel
theorem dX1_sortTargets_11 : decode cX1_sortTargets 11 = .ok (.aload_n 0, 1) := by decide +kernel
theorem dX1_sortTargets_12 : decode cX1_sortTargets 12 = .ok (.getfield 46, 3) := by decide +kernel
theorem dX1_sortTargets_15 : decode cX1_sortTargets 15 = .ok (.arraylength, 1) := by decide +kernel
theorem dX1_sortTargets_16 : decode cX1_sortTargets 16 = .ok (.if_icmp .ge 61, 3) := by decide +kernel
theorem dX1_sortTargets_19 : decode cX1_sortTargets 19 = .ok (.aload_n 0, 1) := by decide +kernel
theorem dX1_sortTargets_20 : decode cX1_sortTargets 20 = .ok (.getfield 46, 3) := by decide +kernel
theorem dX1_sortTargets_23 : decode cX1_sortTargets 23 = .ok (.iload_n 1, 1) := by decide +kernel
theorem dX1_sortTargets_24 : decode cX1_sortTargets 24 = .ok (.iaload, 1) := by decide +kernel
theorem dX1_sortTargets_25 : decode cX1_sortTargets 25 = .ok (.istore_n 2, 1) := by decide +kernel
theorem dX1_sortTargets_26 : decode cX1_sortTargets 26 = .ok (.iload_n 1, 1) := by decide +kernel
theorem dX1_sortTargets_27 : decode cX1_sortTargets 27 = .ok (.istore_n 3, 1) := by decide +kernel
theorem dX1_sortTargets_28 : decode cX1_sortTargets 28 = .ok (.iload_n 3, 1) := by decide +kernel
theorem dX1_sortTargets_29 : decode cX1_sortTargets 29 = .ok (.ifCond .le 35, 3) := by decide +kernel
theorem dX1_sortTargets_32 : decode cX1_sortTargets 32 = .ok (.aload_n 0, 1) := by decide +kernel
theorem dX1_sortTargets_33 : decode cX1_sortTargets 33 = .ok (.getfield 46, 3) := by decide +kernel
theorem dX1_sortTargets_36 : decode cX1_sortTargets 36 = .ok (.iload_n 3, 1) := by decide +kernel
theorem dX1_sortTargets_37 : decode cX1_sortTargets 37 = .ok (.iconst 1, 1) := by decide +kernel
theorem dX1_sortTargets_38 : decode cX1_sortTargets 38 = .ok (.isub, 1) := by decide +kernel
theorem dX1_sortTargets_39 : decode cX1_sortTargets 39 = .ok (.iaload, 1) := by decide +kernel
theorem dX1_sortTargets_40 : decode cX1_sortTargets 40 = .ok (.iload_n 2, 1) := by decide +kernel
theorem dX1_sortTargets_41 : decode cX1_sortTargets 41 = .ok (.if_icmp .le 23, 3) := by decide +kernel
theorem dX1_sortTargets_44 : decode cX1_sortTargets 44 = .ok (.aload_n 0, 1) := by decide +kernel
theorem dX1_sortTargets_45 : decode cX1_sortTargets 45 = .ok (.getfield 46, 3) := by decide +kernel
theorem dX1_sortTargets_48 : decode cX1_sortTargets 48 = .ok (.iload_n 3, 1) := by decide +kernel
theorem dX1_sortTargets_49 : decode cX1_sortTargets 49 = .ok (.aload_n 0, 1) := by decide +kernel
theorem dX1_sortTargets_50 : decode cX1_sortTargets 50 = .ok (.getfield 46, 3) := by decide +kernel
theorem dX1_sortTargets_53 : decode cX1_sortTargets 53 = .ok (.iload_n 3, 1) := by decide +kernel
theorem dX1_sortTargets_54 : decode cX1_sortTargets 54 = .ok (.iconst 1, 1) := by decide +kernel
theorem dX1_sortTargets_55 : decode cX1_sortTargets 55 = .ok (.isub, 1) := by decide +kernel
theorem dX1_sortTargets_56 : decode cX1_sortTargets 56 = .ok (.iaload, 1) := by decide +kernel
theorem dX1_sortTargets_57 : decode cX1_sortTargets 57 = .ok (.iastore, 1) := by decide +kernel
theorem dX1_sortTargets_58 : decode cX1_sortTargets 58 = .ok (.iinc 3 (-1), 3) := by decide +kernel
theorem dX1_sortTargets_61 : decode cX1_sortTargets 61 = .ok (.goto (-33), 3) := by decide +kernel
theorem dX1_sortTargets_64 : decode cX1_sortTargets 64 = .ok (.aload_n 0, 1) := by decide +kernel
theorem dX1_sortTargets_65 : decode cX1_sortTargets 65 = .ok (.getfield 46, 3) := by decide +kernel
theorem dX1_sortTargets_68 : decode cX1_sortTargets 68 = .ok (.iload_n 3, 1) := by decide +kernel
theorem dX1_sortTargets_69 : decode cX1_sortTargets 69 = .ok (.iload_n 2, 1) := by decide +kernel
theorem dX1_sortTargets_70 : decode cX1_sortTargets 70 = .ok (.iastore, 1) := by decide +kernel
theorem dX1_sortTargets_71 : decode cX1_sortTargets 71 = .ok (.iinc 1 1, 3) := by decide +kernel
theorem dX1_sortTargets_74 : decode cX1_sortTargets 74 = .ok (.goto (-72), 3) := by decide +kernel
theorem dX1_sortTargets_77 : decode cX1_sortTargets 77 = .ok (.return_, 1) := by decide +kernel
theorem dX1_gatherTargets_0 : decode cX1_gatherTargets 0 = .ok (.aload_n 0, 1) := by decide +kernel
theorem dX1_gatherTargets_1 : decode cX1_gatherTargets 1 = .ok (.iconst 0, 1) := by decide +kernel
theorem dX1_gatherTargets_2 : decode cX1_gatherTargets 2 = .ok (.putfield 49, 3) := by decide +kernel
theorem dX1_gatherTargets_5 : decode cX1_gatherTargets 5 = .ok (.aload_n 0, 1) := by decide +kernel
theorem dX1_gatherTargets_6 : decode cX1_gatherTargets 6 = .ok (.getfield 12, 3) := by decide +kernel
theorem dX1_gatherTargets_9 : decode cX1_gatherTargets 9 = .ok (.iload_n 1, 1) := by decide +kernel
theorem dX1_gatherTargets_10 : decode cX1_gatherTargets 10 = .ok (.invokevirtual 85, 3) := by decide +kernel
theorem dX1_gatherTargets_13 : decode cX1_gatherTargets 13 = .ok (.istore_n 2, 1) := by decide +kernel
theorem dX1_gatherTargets_14 : decode cX1_gatherTargets 14 = .ok (.iload_n 2, 1) := by decide +kernel
theorem dX1_gatherTargets_15 : decode cX1_gatherTargets 15 = .ok (.invokestatic 140, 3) := by decide +kernel
theorem dX1_gatherTargets_18 : decode cX1_gatherTargets 18 = .ok (.aload_n 0, 1) := by decide +kernel
theorem dX1_gatherTargets_19 : decode cX1_gatherTargets 19 = .ok (.getfield 18, 3) := by decide +kernel
theorem dX1_gatherTargets_22 : decode cX1_gatherTargets 22 = .ok (.if_icmp .eq 4, 3) := by decide +kernel
theorem dX1_gatherTargets_25 : decode cX1_gatherTargets 25 = .ok (.return_, 1) := by decide +kernel
theorem dX1_gatherTargets_26 : decode cX1_gatherTargets 26 = .ok (.iload_n 2, 1) := by decide +kernel
theorem dX1_gatherTargets_27 : decode cX1_gatherTargets 27 = .ok (.invokestatic 143, 3) := by decide +kernel
theorem dX1_gatherTargets_30 : decode cX1_gatherTargets 30 = .ok (.istore_n 3, 1) := by decide +kernel
theorem dX1_gatherTargets_31 : decode cX1_gatherTargets 31 = .ok (.iload_n 3, 1) := by decide +kernel
theorem dX1_gatherTargets_32 : decode cX1_gatherTargets 32 = .ok (.bipush 6, 2) := by decide +kernel
theorem dX1_gatherTargets_34 : decode cX1_gatherTargets 34 = .ok (.if_icmp .ne 9, 3) := by decide +kernel
theorem dX1_gatherTargets_37 : decode cX1_gatherTargets 37 = .ok (.aload_n 0, 1) := by decide +kernel
theorem dX1_gatherTargets_38 : decode cX1_gatherTargets 38 = .ok (.iload_n 1, 1) := by decide +kernel
theorem dX1_gatherTargets_39 : decode cX1_gatherTargets 39 = .ok (.invokevirtual 146, 3) := by decide +kernel
theorem dX1_gatherTargets_42 : decode cX1_gatherTargets 42 = .ok (.return_, 1) := by decide +kernel
theorem dX1_gatherTargets_43 : decode cX1_gatherTargets 43 = .ok (.iload_n 3, 1) := by decide +kernel
theorem dX1_gatherTargets_44 : decode cX1_gatherTargets 44 = .ok (.invokestatic 149, 3) := by decide +kernel
theorem dX1_gatherTargets_47 : decode cX1_gatherTargets 47 = .ok (.astore 4, 2) := by decide +kernel
theorem dX1_gatherTargets_49 : decode cX1_gatherTargets 49 = .ok (.iload_n 3, 1) := by decide +kernel
theorem dX1_gatherTargets_50 : decode cX1_gatherTargets 50 = .ok (.invokestatic 153, 3) := by decide +kernel
theorem dX1_gatherTargets_53 : decode cX1_gatherTargets 53 = .ok (.aload 4, 2) := by decide +kernel
theorem dX1_gatherTargets_55 : decode cX1_gatherTargets 55 = .ok (.arraylength, 1) := by decide +kernel
theorem dX1_gatherTargets_56 : decode cX1_gatherTargets 56 = .ok (.invokestatic 135, 3) := by decide +kernel
theorem dX1_gatherTargets_59 : decode cX1_gatherTargets 59 = .ok (.istore 5, 2) := by decide +kernel
theorem dX1_gatherTargets_61 : decode cX1_gatherTargets 61 = .ok (.iload_n 3, 1) := by decide +kernel
theorem dX1_gatherTargets_62 : decode cX1_gatherTargets 62 = .ok (.invokestatic 156, 3) := by decide +kernel
theorem dX1_gatherTargets_65 : decode cX1_gatherTargets 65 = .ok (.istore 6, 2) := by decide +kernel
theorem dX1_gatherTargets_67 : decode cX1_gatherTargets 67 = .ok (.iload_n 3, 1) := by decide +kernel
theorem dX1_gatherTargets_68 : decode cX1_gatherTargets 68 = .ok (.invokestatic 159, 3) := by decide +kernel
theorem dX1_gatherTargets_71 : decode cX1_gatherTargets 71 = .ok (.istore 7, 2) := by decide +kernel
theorem dX1_gatherTargets_73 : decode cX1_gatherTargets 73 = .ok (.iload 7, 2) := by decide +kernel
theorem dX1_gatherTargets_75 : decode cX1_gatherTargets 75 = .ok (.iload 5, 2) := by decide +kernel
theorem dX1_gatherTargets_77 : decode cX1_gatherTargets 77 = .ok (.if_icmp .ge 53, 3) := by decide +kernel
theorem dX1_gatherTargets_80 : decode cX1_gatherTargets 80 = .ok (.iload_n 1, 1) := by decide +kernel
theorem dX1_gatherTargets_81 : decode cX1_gatherTargets 81 = .ok (.aload 4, 2) := by decide +kernel
theorem dX1_gatherTargets_83 : decode cX1_gatherTargets 83 = .ok (.iload 7, 2) := by decide +kernel
theorem dX1_gatherTargets_85 : decode cX1_gatherTargets 85 = .ok (.iaload, 1) := by decide +kernel
theorem dX1_gatherTargets_86 : decode cX1_gatherTargets 86 = .ok (.iadd, 1) := by decide +kernel
theorem dX1_gatherTargets_87 : decode cX1_gatherTargets 87 = .ok (.istore 8, 2) := by decide +kernel
theorem dX1_gatherTargets_89 : decode cX1_gatherTargets 89 = .ok (.iconst 0, 1) := by decide +kernel
theorem dX1_gatherTargets_90 : decode cX1_gatherTargets 90 = .ok (.istore 9, 2) := by decide +kernel
theorem dX1_gatherTargets_92 : decode cX1_gatherTargets 92 = .ok (.iload 9, 2) := by decide +kernel
theorem dX1_gatherTargets_94 : decode cX1_gatherTargets 94 = .ok (.iload 6, 2) := by decide +kernel
theorem dX1_gatherTargets_96 : decode cX1_gatherTargets 96 = .ok (.if_icmp .ge 28, 3) := by decide +kernel
theorem dX1_gatherTargets_99 : decode cX1_gatherTargets 99 = .ok (.aload_n 0, 1) := by decide +kernel
theorem dX1_gatherTargets_100 : decode cX1_gatherTargets 100 = .ok (.iload 8, 2) := by decide +kernel
theorem dX1_gatherTargets_102 : decode cX1_gatherTargets 102 = .ok (.invokevirtual 162, 3) := by decide +kernel
theorem dX1_gatherTargets_105 : decode cX1_gatherTargets 105 = .ok (.ifCond .eq 19, 3) := by decide +kernel
theorem dX1_gatherTargets_108 : decode cX1_gatherTargets 108 = .ok (.iload 8, 2) := by decide +kernel
theorem dX1_gatherTargets_110 : decode cX1_gatherTargets 110 = .ok (.aload 4, 2) := by decide +kernel
theorem dX1_gatherTargets_112 : decode cX1_gatherTargets 112 = .ok (.iload 7, 2) := by decide +kernel
theorem dX1_gatherTargets_114 : decode cX1_gatherTargets 114 = .ok (.iaload, 1) := by decide +kernel
theorem dX1_gatherTargets_115 : decode cX1_gatherTargets 115 = .ok (.iadd, 1) := by decide +kernel
theorem dX1_gatherTargets_116 : decode cX1_gatherTargets 116 = .ok (.istore 8, 2) := by decide +kernel
theorem dX1_gatherTargets_118 : decode cX1_gatherTargets 118 = .ok (.iinc 9 1, 3) := by decide +kernel
theorem dX1_gatherTargets_121 : decode cX1_gatherTargets 121 = .ok (.goto (-29), 3) := by decide +kernel
theorem dX1_gatherTargets_124 : decode cX1_gatherTargets 124 = .ok (.iinc 7 1, 3) := by decide +kernel
theorem dX1_gatherTargets_127 : decode cX1_gatherTargets 127 = .ok (.goto (-54), 3) := by decide +kernel
theorem dX1_gatherTargets_130 : decode cX1_gatherTargets 130 = .ok (.return_, 1) := by decide +kernel
theorem dX1_offer_0 : decode cX1_offer 0 = .ok (.aload_n 0, 1) := by decide +kernel
theorem dX1_offer_1 : decode cX1_offer 1 = .ok (.getfield 12, 3) := by decide +kernel
theorem dX1_offer_4 : decode cX1_offer 4 = .ok (.iload_n 1, 1) := by decide +kernel
theorem dX1_offer_5 : decode cX1_offer 5 = .ok (.invokevirtual 85, 3) := by decide +kernel
theorem dX1_offer_8 : decode cX1_offer 8 = .ok (.istore_n 2, 1) := by decide +kernel
theorem dX1_offer_9 : decode cX1_offer 9 = .ok (.iload_n 2, 1) := by decide +kernel
theorem dX1_offer_10 : decode cX1_offer 10 = .ok (.iconst (-1), 1) := by decide +kernel
theorem dX1_offer_11 : decode cX1_offer 11 = .ok (.if_icmp .eq 19, 3) := by decide +kernel
theorem dX1_offer_14 : decode cX1_offer 14 = .ok (.iload_n 2, 1) := by decide +kernel
theorem dX1_offer_15 : decode cX1_offer 15 = .ok (.invokestatic 140, 3) := by decide +kernel
theorem dX1_offer_18 : decode cX1_offer 18 = .ok (.aload_n 0, 1) := by decide +kernel
theorem dX1_offer_19 : decode cX1_offer 19 = .ok (.getfield 18, 3) := by decide +kernel
theorem dX1_offer_22 : decode cX1_offer 22 = .ok (.if_icmp .eq 8, 3) := by decide +kernel
theorem dX1_offer_25 : decode cX1_offer 25 = .ok (.aload_n 0, 1) := by decide +kernel
theorem dX1_offer_26 : decode cX1_offer 26 = .ok (.iload_n 1, 1) := by decide +kernel
theorem dX1_offer_27 : decode cX1_offer 27 = .ok (.invokevirtual 165, 3) := by decide +kernel
theorem dX1_offer_30 : decode cX1_offer 30 = .ok (.iload_n 2, 1) := by decide +kernel
theorem dX1_offer_31 : decode cX1_offer 31 = .ok (.ifCond .ne 7, 3) := by decide +kernel
theorem dX1_offer_34 : decode cX1_offer 34 = .ok (.iconst 1, 1) := by decide +kernel
theorem dX1_offer_35 : decode cX1_offer 35 = .ok (.goto 4, 3) := by decide +kernel
theorem dX1_offer_38 : decode cX1_offer 38 = .ok (.iconst 0, 1) := by decide +kernel
theorem dX1_offer_39 : decode cX1_offer 39 = .ok (.ireturn, 1) := by decide +kernel
theorem dX1_gatherForPawn_0 : decode cX1_gatherForPawn 0 = .ok (.iload_n 1, 1) := by decide +kernel
theorem dX1_gatherForPawn_1 : decode cX1_gatherForPawn 1 = .ok (.aload_n 0, 1) := by decide +kernel
theorem dX1_gatherForPawn_2 : decode cX1_gatherForPawn 2 = .ok (.getfield 18, 3) := by decide +kernel
theorem dX1_gatherForPawn_5 : decode cX1_gatherForPawn 5 = .ok (.invokestatic 168, 3) := by decide +kernel
theorem dX1_gatherForPawn_8 : decode cX1_gatherForPawn 8 = .ok (.iadd, 1) := by decide +kernel
theorem dX1_gatherForPawn_9 : decode cX1_gatherForPawn 9 = .ok (.istore_n 2, 1) := by decide +kernel
theorem dX1_gatherForPawn_10 : decode cX1_gatherForPawn 10 = .ok (.aload_n 0, 1) := by decide +kernel
theorem dX1_gatherForPawn_11 : decode cX1_gatherForPawn 11 = .ok (.getfield 12, 3) := by decide +kernel
theorem dX1_gatherForPawn_14 : decode cX1_gatherForPawn 14 = .ok (.iload_n 2, 1) := by decide +kernel
theorem dX1_gatherForPawn_15 : decode cX1_gatherForPawn 15 = .ok (.invokevirtual 85, 3) := by decide +kernel
theorem dX1_gatherForPawn_18 : decode cX1_gatherForPawn 18 = .ok (.ifCond .ne 45, 3) := by decide +kernel
theorem dX1_gatherForPawn_21 : decode cX1_gatherForPawn 21 = .ok (.aload_n 0, 1) := by decide +kernel
theorem dX1_gatherForPawn_22 : decode cX1_gatherForPawn 22 = .ok (.iload_n 2, 1) := by decide +kernel
theorem dX1_gatherForPawn_23 : decode cX1_gatherForPawn 23 = .ok (.invokevirtual 165, 3) := by decide +kernel
theorem dX1_gatherForPawn_26 : decode cX1_gatherForPawn 26 = .ok (.iload_n 2, 1) := by decide +kernel
theorem dX1_gatherForPawn_27 : decode cX1_gatherForPawn 27 = .ok (.aload_n 0, 1) := by decide +kernel
theorem dX1_gatherForPawn_28 : decode cX1_gatherForPawn 28 = .ok (.getfield 18, 3) := by decide +kernel
theorem dX1_gatherForPawn_31 : decode cX1_gatherForPawn 31 = .ok (.invokestatic 168, 3) := by decide +kernel
theorem dX1_gatherForPawn_34 : decode cX1_gatherForPawn 34 = .ok (.iadd, 1) := by decide +kernel
theorem dX1_gatherForPawn_35 : decode cX1_gatherForPawn 35 = .ok (.istore_n 3, 1) := by decide +kernel
theorem dX1_gatherForPawn_36 : decode cX1_gatherForPawn 36 = .ok (.iload_n 1, 1) := by decide +kernel
theorem dX1_gatherForPawn_37 : decode cX1_gatherForPawn 37 = .ok (.aload_n 0, 1) := by decide +kernel
theorem dX1_gatherForPawn_38 : decode cX1_gatherForPawn 38 = .ok (.getfield 18, 3) := by decide +kernel
theorem dX1_gatherForPawn_41 : decode cX1_gatherForPawn 41 = .ok (.invokestatic 171, 3) := by decide +kernel
theorem dX1_gatherForPawn_44 : decode cX1_gatherForPawn 44 = .ok (.ifCond .eq 19, 3) := by decide +kernel
theorem dX1_gatherForPawn_47 : decode cX1_gatherForPawn 47 = .ok (.aload_n 0, 1) := by decide +kernel
theorem dX1_gatherForPawn_48 : decode cX1_gatherForPawn 48 = .ok (.getfield 12, 3) := by decide +kernel
theorem dX1_gatherForPawn_51 : decode cX1_gatherForPawn 51 = .ok (.iload_n 3, 1) := by decide +kernel
theorem dX1_gatherForPawn_52 : decode cX1_gatherForPawn 52 = .ok (.invokevirtual 85, 3) := by decide +kernel
theorem dX1_gatherForPawn_55 : decode cX1_gatherForPawn 55 = .ok (.ifCond .ne 8, 3) := by decide +kernel
theorem dX1_gatherForPawn_58 : decode cX1_gatherForPawn 58 = .ok (.aload_n 0, 1) := by decide +kernel
theorem dX1_gatherForPawn_59 : decode cX1_gatherForPawn 59 = .ok (.iload_n 3, 1) := by decide +kernel
theorem dX1_gatherForPawn_60 : decode cX1_gatherForPawn 60 = .ok (.invokevirtual 165, 3) := by decide +kernel
theorem dX1_gatherForPawn_63 : decode cX1_gatherForPawn 63 = .ok (.iconst 0, 1) := by decide +kernel
theorem dX1_gatherForPawn_64 : decode cX1_gatherForPawn 64 = .ok (.istore_n 3, 1) := by decide +kernel
theorem dX1_gatherForPawn_65 : decode cX1_gatherForPawn 65 = .ok (.iload_n 3, 1) := by decide +kernel
theorem dX1_gatherForPawn_66 : decode cX1_gatherForPawn 66 = .ok (.getstatic 174, 3) := by decide +kernel
theorem dX1_gatherForPawn_69 : decode cX1_gatherForPawn 69 = .ok (.arraylength, 1) := by decide +kernel
theorem dX1_gatherForPawn_70 : decode cX1_gatherForPawn 70 = .ok (.if_icmp .ge 62, 3) := by decide +kernel
theorem dX1_gatherForPawn_73 : decode cX1_gatherForPawn 73 = .ok (.iload_n 1, 1) := by decide +kernel
theorem dX1_gatherForPawn_74 : decode cX1_gatherForPawn 74 = .ok (.getstatic 174, 3) := by decide +kernel
theorem dX1_gatherForPawn_77 : decode cX1_gatherForPawn 77 = .ok (.iload_n 3, 1) := by decide +kernel
theorem dX1_gatherForPawn_78 : decode cX1_gatherForPawn 78 = .ok (.iaload, 1) := by decide +kernel
theorem dX1_gatherForPawn_79 : decode cX1_gatherForPawn 79 = .ok (.aload_n 0, 1) := by decide +kernel
theorem dX1_gatherForPawn_80 : decode cX1_gatherForPawn 80 = .ok (.getfield 18, 3) := by decide +kernel
theorem dX1_gatherForPawn_83 : decode cX1_gatherForPawn 83 = .ok (.invokestatic 168, 3) := by decide +kernel
theorem dX1_gatherForPawn_86 : decode cX1_gatherForPawn 86 = .ok (.imul, 1) := by decide +kernel
theorem dX1_gatherForPawn_87 : decode cX1_gatherForPawn 87 = .ok (.iadd, 1) := by decide +kernel
theorem dX1_gatherForPawn_88 : decode cX1_gatherForPawn 88 = .ok (.istore 4, 2) := by decide +kernel
theorem dX1_gatherForPawn_90 : decode cX1_gatherForPawn 90 = .ok (.iload 4, 2) := by decide +kernel
theorem dX1_gatherForPawn_92 : decode cX1_gatherForPawn 92 = .ok (.aload_n 0, 1) := by decide +kernel
theorem dX1_gatherForPawn_93 : decode cX1_gatherForPawn 93 = .ok (.getfield 25, 3) := by decide +kernel
theorem dX1_gatherForPawn_96 : decode cX1_gatherForPawn 96 = .ok (.if_icmp .eq 24, 3) := by decide +kernel
theorem dX1_gatherForPawn_99 : decode cX1_gatherForPawn 99 = .ok (.aload_n 0, 1) := by decide +kernel
theorem dX1_gatherForPawn_100 : decode cX1_gatherForPawn 100 = .ok (.getfield 12, 3) := by decide +kernel
theorem dX1_gatherForPawn_103 : decode cX1_gatherForPawn 103 = .ok (.iload 4, 2) := by decide +kernel
theorem dX1_gatherForPawn_105 : decode cX1_gatherForPawn 105 = .ok (.invokevirtual 85, 3) := by decide +kernel
theorem dX1_gatherForPawn_108 : decode cX1_gatherForPawn 108 = .ok (.invokestatic 140, 3) := by decide +kernel
theorem dX1_gatherForPawn_111 : decode cX1_gatherForPawn 111 = .ok (.iconst 1, 1) := by decide +kernel
theorem dX1_gatherForPawn_112 : decode cX1_gatherForPawn 112 = .ok (.aload_n 0, 1) := by decide +kernel
theorem dX1_gatherForPawn_113 : decode cX1_gatherForPawn 113 = .ok (.getfield 18, 3) := by decide +kernel
theorem dX1_gatherForPawn_116 : decode cX1_gatherForPawn 116 = .ok (.isub, 1) := by decide +kernel
theorem dX1_gatherForPawn_117 : decode cX1_gatherForPawn 117 = .ok (.if_icmp .ne 9, 3) := by decide +kernel
theorem dX1_gatherForPawn_120 : decode cX1_gatherForPawn 120 = .ok (.aload_n 0, 1) := by decide +kernel
theorem dX1_gatherForPawn_121 : decode cX1_gatherForPawn 121 = .ok (.iload 4, 2) := by decide +kernel
theorem dX1_gatherForPawn_123 : decode cX1_gatherForPawn 123 = .ok (.invokevirtual 165, 3) := by decide +kernel
theorem dX1_gatherForPawn_126 : decode cX1_gatherForPawn 126 = .ok (.iinc 3 1, 3) := by decide +kernel
theorem dX1_gatherForPawn_129 : decode cX1_gatherForPawn 129 = .ok (.goto (-64), 3) := by decide +kernel
theorem dX1_gatherForPawn_132 : decode cX1_gatherForPawn 132 = .ok (.return_, 1) := by decide +kernel
theorem dX1_keepTarget_0 : decode cX1_keepTarget 0 = .ok (.aload_n 0, 1) := by decide +kernel
theorem dX1_keepTarget_1 : decode cX1_keepTarget 1 = .ok (.getfield 49, 3) := by decide +kernel
theorem dX1_keepTarget_4 : decode cX1_keepTarget 4 = .ok (.ifCond .lt 35, 3) := by decide +kernel
theorem dX1_keepTarget_7 : decode cX1_keepTarget 7 = .ok (.aload_n 0, 1) := by decide +kernel
theorem dX1_keepTarget_8 : decode cX1_keepTarget 8 = .ok (.getfield 49, 3) := by decide +kernel
theorem dX1_keepTarget_11 : decode cX1_keepTarget 11 = .ok (.aload_n 0, 1) := by decide +kernel
theorem dX1_keepTarget_12 : decode cX1_keepTarget 12 = .ok (.getfield 46, 3) := by decide +kernel
theorem dX1_keepTarget_15 : decode cX1_keepTarget 15 = .ok (.arraylength, 1) := by decide +kernel
theorem dX1_keepTarget_16 : decode cX1_keepTarget 16 = .ok (.if_icmp .ge 23, 3) := by decide +kernel
theorem dX1_keepTarget_19 : decode cX1_keepTarget 19 = .ok (.aload_n 0, 1) := by decide +kernel
theorem dX1_keepTarget_20 : decode cX1_keepTarget 20 = .ok (.getfield 46, 3) := by decide +kernel
theorem dX1_keepTarget_23 : decode cX1_keepTarget 23 = .ok (.aload_n 0, 1) := by decide +kernel
theorem dX1_keepTarget_24 : decode cX1_keepTarget 24 = .ok (.getfield 49, 3) := by decide +kernel
theorem dX1_keepTarget_27 : decode cX1_keepTarget 27 = .ok (.iload_n 1, 1) := by decide +kernel
theorem dX1_keepTarget_28 : decode cX1_keepTarget 28 = .ok (.iastore, 1) := by decide +kernel
theorem dX1_keepTarget_29 : decode cX1_keepTarget 29 = .ok (.aload_n 0, 1) := by decide +kernel
theorem dX1_keepTarget_30 : decode cX1_keepTarget 30 = .ok (.dup, 1) := by decide +kernel
theorem dX1_keepTarget_31 : decode cX1_keepTarget 31 = .ok (.getfield 49, 3) := by decide +kernel
theorem dX1_keepTarget_34 : decode cX1_keepTarget 34 = .ok (.iconst 1, 1) := by decide +kernel
theorem dX1_keepTarget_35 : decode cX1_keepTarget 35 = .ok (.iadd, 1) := by decide +kernel
theorem dX1_keepTarget_36 : decode cX1_keepTarget 36 = .ok (.putfield 49, 3) := by decide +kernel
theorem dX1_keepTarget_39 : decode cX1_keepTarget 39 = .ok (.return_, 1) := by decide +kernel
theorem dX1_lookAtKing_0 : decode cX1_lookAtKing 0 = .ok (.aload_n 0, 1) := by decide +kernel
theorem dX1_lookAtKing_1 : decode cX1_lookAtKing 1 = .ok (.getfield 12, 3) := by decide +kernel
theorem dX1_lookAtKing_4 : decode cX1_lookAtKing 4 = .ok (.aload_n 0, 1) := by decide +kernel
theorem dX1_lookAtKing_5 : decode cX1_lookAtKing 5 = .ok (.getfield 18, 3) := by decide +kernel
theorem dX1_lookAtKing_8 : decode cX1_lookAtKing 8 = .ok (.invokevirtual 91, 3) := by decide +kernel
theorem dX1_lookAtKing_11 : decode cX1_lookAtKing 11 = .ok (.istore_n 1, 1) := by decide +kernel
theorem dX1_lookAtKing_12 : decode cX1_lookAtKing 12 = .ok (.aload_n 0, 1) := by decide +kernel
theorem dX1_lookAtKing_13 : decode cX1_lookAtKing 13 = .ok (.aload_n 0, 1) := by decide +kernel
theorem dX1_lookAtKing_14 : decode cX1_lookAtKing 14 = .ok (.getfield 12, 3) := by decide +kernel
theorem dX1_lookAtKing_17 : decode cX1_lookAtKing 17 = .ok (.iload_n 1, 1) := by decide +kernel
theorem dX1_lookAtKing_18 : decode cX1_lookAtKing 18 = .ok (.iconst 1, 1) := by decide +kernel
theorem dX1_lookAtKing_19 : decode cX1_lookAtKing 19 = .ok (.aload_n 0, 1) := by decide +kernel
theorem dX1_lookAtKing_20 : decode cX1_lookAtKing 20 = .ok (.getfield 18, 3) := by decide +kernel
theorem dX1_lookAtKing_23 : decode cX1_lookAtKing 23 = .ok (.isub, 1) := by decide +kernel
theorem dX1_lookAtKing_24 : decode cX1_lookAtKing 24 = .ok (.invokevirtual 88, 3) := by decide +kernel
theorem dX1_lookAtKing_27 : decode cX1_lookAtKing 27 = .ok (.ifCond .le 7, 3) := by decide +kernel
theorem dX1_lookAtKing_30 : decode cX1_lookAtKing 30 = .ok (.iconst 1, 1) := by decide +kernel
theorem dX1_lookAtKing_31 : decode cX1_lookAtKing 31 = .ok (.goto 4, 3) := by decide +kernel
theorem dX1_lookAtKing_34 : decode cX1_lookAtKing 34 = .ok (.iconst 0, 1) := by decide +kernel
theorem dX1_lookAtKing_35 : decode cX1_lookAtKing 35 = .ok (.putfield 61, 3) := by decide +kernel
theorem dX1_lookAtKing_38 : decode cX1_lookAtKing 38 = .ok (.aload_n 0, 1) := by decide +kernel
theorem dX1_lookAtKing_39 : decode cX1_lookAtKing 39 = .ok (.iconst 0, 1) := by decide +kernel
theorem dX1_lookAtKing_40 : decode cX1_lookAtKing 40 = .ok (.putfield 58, 3) := by decide +kernel
theorem dX1_lookAtKing_43 : decode cX1_lookAtKing 43 = .ok (.iconst 0, 1) := by decide +kernel
theorem dX1_lookAtKing_44 : decode cX1_lookAtKing 44 = .ok (.istore_n 2, 1) := by decide +kernel
theorem dX1_lookAtKing_45 : decode cX1_lookAtKing 45 = .ok (.iload_n 2, 1) := by decide +kernel
theorem dX1_lookAtKing_46 : decode cX1_lookAtKing 46 = .ok (.getstatic 52, 3) := by decide +kernel
theorem dX1_lookAtKing_49 : decode cX1_lookAtKing 49 = .ok (.arraylength, 1) := by decide +kernel
theorem dX1_lookAtKing_50 : decode cX1_lookAtKing 50 = .ok (.if_icmp .ge 129, 3) := by decide +kernel
theorem dX1_lookAtKing_53 : decode cX1_lookAtKing 53 = .ok (.aload_n 0, 1) := by decide +kernel
theorem dX1_lookAtKing_54 : decode cX1_lookAtKing 54 = .ok (.getfield 12, 3) := by decide +kernel
theorem dX1_lookAtKing_57 : decode cX1_lookAtKing 57 = .ok (.iload_n 1, 1) := by decide +kernel
theorem dX1_lookAtKing_58 : decode cX1_lookAtKing 58 = .ok (.getstatic 52, 3) := by decide +kernel
theorem dX1_lookAtKing_61 : decode cX1_lookAtKing 61 = .ok (.iload_n 2, 1) := by decide +kernel
theorem dX1_lookAtKing_62 : decode cX1_lookAtKing 62 = .ok (.iaload, 1) := by decide +kernel
theorem dX1_lookAtKing_63 : decode cX1_lookAtKing 63 = .ok (.invokevirtual 177, 3) := by decide +kernel
theorem dX1_lookAtKing_66 : decode cX1_lookAtKing 66 = .ok (.istore_n 3, 1) := by decide +kernel
theorem dX1_lookAtKing_67 : decode cX1_lookAtKing 67 = .ok (.aload_n 0, 1) := by decide +kernel
theorem dX1_lookAtKing_68 : decode cX1_lookAtKing 68 = .ok (.getfield 12, 3) := by decide +kernel
theorem dX1_lookAtKing_71 : decode cX1_lookAtKing 71 = .ok (.aload_n 0, 1) := by decide +kernel
theorem dX1_lookAtKing_72 : decode cX1_lookAtKing 72 = .ok (.getfield 12, 3) := by decide +kernel
theorem dX1_lookAtKing_75 : decode cX1_lookAtKing 75 = .ok (.iload_n 3, 1) := by decide +kernel
theorem dX1_lookAtKing_76 : decode cX1_lookAtKing 76 = .ok (.getstatic 52, 3) := by decide +kernel
theorem dX1_lookAtKing_79 : decode cX1_lookAtKing 79 = .ok (.iload_n 2, 1) := by decide +kernel
theorem dX1_lookAtKing_80 : decode cX1_lookAtKing 80 = .ok (.iaload, 1) := by decide +kernel
theorem dX1_lookAtKing_81 : decode cX1_lookAtKing 81 = .ok (.invokevirtual 177, 3) := by decide +kernel
theorem dX1_lookAtKing_84 : decode cX1_lookAtKing 84 = .ok (.invokevirtual 85, 3) := by decide +kernel
theorem dX1_lookAtKing_87 : decode cX1_lookAtKing 87 = .ok (.istore 4, 2) := by decide +kernel
theorem dX1_lookAtKing_89 : decode cX1_lookAtKing 89 = .ok (.aload_n 0, 1) := by decide +kernel
theorem dX1_lookAtKing_90 : decode cX1_lookAtKing 90 = .ok (.getfield 12, 3) := by decide +kernel
theorem dX1_lookAtKing_93 : decode cX1_lookAtKing 93 = .ok (.iload_n 3, 1) := by decide +kernel
theorem dX1_lookAtKing_94 : decode cX1_lookAtKing 94 = .ok (.invokevirtual 85, 3) := by decide +kernel
theorem dX1_lookAtKing_97 : decode cX1_lookAtKing 97 = .ok (.invokestatic 140, 3) := by decide +kernel
theorem dX1_lookAtKing_100 : decode cX1_lookAtKing 100 = .ok (.aload_n 0, 1) := by decide +kernel
theorem dX1_lookAtKing_101 : decode cX1_lookAtKing 101 = .ok (.getfield 18, 3) := by decide +kernel
theorem dX1_lookAtKing_104 : decode cX1_lookAtKing 104 = .ok (.if_icmp .ne 69, 3) := by decide +kernel
theorem dX1_lookAtKing_107 : decode cX1_lookAtKing 107 = .ok (.iload 4, 2) := by decide +kernel
theorem dX1_lookAtKing_109 : decode cX1_lookAtKing 109 = .ok (.invokestatic 140, 3) := by decide +kernel
theorem dX1_lookAtKing_112 : decode cX1_lookAtKing 112 = .ok (.iconst 1, 1) := by decide +kernel
theorem dX1_lookAtKing_113 : decode cX1_lookAtKing 113 = .ok (.aload_n 0, 1) := by decide +kernel
theorem dX1_lookAtKing_114 : decode cX1_lookAtKing 114 = .ok (.getfield 18, 3) := by decide +kernel
theorem dX1_lookAtKing_117 : decode cX1_lookAtKing 117 = .ok (.isub, 1) := by decide +kernel
theorem dX1_lookAtKing_118 : decode cX1_lookAtKing 118 = .ok (.if_icmp .ne 55, 3) := by decide +kernel
theorem dX1_lookAtKing_121 : decode cX1_lookAtKing 121 = .ok (.iload 4, 2) := by decide +kernel
theorem dX1_lookAtKing_123 : decode cX1_lookAtKing 123 = .ok (.invokestatic 143, 3) := by decide +kernel
theorem dX1_lookAtKing_126 : decode cX1_lookAtKing 126 = .ok (.iload_n 2, 1) := by decide +kernel
theorem dX1_lookAtKing_127 : decode cX1_lookAtKing 127 = .ok (.iconst 0, 1) := by decide +kernel
theorem dX1_lookAtKing_128 : decode cX1_lookAtKing 128 = .ok (.invokestatic 180, 3) := by decide +kernel
theorem dX1_lookAtKing_131 : decode cX1_lookAtKing 131 = .ok (.ifCond .eq 42, 3) := by decide +kernel
theorem dX1_lookAtKing_134 : decode cX1_lookAtKing 134 = .ok (.aload_n 0, 1) := by decide +kernel
theorem dX1_lookAtKing_135 : decode cX1_lookAtKing 135 = .ok (.getfield 58, 3) := by decide +kernel
theorem dX1_lookAtKing_138 : decode cX1_lookAtKing 138 = .ok (.ifCond .lt 35, 3) := by decide +kernel
theorem dX1_lookAtKing_141 : decode cX1_lookAtKing 141 = .ok (.aload_n 0, 1) := by decide +kernel
theorem dX1_lookAtKing_142 : decode cX1_lookAtKing 142 = .ok (.getfield 58, 3) := by decide +kernel
theorem dX1_lookAtKing_145 : decode cX1_lookAtKing 145 = .ok (.aload_n 0, 1) := by decide +kernel
theorem dX1_lookAtKing_146 : decode cX1_lookAtKing 146 = .ok (.getfield 55, 3) := by decide +kernel
theorem dX1_lookAtKing_149 : decode cX1_lookAtKing 149 = .ok (.arraylength, 1) := by decide +kernel
theorem dX1_lookAtKing_150 : decode cX1_lookAtKing 150 = .ok (.if_icmp .ge 23, 3) := by decide +kernel
theorem dX1_lookAtKing_153 : decode cX1_lookAtKing 153 = .ok (.aload_n 0, 1) := by decide +kernel
theorem dX1_lookAtKing_154 : decode cX1_lookAtKing 154 = .ok (.getfield 55, 3) := by decide +kernel
theorem dX1_lookAtKing_157 : decode cX1_lookAtKing 157 = .ok (.aload_n 0, 1) := by decide +kernel
theorem dX1_lookAtKing_158 : decode cX1_lookAtKing 158 = .ok (.getfield 58, 3) := by decide +kernel
theorem dX1_lookAtKing_161 : decode cX1_lookAtKing 161 = .ok (.iload_n 3, 1) := by decide +kernel
theorem dX1_lookAtKing_162 : decode cX1_lookAtKing 162 = .ok (.iastore, 1) := by decide +kernel
theorem dX1_lookAtKing_163 : decode cX1_lookAtKing 163 = .ok (.aload_n 0, 1) := by decide +kernel
theorem dX1_lookAtKing_164 : decode cX1_lookAtKing 164 = .ok (.dup, 1) := by decide +kernel
theorem dX1_lookAtKing_165 : decode cX1_lookAtKing 165 = .ok (.getfield 58, 3) := by decide +kernel
theorem dX1_lookAtKing_168 : decode cX1_lookAtKing 168 = .ok (.iconst 1, 1) := by decide +kernel
theorem dX1_lookAtKing_169 : decode cX1_lookAtKing 169 = .ok (.iadd, 1) := by decide +kernel
theorem dX1_lookAtKing_170 : decode cX1_lookAtKing 170 = .ok (.putfield 58, 3) := by decide +kernel
theorem dX1_lookAtKing_173 : decode cX1_lookAtKing 173 = .ok (.iinc 2 1, 3) := by decide +kernel
theorem dX1_lookAtKing_176 : decode cX1_lookAtKing 176 = .ok (.goto (-131), 3) := by decide +kernel
theorem dX1_lookAtKing_179 : decode cX1_lookAtKing 179 = .ok (.return_, 1) := by decide +kernel
theorem dX1_isPinned_0 : decode cX1_isPinned 0 = .ok (.iconst 0, 1) := by decide +kernel
theorem dX1_isPinned_1 : decode cX1_isPinned 1 = .ok (.istore_n 2, 1) := by decide +kernel
theorem dX1_isPinned_2 : decode cX1_isPinned 2 = .ok (.iload_n 2, 1) := by decide +kernel
theorem dX1_isPinned_3 : decode cX1_isPinned 3 = .ok (.aload_n 0, 1) := by decide +kernel
theorem dX1_isPinned_4 : decode cX1_isPinned 4 = .ok (.getfield 58, 3) := by decide +kernel
theorem dX1_isPinned_7 : decode cX1_isPinned 7 = .ok (.if_icmp .ge 30, 3) := by decide +kernel
theorem dX1_isPinned_10 : decode cX1_isPinned 10 = .ok (.iload_n 2, 1) := by decide +kernel
theorem dX1_isPinned_11 : decode cX1_isPinned 11 = .ok (.aload_n 0, 1) := by decide +kernel
theorem dX1_isPinned_12 : decode cX1_isPinned 12 = .ok (.getfield 55, 3) := by decide +kernel
theorem dX1_isPinned_15 : decode cX1_isPinned 15 = .ok (.arraylength, 1) := by decide +kernel
theorem dX1_isPinned_16 : decode cX1_isPinned 16 = .ok (.if_icmp .ge 21, 3) := by decide +kernel
theorem dX1_isPinned_19 : decode cX1_isPinned 19 = .ok (.aload_n 0, 1) := by decide +kernel
theorem dX1_isPinned_20 : decode cX1_isPinned 20 = .ok (.getfield 55, 3) := by decide +kernel
theorem dX1_isPinned_23 : decode cX1_isPinned 23 = .ok (.iload_n 2, 1) := by decide +kernel
theorem dX1_isPinned_24 : decode cX1_isPinned 24 = .ok (.iaload, 1) := by decide +kernel
theorem dX1_isPinned_25 : decode cX1_isPinned 25 = .ok (.iload_n 1, 1) := by decide +kernel
theorem dX1_isPinned_26 : decode cX1_isPinned 26 = .ok (.if_icmp .ne 5, 3) := by decide +kernel
theorem dX1_isPinned_29 : decode cX1_isPinned 29 = .ok (.iconst 1, 1) := by decide +kernel
theorem dX1_isPinned_30 : decode cX1_isPinned 30 = .ok (.ireturn, 1) := by decide +kernel
theorem dX1_isPinned_31 : decode cX1_isPinned 31 = .ok (.iinc 2 1, 3) := by decide +kernel
theorem dX1_isPinned_34 : decode cX1_isPinned 34 = .ok (.goto (-32), 3) := by decide +kernel
theorem dX1_isPinned_37 : decode cX1_isPinned 37 = .ok (.iconst 0, 1) := by decide +kernel
theorem dX1_isPinned_38 : decode cX1_isPinned 38 = .ok (.ireturn, 1) := by decide +kernel
theorem dX1_isSafe_0 : decode cX1_isSafe 0 = .ok (.aload_n 0, 1) := by decide +kernel
theorem dX1_isSafe_1 : decode cX1_isSafe 1 = .ok (.getfield 61, 3) := by decide +kernel
theorem dX1_isSafe_4 : decode cX1_isSafe 4 = .ok (.ifCond .ne 36, 3) := by decide +kernel
theorem dX1_isSafe_7 : decode cX1_isSafe 7 = .ok (.iload_n 1, 1) := by decide +kernel
theorem dX1_isSafe_8 : decode cX1_isSafe 8 = .ok (.aload_n 0, 1) := by decide +kernel
theorem dX1_isSafe_9 : decode cX1_isSafe 9 = .ok (.getfield 12, 3) := by decide +kernel
theorem dX1_isSafe_12 : decode cX1_isSafe 12 = .ok (.aload_n 0, 1) := by decide +kernel
theorem dX1_isSafe_13 : decode cX1_isSafe 13 = .ok (.getfield 18, 3) := by decide +kernel
theorem dX1_isSafe_16 : decode cX1_isSafe 16 = .ok (.invokevirtual 91, 3) := by decide +kernel
theorem dX1_isSafe_19 : decode cX1_isSafe 19 = .ok (.if_icmp .eq 21, 3) := by decide +kernel
theorem dX1_isSafe_22 : decode cX1_isSafe 22 = .ok (.iload_n 2, 1) := by decide +kernel
theorem dX1_isSafe_23 : decode cX1_isSafe 23 = .ok (.aload_n 0, 1) := by decide +kernel
theorem dX1_isSafe_24 : decode cX1_isSafe 24 = .ok (.getfield 25, 3) := by decide +kernel
theorem dX1_isSafe_27 : decode cX1_isSafe 27 = .ok (.if_icmp .eq 13, 3) := by decide +kernel
theorem dX1_isSafe_30 : decode cX1_isSafe 30 = .ok (.aload_n 0, 1) := by decide +kernel
theorem dX1_isSafe_31 : decode cX1_isSafe 31 = .ok (.iload_n 1, 1) := by decide +kernel
theorem dX1_isSafe_32 : decode cX1_isSafe 32 = .ok (.invokevirtual 184, 3) := by decide +kernel
theorem dX1_isSafe_35 : decode cX1_isSafe 35 = .ok (.ifCond .ne 5, 3) := by decide +kernel
theorem dX1_isSafe_38 : decode cX1_isSafe 38 = .ok (.iconst 1, 1) := by decide +kernel
theorem dX1_isSafe_39 : decode cX1_isSafe 39 = .ok (.ireturn, 1) := by decide +kernel
theorem dX1_isSafe_40 : decode cX1_isSafe 40 = .ok (.aload_n 0, 1) := by decide +kernel
theorem dX1_isSafe_41 : decode cX1_isSafe 41 = .ok (.iload_n 1, 1) := by decide +kernel
theorem dX1_isSafe_42 : decode cX1_isSafe 42 = .ok (.iload_n 2, 1) := by decide +kernel
theorem dX1_isSafe_43 : decode cX1_isSafe 43 = .ok (.iconst 2, 1) := by decide +kernel
theorem dX1_isSafe_44 : decode cX1_isSafe 44 = .ok (.invokevirtual 187, 3) := by decide +kernel
theorem dX1_isSafe_47 : decode cX1_isSafe 47 = .ok (.lstore_n 3, 1) := by decide +kernel
theorem dX1_isSafe_48 : decode cX1_isSafe 48 = .ok (.aload_n 0, 1) := by decide +kernel
theorem dX1_isSafe_49 : decode cX1_isSafe 49 = .ok (.getfield 12, 3) := by decide +kernel
theorem dX1_isSafe_52 : decode cX1_isSafe 52 = .ok (.aload_n 0, 1) := by decide +kernel
theorem dX1_isSafe_53 : decode cX1_isSafe 53 = .ok (.getfield 12, 3) := by decide +kernel
theorem dX1_isSafe_56 : decode cX1_isSafe 56 = .ok (.iconst 1, 1) := by decide +kernel
theorem dX1_isSafe_57 : decode cX1_isSafe 57 = .ok (.aload_n 0, 1) := by decide +kernel
theorem dX1_isSafe_58 : decode cX1_isSafe 58 = .ok (.getfield 18, 3) := by decide +kernel
theorem dX1_isSafe_61 : decode cX1_isSafe 61 = .ok (.isub, 1) := by decide +kernel
theorem dX1_isSafe_62 : decode cX1_isSafe 62 = .ok (.invokevirtual 91, 3) := by decide +kernel
theorem dX1_isSafe_65 : decode cX1_isSafe 65 = .ok (.aload_n 0, 1) := by decide +kernel
theorem dX1_isSafe_66 : decode cX1_isSafe 66 = .ok (.getfield 18, 3) := by decide +kernel
theorem dX1_isSafe_69 : decode cX1_isSafe 69 = .ok (.invokevirtual 88, 3) := by decide +kernel
theorem dX1_isSafe_72 : decode cX1_isSafe 72 = .ok (.ifCond .ne 7, 3) := by decide +kernel
theorem dX1_isSafe_75 : decode cX1_isSafe 75 = .ok (.iconst 1, 1) := by decide +kernel
theorem dX1_isSafe_76 : decode cX1_isSafe 76 = .ok (.goto 4, 3) := by decide +kernel
theorem dX1_isSafe_79 : decode cX1_isSafe 79 = .ok (.iconst 0, 1) := by decide +kernel
theorem dX1_isSafe_80 : decode cX1_isSafe 80 = .ok (.istore 5, 2) := by decide +kernel
theorem dX1_isSafe_82 : decode cX1_isSafe 82 = .ok (.aload_n 0, 1) := by decide +kernel
theorem dX1_isSafe_83 : decode cX1_isSafe 83 = .ok (.lload_n 3, 1) := by decide +kernel
theorem dX1_isSafe_84 : decode cX1_isSafe 84 = .ok (.invokevirtual 191, 3) := by decide +kernel
theorem dX1_isSafe_87 : decode cX1_isSafe 87 = .ok (.iload 5, 2) := by decide +kernel
theorem dX1_isSafe_89 : decode cX1_isSafe 89 = .ok (.ireturn, 1) := by decide +kernel
theorem dX1_play_0 : decode cX1_play 0 = .ok (.aload_n 0, 1) := by decide +kernel
theorem dX1_play_1 : decode cX1_play 1 = .ok (.getfield 12, 3) := by decide +kernel
theorem dX1_play_4 : decode cX1_play 4 = .ok (.iload_n 1, 1) := by decide +kernel
theorem dX1_play_5 : decode cX1_play 5 = .ok (.invokevirtual 85, 3) := by decide +kernel
theorem dX1_play_8 : decode cX1_play 8 = .ok (.istore 4, 2) := by decide +kernel
theorem dX1_play_10 : decode cX1_play 10 = .ok (.iload 4, 2) := by decide +kernel
theorem dX1_play_12 : decode cX1_play 12 = .ok (.invokestatic 143, 3) := by decide +kernel
theorem dX1_play_15 : decode cX1_play 15 = .ok (.bipush 6, 2) := by decide +kernel
theorem dX1_play_17 : decode cX1_play 17 = .ok (.if_icmp .ne 7, 3) := by decide +kernel
theorem dX1_play_20 : decode cX1_play 20 = .ok (.iconst 1, 1) := by decide +kernel
theorem dX1_play_21 : decode cX1_play 21 = .ok (.goto 4, 3) := by decide +kernel
theorem dX1_play_24 : decode cX1_play 24 = .ok (.iconst 0, 1) := by decide +kernel
theorem dX1_play_25 : decode cX1_play 25 = .ok (.istore 5, 2) := by decide +kernel
theorem dX1_play_27 : decode cX1_play 27 = .ok (.iload 5, 2) := by decide +kernel
theorem dX1_play_29 : decode cX1_play 29 = .ok (.ifCond .eq 27, 3) := by decide +kernel
theorem dX1_play_32 : decode cX1_play 32 = .ok (.aload_n 0, 1) := by decide +kernel
theorem dX1_play_33 : decode cX1_play 33 = .ok (.getfield 12, 3) := by decide +kernel
theorem dX1_play_36 : decode cX1_play 36 = .ok (.iload_n 2, 1) := by decide +kernel
theorem dX1_play_37 : decode cX1_play 37 = .ok (.aload_n 0, 1) := by decide +kernel
theorem dX1_play_38 : decode cX1_play 38 = .ok (.getfield 18, 3) := by decide +kernel
theorem dX1_play_41 : decode cX1_play 41 = .ok (.invokestatic 168, 3) := by decide +kernel
theorem dX1_play_44 : decode cX1_play 44 = .ok (.iadd, 1) := by decide +kernel
theorem dX1_play_45 : decode cX1_play 45 = .ok (.invokevirtual 85, 3) := by decide +kernel
theorem dX1_play_48 : decode cX1_play 48 = .ok (.iconst (-1), 1) := by decide +kernel
theorem dX1_play_49 : decode cX1_play 49 = .ok (.if_icmp .ne 7, 3) := by decide +kernel
theorem dX1_play_52 : decode cX1_play 52 = .ok (.iconst 1, 1) := by decide +kernel
theorem dX1_play_53 : decode cX1_play 53 = .ok (.goto 4, 3) := by decide +kernel
theorem dX1_play_56 : decode cX1_play 56 = .ok (.iconst 0, 1) := by decide +kernel
theorem dX1_play_57 : decode cX1_play 57 = .ok (.istore 6, 2) := by decide +kernel
theorem dX1_play_59 : decode cX1_play 59 = .ok (.iload 5, 2) := by decide +kernel
theorem dX1_play_61 : decode cX1_play 61 = .ok (.ifCond .eq 23, 3) := by decide +kernel
theorem dX1_play_64 : decode cX1_play 64 = .ok (.iload_n 2, 1) := by decide +kernel
theorem dX1_play_65 : decode cX1_play 65 = .ok (.aload_n 0, 1) := by decide +kernel
theorem dX1_play_66 : decode cX1_play 66 = .ok (.getfield 25, 3) := by decide +kernel
theorem dX1_play_69 : decode cX1_play 69 = .ok (.if_icmp .ne 15, 3) := by decide +kernel
theorem dX1_play_72 : decode cX1_play 72 = .ok (.iload_n 2, 1) := by decide +kernel
theorem dX1_play_73 : decode cX1_play 73 = .ok (.aload_n 0, 1) := by decide +kernel
theorem dX1_play_74 : decode cX1_play 74 = .ok (.getfield 18, 3) := by decide +kernel
theorem dX1_play_77 : decode cX1_play 77 = .ok (.invokestatic 168, 3) := by decide +kernel
theorem dX1_play_80 : decode cX1_play 80 = .ok (.isub, 1) := by decide +kernel
theorem dX1_play_81 : decode cX1_play 81 = .ok (.goto 4, 3) := by decide +kernel
theorem dX1_play_84 : decode cX1_play 84 = .ok (.iload_n 2, 1) := by decide +kernel
theorem dX1_play_85 : decode cX1_play 85 = .ok (.istore 7, 2) := by decide +kernel
theorem dX1_play_87 : decode cX1_play 87 = .ok (.aload_n 0, 1) := by decide +kernel
theorem dX1_play_88 : decode cX1_play 88 = .ok (.getfield 12, 3) := by decide +kernel
theorem dX1_play_91 : decode cX1_play 91 = .ok (.iload 7, 2) := by decide +kernel
theorem dX1_play_93 : decode cX1_play 93 = .ok (.invokevirtual 85, 3) := by decide +kernel
theorem dX1_play_96 : decode cX1_play 96 = .ok (.istore 8, 2) := by decide +kernel
theorem dX1_play_98 : decode cX1_play 98 = .ok (.iload_n 1, 1) := by decide +kernel
theorem dX1_play_99 : decode cX1_play 99 = .ok (.iload_n 2, 1) := by decide +kernel
theorem dX1_play_100 : decode cX1_play 100 = .ok (.bipush 9, 2) := by decide +kernel
theorem dX1_play_102 : decode cX1_play 102 = .ok (.ishl, 1) := by decide +kernel
theorem dX1_play_103 : decode cX1_play 103 = .ok (.ior, 1) := by decide +kernel
theorem dX1_play_104 : decode cX1_play 104 = .ok (.iload 7, 2) := by decide +kernel
theorem dX1_play_106 : decode cX1_play 106 = .ok (.bipush 18, 2) := by decide +kernel
theorem dX1_play_108 : decode cX1_play 108 = .ok (.ishl, 1) := by decide +kernel
theorem dX1_play_109 : decode cX1_play 109 = .ok (.ior, 1) := by decide +kernel
theorem dX1_play_110 : decode cX1_play 110 = .ok (.i2l, 1) := by decide +kernel
theorem dX1_play_111 : decode cX1_play 111 = .ok (.lstore 9, 2) := by decide +kernel
theorem dX1_play_113 : decode cX1_play 113 = .ok (.lload 9, 2) := by decide +kernel
theorem dX1_play_115 : decode cX1_play 115 = .ok (.iload 4, 2) := by decide +kernel
theorem dX1_play_117 : decode cX1_play 117 = .ok (.iload 8, 2) := by decide +kernel
theorem dX1_play_119 : decode cX1_play 119 = .ok (.iconst 4, 1) := by decide +kernel
theorem dX1_play_120 : decode cX1_play 120 = .ok (.ishl, 1) := by decide +kernel
theorem dX1_play_121 : decode cX1_play 121 = .ok (.ior, 1) := by decide +kernel
theorem dX1_play_122 : decode cX1_play 122 = .ok (.aload_n 0, 1) := by decide +kernel
theorem dX1_play_123 : decode cX1_play 123 = .ok (.getfield 22, 3) := by decide +kernel
theorem dX1_play_126 : decode cX1_play 126 = .ok (.bipush 8, 2) := by decide +kernel
theorem dX1_play_128 : decode cX1_play 128 = .ok (.ishl, 1) := by decide +kernel
theorem dX1_play_129 : decode cX1_play 129 = .ok (.ior, 1) := by decide +kernel
theorem dX1_play_130 : decode cX1_play 130 = .ok (.i2l, 1) := by decide +kernel
theorem dX1_play_131 : decode cX1_play 131 = .ok (.bipush 27, 2) := by decide +kernel
theorem dX1_play_133 : decode cX1_play 133 = .ok (.lshl, 1) := by decide +kernel
theorem dX1_play_134 : decode cX1_play 134 = .ok (.aload_n 0, 1) := by decide +kernel
theorem dX1_play_135 : decode cX1_play 135 = .ok (.getfield 25, 3) := by decide +kernel
theorem dX1_play_138 : decode cX1_play 138 = .ok (.iconst 1, 1) := by decide +kernel
theorem dX1_play_139 : decode cX1_play 139 = .ok (.iadd, 1) := by decide +kernel
theorem dX1_play_140 : decode cX1_play 140 = .ok (.i2l, 1) := by decide +kernel
theorem dX1_play_141 : decode cX1_play 141 = .ok (.bipush 43, 2) := by decide +kernel
theorem dX1_play_143 : decode cX1_play 143 = .ok (.lshl, 1) := by decide +kernel
theorem dX1_play_144 : decode cX1_play 144 = .ok (.lor, 1) := by decide +kernel
theorem dX1_play_145 : decode cX1_play 145 = .ok (.lor, 1) := by decide +kernel
theorem dX1_play_146 : decode cX1_play 146 = .ok (.lstore 9, 2) := by decide +kernel
theorem dX1_play_148 : decode cX1_play 148 = .ok (.aload_n 0, 1) := by decide +kernel
theorem dX1_play_149 : decode cX1_play 149 = .ok (.getfield 12, 3) := by decide +kernel
theorem dX1_play_152 : decode cX1_play 152 = .ok (.iload 7, 2) := by decide +kernel
theorem dX1_play_154 : decode cX1_play 154 = .ok (.iconst 0, 1) := by decide +kernel
theorem dX1_play_155 : decode cX1_play 155 = .ok (.invokevirtual 81, 3) := by decide +kernel
theorem dX1_play_158 : decode cX1_play 158 = .ok (.aload_n 0, 1) := by decide +kernel
theorem dX1_play_159 : decode cX1_play 159 = .ok (.getfield 12, 3) := by decide +kernel
theorem dX1_play_162 : decode cX1_play 162 = .ok (.iload_n 1, 1) := by decide +kernel
theorem dX1_play_163 : decode cX1_play 163 = .ok (.iconst 0, 1) := by decide +kernel
theorem dX1_play_164 : decode cX1_play 164 = .ok (.invokevirtual 81, 3) := by decide +kernel
theorem dX1_play_167 : decode cX1_play 167 = .ok (.aload_n 0, 1) := by decide +kernel
theorem dX1_play_168 : decode cX1_play 168 = .ok (.getfield 12, 3) := by decide +kernel
theorem dX1_play_171 : decode cX1_play 171 = .ok (.iload_n 2, 1) := by decide +kernel
theorem dX1_play_172 : decode cX1_play 172 = .ok (.iload 6, 2) := by decide +kernel
theorem dX1_play_174 : decode cX1_play 174 = .ok (.ifCond .eq 14, 3) := by decide +kernel
theorem dX1_play_177 : decode cX1_play 177 = .ok (.aload_n 0, 1) := by decide +kernel
theorem dX1_play_178 : decode cX1_play 178 = .ok (.getfield 18, 3) := by decide +kernel
theorem dX1_play_181 : decode cX1_play 181 = .ok (.iload_n 3, 1) := by decide +kernel
theorem dX1_play_182 : decode cX1_play 182 = .ok (.invokestatic 77, 3) := by decide +kernel
theorem dX1_play_185 : decode cX1_play 185 = .ok (.goto 5, 3) := by decide +kernel
theorem dX1_play_188 : decode cX1_play 188 = .ok (.iload 4, 2) := by decide +kernel
theorem dX1_play_190 : decode cX1_play 190 = .ok (.invokevirtual 81, 3) := by decide +kernel
theorem dX1_play_193 : decode cX1_play 193 = .ok (.aload_n 0, 1) := by decide +kernel
theorem dX1_play_194 : decode cX1_play 194 = .ok (.iload 5, 2) := by decide +kernel
theorem dX1_play_196 : decode cX1_play 196 = .ok (.ifCond .ne 8, 3) := by decide +kernel
theorem dX1_play_199 : decode cX1_play 199 = .ok (.iload 8, 2) := by decide +kernel
theorem dX1_play_201 : decode cX1_play 201 = .ok (.ifCond .eq 7, 3) := by decide +kernel
theorem dX1_play_204 : decode cX1_play 204 = .ok (.iconst 0, 1) := by decide +kernel
theorem dX1_play_205 : decode cX1_play 205 = .ok (.goto 9, 3) := by decide +kernel
theorem dX1_play_208 : decode cX1_play 208 = .ok (.aload_n 0, 1) := by decide +kernel
theorem dX1_play_209 : decode cX1_play 209 = .ok (.getfield 22, 3) := by decide +kernel
theorem dX1_play_212 : decode cX1_play 212 = .ok (.iconst 1, 1) := by decide +kernel
theorem dX1_play_213 : decode cX1_play 213 = .ok (.iadd, 1) := by decide +kernel
theorem dX1_play_214 : decode cX1_play 214 = .ok (.putfield 22, 3) := by decide +kernel
theorem dX1_play_217 : decode cX1_play 217 = .ok (.aload_n 0, 1) := by decide +kernel
theorem dX1_play_218 : decode cX1_play 218 = .ok (.iload 5, 2) := by decide +kernel
theorem dX1_play_220 : decode cX1_play 220 = .ok (.ifCond .eq 30, 3) := by decide +kernel
theorem dX1_play_223 : decode cX1_play 223 = .ok (.iload_n 2, 1) := by decide +kernel
theorem dX1_play_224 : decode cX1_play 224 = .ok (.iload_n 1, 1) := by decide +kernel
theorem dX1_play_225 : decode cX1_play 225 = .ok (.iconst 2, 1) := by decide +kernel
theorem dX1_play_226 : decode cX1_play 226 = .ok (.aload_n 0, 1) := by decide +kernel
theorem dX1_play_227 : decode cX1_play 227 = .ok (.getfield 18, 3) := by decide +kernel
theorem dX1_play_230 : decode cX1_play 230 = .ok (.invokestatic 168, 3) := by decide +kernel
theorem dX1_play_233 : decode cX1_play 233 = .ok (.imul, 1) := by decide +kernel
theorem dX1_play_234 : decode cX1_play 234 = .ok (.iadd, 1) := by decide +kernel
theorem dX1_play_235 : decode cX1_play 235 = .ok (.if_icmp .ne 15, 3) := by decide +kernel
theorem dX1_play_238 : decode cX1_play 238 = .ok (.iload_n 1, 1) := by decide +kernel
theorem dX1_play_239 : decode cX1_play 239 = .ok (.aload_n 0, 1) := by decide +kernel
theorem dX1_play_240 : decode cX1_play 240 = .ok (.getfield 18, 3) := by decide +kernel
theorem dX1_play_243 : decode cX1_play 243 = .ok (.invokestatic 168, 3) := by decide +kernel
theorem dX1_play_246 : decode cX1_play 246 = .ok (.iadd, 1) := by decide +kernel
theorem dX1_play_247 : decode cX1_play 247 = .ok (.goto 4, 3) := by decide +kernel
theorem dX1_play_250 : decode cX1_play 250 = .ok (.iconst (-1), 1) := by decide +kernel
theorem dX1_play_251 : decode cX1_play 251 = .ok (.putfield 25, 3) := by decide +kernel
theorem dX1_play_254 : decode cX1_play 254 = .ok (.aload_n 0, 1) := by decide +kernel
theorem dX1_play_255 : decode cX1_play 255 = .ok (.iconst 1, 1) := by decide +kernel
theorem dX1_play_256 : decode cX1_play 256 = .ok (.aload_n 0, 1) := by decide +kernel
theorem dX1_play_257 : decode cX1_play 257 = .ok (.getfield 18, 3) := by decide +kernel
theorem dX1_play_260 : decode cX1_play 260 = .ok (.isub, 1) := by decide +kernel
theorem dX1_play_261 : decode cX1_play 261 = .ok (.putfield 18, 3) := by decide +kernel
theorem dX1_play_264 : decode cX1_play 264 = .ok (.lload 9, 2) := by decide +kernel
theorem dX1_play_266 : decode cX1_play 266 = .ok (.lreturn, 1) := by decide +kernel
theorem dX1_undo_0 : decode cX1_undo 0 = .ok (.lload_n 1, 1) := by decide +kernel
theorem dX1_undo_1 : decode cX1_undo 1 = .ok (.bipush 9, 2) := by decide +kernel
theorem dX1_undo_3 : decode cX1_undo 3 = .ok (.lshr, 1) := by decide +kernel
theorem dX1_undo_4 : decode cX1_undo 4 = .ok (.ldc2_w 195, 3) := by decide +kernel
theorem dX1_undo_7 : decode cX1_undo 7 = .ok (.land, 1) := by decide +kernel
theorem dX1_undo_8 : decode cX1_undo 8 = .ok (.l2i, 1) := by decide +kernel
theorem dX1_undo_9 : decode cX1_undo 9 = .ok (.istore_n 3, 1) := by decide +kernel
theorem dX1_undo_10 : decode cX1_undo 10 = .ok (.aload_n 0, 1) := by decide +kernel
theorem dX1_undo_11 : decode cX1_undo 11 = .ok (.getfield 12, 3) := by decide +kernel
theorem dX1_undo_14 : decode cX1_undo 14 = .ok (.iload_n 3, 1) := by decide +kernel
theorem dX1_undo_15 : decode cX1_undo 15 = .ok (.iconst 0, 1) := by decide +kernel
theorem dX1_undo_16 : decode cX1_undo 16 = .ok (.invokevirtual 81, 3) := by decide +kernel
theorem dX1_undo_19 : decode cX1_undo 19 = .ok (.aload_n 0, 1) := by decide +kernel
theorem dX1_undo_20 : decode cX1_undo 20 = .ok (.getfield 12, 3) := by decide +kernel
theorem dX1_undo_23 : decode cX1_undo 23 = .ok (.lload_n 1, 1) := by decide +kernel
theorem dX1_undo_24 : decode cX1_undo 24 = .ok (.bipush 18, 2) := by decide +kernel
theorem dX1_undo_26 : decode cX1_undo 26 = .ok (.lshr, 1) := by decide +kernel
theorem dX1_undo_27 : decode cX1_undo 27 = .ok (.ldc2_w 195, 3) := by decide +kernel
theorem dX1_undo_30 : decode cX1_undo 30 = .ok (.land, 1) := by decide +kernel
theorem dX1_undo_31 : decode cX1_undo 31 = .ok (.l2i, 1) := by decide +kernel
theorem dX1_undo_32 : decode cX1_undo 32 = .ok (.lload_n 1, 1) := by decide +kernel
theorem dX1_undo_33 : decode cX1_undo 33 = .ok (.invokestatic 197, 3) := by decide +kernel
theorem dX1_undo_36 : decode cX1_undo 36 = .ok (.invokevirtual 81, 3) := by decide +kernel
theorem dX1_undo_39 : decode cX1_undo 39 = .ok (.aload_n 0, 1) := by decide +kernel
theorem dX1_undo_40 : decode cX1_undo 40 = .ok (.getfield 12, 3) := by decide +kernel
theorem dX1_undo_43 : decode cX1_undo 43 = .ok (.lload_n 1, 1) := by decide +kernel
theorem dX1_undo_44 : decode cX1_undo 44 = .ok (.ldc2_w 195, 3) := by decide +kernel
theorem dX1_undo_47 : decode cX1_undo 47 = .ok (.land, 1) := by decide +kernel
theorem dX1_undo_48 : decode cX1_undo 48 = .ok (.l2i, 1) := by decide +kernel
theorem dX1_undo_49 : decode cX1_undo 49 = .ok (.lload_n 1, 1) := by decide +kernel
theorem dX1_undo_50 : decode cX1_undo 50 = .ok (.bipush 27, 2) := by decide +kernel
theorem dX1_undo_52 : decode cX1_undo 52 = .ok (.lshr, 1) := by decide +kernel
theorem dX1_undo_53 : decode cX1_undo 53 = .ok (.ldc2_w 201, 3) := by decide +kernel
theorem dX1_undo_56 : decode cX1_undo 56 = .ok (.land, 1) := by decide +kernel
theorem dX1_undo_57 : decode cX1_undo 57 = .ok (.l2i, 1) := by decide +kernel
theorem dX1_undo_58 : decode cX1_undo 58 = .ok (.invokevirtual 81, 3) := by decide +kernel
theorem dX1_undo_61 : decode cX1_undo 61 = .ok (.aload_n 0, 1) := by decide +kernel
theorem dX1_undo_62 : decode cX1_undo 62 = .ok (.lload_n 1, 1) := by decide +kernel
theorem dX1_undo_63 : decode cX1_undo 63 = .ok (.bipush 35, 2) := by decide +kernel
theorem dX1_undo_65 : decode cX1_undo 65 = .ok (.lshr, 1) := by decide +kernel
theorem dX1_undo_66 : decode cX1_undo 66 = .ok (.ldc2_w 203, 3) := by decide +kernel
theorem dX1_undo_69 : decode cX1_undo 69 = .ok (.land, 1) := by decide +kernel
theorem dX1_undo_70 : decode cX1_undo 70 = .ok (.l2i, 1) := by decide +kernel
theorem dX1_undo_71 : decode cX1_undo 71 = .ok (.putfield 22, 3) := by decide +kernel
theorem dX1_undo_74 : decode cX1_undo 74 = .ok (.aload_n 0, 1) := by decide +kernel
theorem dX1_undo_75 : decode cX1_undo 75 = .ok (.lload_n 1, 1) := by decide +kernel
theorem dX1_undo_76 : decode cX1_undo 76 = .ok (.bipush 43, 2) := by decide +kernel
theorem dX1_undo_78 : decode cX1_undo 78 = .ok (.lshr, 1) := by decide +kernel
theorem dX1_undo_79 : decode cX1_undo 79 = .ok (.ldc2_w 195, 3) := by decide +kernel
theorem dX1_undo_82 : decode cX1_undo 82 = .ok (.land, 1) := by decide +kernel
theorem dX1_undo_83 : decode cX1_undo 83 = .ok (.l2i, 1) := by decide +kernel
theorem dX1_undo_84 : decode cX1_undo 84 = .ok (.iconst 1, 1) := by decide +kernel
theorem dX1_undo_85 : decode cX1_undo 85 = .ok (.isub, 1) := by decide +kernel
theorem dX1_undo_86 : decode cX1_undo 86 = .ok (.putfield 25, 3) := by decide +kernel
theorem dX1_undo_89 : decode cX1_undo 89 = .ok (.aload_n 0, 1) := by decide +kernel
theorem dX1_undo_90 : decode cX1_undo 90 = .ok (.iconst 1, 1) := by decide +kernel
theorem dX1_undo_91 : decode cX1_undo 91 = .ok (.aload_n 0, 1) := by decide +kernel
theorem dX1_undo_92 : decode cX1_undo 92 = .ok (.getfield 18, 3) := by decide +kernel
theorem dX1_undo_95 : decode cX1_undo 95 = .ok (.isub, 1) := by decide +kernel
theorem dX1_undo_96 : decode cX1_undo 96 = .ok (.putfield 18, 3) := by decide +kernel
theorem dX1_undo_99 : decode cX1_undo 99 = .ok (.return_, 1) := by decide +kernel
theorem dX1_valueTaken_0 : decode cX1_valueTaken 0 = .ok (.lload_n 0, 1) := by decide +kernel
theorem dX1_valueTaken_1 : decode cX1_valueTaken 1 = .ok (.bipush 31, 2) := by decide +kernel
theorem dX1_valueTaken_3 : decode cX1_valueTaken 3 = .ok (.lshr, 1) := by decide +kernel
theorem dX1_valueTaken_4 : decode cX1_valueTaken 4 = .ok (.ldc2_w 201, 3) := by decide +kernel
theorem dX1_valueTaken_7 : decode cX1_valueTaken 7 = .ok (.land, 1) := by decide +kernel
theorem dX1_valueTaken_8 : decode cX1_valueTaken 8 = .ok (.l2i, 1) := by decide +kernel
theorem dX1_valueTaken_9 : decode cX1_valueTaken 9 = .ok (.ireturn, 1) := by decide +kernel
theorem dX1_isFull_0 : decode cX1_isFull 0 = .ok (.aload_n 0, 1) := by decide +kernel
theorem dX1_isFull_1 : decode cX1_isFull 1 = .ok (.getfield 32, 3) := by decide +kernel
theorem dX1_isFull_4 : decode cX1_isFull 4 = .ok (.aload_n 0, 1) := by decide +kernel
theorem dX1_isFull_5 : decode cX1_isFull 5 = .ok (.getfield 28, 3) := by decide +kernel
theorem dX1_isFull_8 : decode cX1_isFull 8 = .ok (.arraylength, 1) := by decide +kernel
theorem dX1_isFull_9 : decode cX1_isFull 9 = .ok (.if_icmp .lt 7, 3) := by decide +kernel
theorem dX1_isFull_12 : decode cX1_isFull 12 = .ok (.iconst 1, 1) := by decide +kernel
theorem dX1_isFull_13 : decode cX1_isFull 13 = .ok (.goto 4, 3) := by decide +kernel
theorem dX1_isFull_16 : decode cX1_isFull 16 = .ok (.iconst 0, 1) := by decide +kernel
theorem dX1_isFull_17 : decode cX1_isFull 17 = .ok (.ireturn, 1) := by decide +kernel
theorem dX1_make_0 : decode cX1_make 0 = .ok (.aload_n 0, 1) := by decide +kernel
theorem dX1_make_1 : decode cX1_make 1 = .ok (.iload_n 1, 1) := by decide +kernel
theorem dX1_make_2 : decode cX1_make 2 = .ok (.invokestatic 73, 3) := by decide +kernel
theorem dX1_make_5 : decode cX1_make 5 = .ok (.iload_n 2, 1) := by decide +kernel
theorem dX1_make_6 : decode cX1_make 6 = .ok (.invokestatic 73, 3) := by decide +kernel
theorem dX1_make_9 : decode cX1_make 9 = .ok (.iload_n 3, 1) := by decide +kernel
theorem dX1_make_10 : decode cX1_make 10 = .ok (.invokevirtual 187, 3) := by decide +kernel
theorem dX1_make_13 : decode cX1_make 13 = .ok (.lstore 4, 2) := by decide +kernel
theorem dX1_make_15 : decode cX1_make 15 = .ok (.aload_n 0, 1) := by decide +kernel
theorem dX1_make_16 : decode cX1_make 16 = .ok (.getfield 32, 3) := by decide +kernel
theorem dX1_make_19 : decode cX1_make 19 = .ok (.ifCond .lt 36, 3) := by decide +kernel
theorem dX1_make_22 : decode cX1_make 22 = .ok (.aload_n 0, 1) := by decide +kernel
theorem dX1_make_23 : decode cX1_make 23 = .ok (.getfield 32, 3) := by decide +kernel
theorem dX1_make_26 : decode cX1_make 26 = .ok (.aload_n 0, 1) := by decide +kernel
theorem dX1_make_27 : decode cX1_make 27 = .ok (.getfield 28, 3) := by decide +kernel
theorem dX1_make_30 : decode cX1_make 30 = .ok (.arraylength, 1) := by decide +kernel
theorem dX1_make_31 : decode cX1_make 31 = .ok (.if_icmp .ge 24, 3) := by decide +kernel
theorem dX1_make_34 : decode cX1_make 34 = .ok (.aload_n 0, 1) := by decide +kernel
theorem dX1_make_35 : decode cX1_make 35 = .ok (.getfield 28, 3) := by decide +kernel
theorem dX1_make_38 : decode cX1_make 38 = .ok (.aload_n 0, 1) := by decide +kernel
theorem dX1_make_39 : decode cX1_make 39 = .ok (.getfield 32, 3) := by decide +kernel
theorem dX1_make_42 : decode cX1_make 42 = .ok (.lload 4, 2) := by decide +kernel
theorem dX1_make_44 : decode cX1_make 44 = .ok (.lastore, 1) := by decide +kernel
theorem dX1_make_45 : decode cX1_make 45 = .ok (.aload_n 0, 1) := by decide +kernel
theorem dX1_make_46 : decode cX1_make 46 = .ok (.dup, 1) := by decide +kernel
theorem dX1_make_47 : decode cX1_make 47 = .ok (.getfield 32, 3) := by decide +kernel
theorem dX1_make_50 : decode cX1_make 50 = .ok (.iconst 1, 1) := by decide +kernel
theorem dX1_make_51 : decode cX1_make 51 = .ok (.iadd, 1) := by decide +kernel
theorem dX1_make_52 : decode cX1_make 52 = .ok (.putfield 32, 3) := by decide +kernel
theorem dX1_make_55 : decode cX1_make 55 = .ok (.aload_n 0, 1) := by decide +kernel
theorem dX1_make_56 : decode cX1_make 56 = .ok (.iconst 0, 1) := by decide +kernel
theorem dX1_make_57 : decode cX1_make 57 = .ok (.putfield 42, 3) := by decide +kernel
theorem dX1_make_60 : decode cX1_make 60 = .ok (.lload 4, 2) := by decide +kernel
theorem dX1_make_62 : decode cX1_make 62 = .ok (.invokestatic 197, 3) := by decide +kernel
theorem dX1_make_65 : decode cX1_make 65 = .ok (.invokestatic 143, 3) := by decide +kernel
theorem dX1_make_68 : decode cX1_make 68 = .ok (.ireturn, 1) := by decide +kernel
theorem dX1_takeBack_0 : decode cX1_takeBack 0 = .ok (.aload_n 0, 1) := by decide +kernel
theorem dX1_takeBack_1 : decode cX1_takeBack 1 = .ok (.getfield 32, 3) := by decide +kernel
theorem dX1_takeBack_4 : decode cX1_takeBack 4 = .ok (.ifCond .le 43, 3) := by decide +kernel
theorem dX1_takeBack_7 : decode cX1_takeBack 7 = .ok (.aload_n 0, 1) := by decide +kernel
theorem dX1_takeBack_8 : decode cX1_takeBack 8 = .ok (.getfield 32, 3) := by decide +kernel
theorem dX1_takeBack_11 : decode cX1_takeBack 11 = .ok (.aload_n 0, 1) := by decide +kernel
theorem dX1_takeBack_12 : decode cX1_takeBack 12 = .ok (.getfield 28, 3) := by decide +kernel
theorem dX1_takeBack_15 : decode cX1_takeBack 15 = .ok (.arraylength, 1) := by decide +kernel
theorem dX1_takeBack_16 : decode cX1_takeBack 16 = .ok (.if_icmp .gt 31, 3) := by decide +kernel
theorem dX1_takeBack_19 : decode cX1_takeBack 19 = .ok (.aload_n 0, 1) := by decide +kernel
theorem dX1_takeBack_20 : decode cX1_takeBack 20 = .ok (.dup, 1) := by decide +kernel
theorem dX1_takeBack_21 : decode cX1_takeBack 21 = .ok (.getfield 32, 3) := by decide +kernel
theorem dX1_takeBack_24 : decode cX1_takeBack 24 = .ok (.iconst 1, 1) := by decide +kernel
theorem dX1_takeBack_25 : decode cX1_takeBack 25 = .ok (.isub, 1) := by decide +kernel
theorem dX1_takeBack_26 : decode cX1_takeBack 26 = .ok (.putfield 32, 3) := by decide +kernel
theorem dX1_takeBack_29 : decode cX1_takeBack 29 = .ok (.aload_n 0, 1) := by decide +kernel
theorem dX1_takeBack_30 : decode cX1_takeBack 30 = .ok (.aload_n 0, 1) := by decide +kernel
theorem dX1_takeBack_31 : decode cX1_takeBack 31 = .ok (.getfield 28, 3) := by decide +kernel
theorem dX1_takeBack_34 : decode cX1_takeBack 34 = .ok (.aload_n 0, 1) := by decide +kernel
theorem dX1_takeBack_35 : decode cX1_takeBack 35 = .ok (.getfield 32, 3) := by decide +kernel
theorem dX1_takeBack_38 : decode cX1_takeBack 38 = .ok (.laload, 1) := by decide +kernel
theorem dX1_takeBack_39 : decode cX1_takeBack 39 = .ok (.invokevirtual 191, 3) := by decide +kernel
theorem dX1_takeBack_42 : decode cX1_takeBack 42 = .ok (.aload_n 0, 1) := by decide +kernel
theorem dX1_takeBack_43 : decode cX1_takeBack 43 = .ok (.iconst 0, 1) := by decide +kernel
theorem dX1_takeBack_44 : decode cX1_takeBack 44 = .ok (.putfield 42, 3) := by decide +kernel
theorem dX1_takeBack_47 : decode cX1_takeBack 47 = .ok (.return_, 1) := by decide +kernel
theorem dX1_comesToLast_0 : decode cX1_comesToLast 0 = .ok (.aload_n 0, 1) := by decide +kernel
theorem dX1_comesToLast_1 : decode cX1_comesToLast 1 = .ok (.iload_n 1, 1) := by decide +kernel
theorem dX1_comesToLast_2 : decode cX1_comesToLast 2 = .ok (.invokevirtual 205, 3) := by decide +kernel
theorem dX1_comesToLast_5 : decode cX1_comesToLast 5 = .ok (.istore_n 3, 1) := by decide +kernel
theorem dX1_comesToLast_6 : decode cX1_comesToLast 6 = .ok (.iload_n 3, 1) := by decide +kernel
theorem dX1_comesToLast_7 : decode cX1_comesToLast 7 = .ok (.invokestatic 143, 3) := by decide +kernel
theorem dX1_comesToLast_10 : decode cX1_comesToLast 10 = .ok (.bipush 6, 2) := by decide +kernel
theorem dX1_comesToLast_12 : decode cX1_comesToLast 12 = .ok (.if_icmp .ne 30, 3) := by decide +kernel
theorem dX1_comesToLast_15 : decode cX1_comesToLast 15 = .ok (.aload_n 0, 1) := by decide +kernel
theorem dX1_comesToLast_16 : decode cX1_comesToLast 16 = .ok (.getfield 12, 3) := by decide +kernel
theorem dX1_comesToLast_19 : decode cX1_comesToLast 19 = .ok (.iload_n 2, 1) := by decide +kernel
theorem dX1_comesToLast_20 : decode cX1_comesToLast 20 = .ok (.invokestatic 73, 3) := by decide +kernel
theorem dX1_comesToLast_23 : decode cX1_comesToLast 23 = .ok (.iload_n 3, 1) := by decide +kernel
theorem dX1_comesToLast_24 : decode cX1_comesToLast 24 = .ok (.invokestatic 140, 3) := by decide +kernel
theorem dX1_comesToLast_27 : decode cX1_comesToLast 27 = .ok (.invokestatic 168, 3) := by decide +kernel
theorem dX1_comesToLast_30 : decode cX1_comesToLast 30 = .ok (.iadd, 1) := by decide +kernel
theorem dX1_comesToLast_31 : decode cX1_comesToLast 31 = .ok (.invokevirtual 85, 3) := by decide +kernel
theorem dX1_comesToLast_34 : decode cX1_comesToLast 34 = .ok (.iconst (-1), 1) := by decide +kernel
theorem dX1_comesToLast_35 : decode cX1_comesToLast 35 = .ok (.if_icmp .ne 7, 3) := by decide +kernel
theorem dX1_comesToLast_38 : decode cX1_comesToLast 38 = .ok (.iconst 1, 1) := by decide +kernel
theorem dX1_comesToLast_39 : decode cX1_comesToLast 39 = .ok (.goto 4, 3) := by decide +kernel
theorem dX1_comesToLast_42 : decode cX1_comesToLast 42 = .ok (.iconst 0, 1) := by decide +kernel
theorem dX1_comesToLast_43 : decode cX1_comesToLast 43 = .ok (.ireturn, 1) := by decide +kernel
theorem dX1_playListed_0 : decode cX1_playListed 0 = .ok (.aload_n 0, 1) := by decide +kernel
theorem dX1_playListed_1 : decode cX1_playListed 1 = .ok (.iload_n 1, 1) := by decide +kernel
theorem dX1_playListed_2 : decode cX1_playListed 2 = .ok (.invokevirtual 118, 3) := by decide +kernel
theorem dX1_playListed_5 : decode cX1_playListed 5 = .ok (.istore_n 2, 1) := by decide +kernel
theorem dX1_playListed_6 : decode cX1_playListed 6 = .ok (.aload_n 0, 1) := by decide +kernel
theorem dX1_playListed_7 : decode cX1_playListed 7 = .ok (.iload_n 2, 1) := by decide +kernel
theorem dX1_playListed_8 : decode cX1_playListed 8 = .ok (.bipush 91, 2) := by decide +kernel
theorem dX1_playListed_10 : decode cX1_playListed 10 = .ok (.idiv, 1) := by decide +kernel
theorem dX1_playListed_11 : decode cX1_playListed 11 = .ok (.invokestatic 73, 3) := by decide +kernel
theorem dX1_playListed_14 : decode cX1_playListed 14 = .ok (.iload_n 2, 1) := by decide +kernel
theorem dX1_playListed_15 : decode cX1_playListed 15 = .ok (.bipush 91, 2) := by decide +kernel
theorem dX1_playListed_17 : decode cX1_playListed 17 = .ok (.irem, 1) := by decide +kernel
theorem dX1_playListed_18 : decode cX1_playListed 18 = .ok (.invokestatic 73, 3) := by decide +kernel
theorem dX1_playListed_21 : decode cX1_playListed 21 = .ok (.iconst 2, 1) := by decide +kernel
theorem dX1_playListed_22 : decode cX1_playListed 22 = .ok (.invokevirtual 187, 3) := by decide +kernel
theorem dX1_playListed_25 : decode cX1_playListed 25 = .ok (.lreturn, 1) := by decide +kernel
theorem dX1_repliesToAll_0 : decode cX1_repliesToAll 0 = .ok (.iconst 0, 1) := by decide +kernel
theorem dX1_repliesToAll_1 : decode cX1_repliesToAll 1 = .ok (.istore_n 1, 1) := by decide +kernel
theorem dX1_repliesToAll_2 : decode cX1_repliesToAll 2 = .ok (.aload_n 0, 1) := by decide +kernel
theorem dX1_repliesToAll_3 : decode cX1_repliesToAll 3 = .ok (.invokevirtual 208, 3) := by decide +kernel
theorem dX1_repliesToAll_6 : decode cX1_repliesToAll 6 = .ok (.istore_n 2, 1) := by decide +kernel
theorem dX1_repliesToAll_7 : decode cX1_repliesToAll 7 = .ok (.iconst 0, 1) := by decide +kernel
theorem dX1_repliesToAll_8 : decode cX1_repliesToAll 8 = .ok (.istore_n 3, 1) := by decide +kernel
theorem dX1_repliesToAll_9 : decode cX1_repliesToAll 9 = .ok (.iload_n 3, 1) := by decide +kernel
theorem dX1_repliesToAll_10 : decode cX1_repliesToAll 10 = .ok (.iload_n 2, 1) := by decide +kernel
theorem dX1_repliesToAll_11 : decode cX1_repliesToAll 11 = .ok (.if_icmp .ge 41, 3) := by decide +kernel
theorem dX1_repliesToAll_14 : decode cX1_repliesToAll 14 = .ok (.aload_n 0, 1) := by decide +kernel
theorem dX1_repliesToAll_15 : decode cX1_repliesToAll 15 = .ok (.iload_n 3, 1) := by decide +kernel
theorem dX1_repliesToAll_16 : decode cX1_repliesToAll 16 = .ok (.invokevirtual 211, 3) := by decide +kernel
theorem dX1_repliesToAll_19 : decode cX1_repliesToAll 19 = .ok (.lstore 4, 2) := by decide +kernel
theorem dX1_repliesToAll_21 : decode cX1_repliesToAll 21 = .ok (.aload_n 0, 1) := by decide +kernel
theorem dX1_repliesToAll_22 : decode cX1_repliesToAll 22 = .ok (.getfield 22, 3) := by decide +kernel
theorem dX1_repliesToAll_25 : decode cX1_repliesToAll 25 = .ok (.bipush 60, 2) := by decide +kernel
theorem dX1_repliesToAll_27 : decode cX1_repliesToAll 27 = .ok (.if_icmp .ge 13, 3) := by decide +kernel
theorem dX1_repliesToAll_30 : decode cX1_repliesToAll 30 = .ok (.iload_n 1, 1) := by decide +kernel
theorem dX1_repliesToAll_31 : decode cX1_repliesToAll 31 = .ok (.aload_n 0, 1) := by decide +kernel
theorem dX1_repliesToAll_32 : decode cX1_repliesToAll 32 = .ok (.sipush 840, 3) := by decide +kernel
theorem dX1_repliesToAll_35 : decode cX1_repliesToAll 35 = .ok (.invokevirtual 215, 3) := by decide +kernel
theorem dX1_repliesToAll_38 : decode cX1_repliesToAll 38 = .ok (.iadd, 1) := by decide +kernel
theorem dX1_repliesToAll_39 : decode cX1_repliesToAll 39 = .ok (.istore_n 1, 1) := by decide +kernel
theorem dX1_repliesToAll_40 : decode cX1_repliesToAll 40 = .ok (.aload_n 0, 1) := by decide +kernel
theorem dX1_repliesToAll_41 : decode cX1_repliesToAll 41 = .ok (.lload 4, 2) := by decide +kernel
theorem dX1_repliesToAll_43 : decode cX1_repliesToAll 43 = .ok (.invokevirtual 191, 3) := by decide +kernel
theorem dX1_repliesToAll_46 : decode cX1_repliesToAll 46 = .ok (.iinc 3 1, 3) := by decide +kernel
theorem dX1_repliesToAll_49 : decode cX1_repliesToAll 49 = .ok (.goto (-40), 3) := by decide +kernel
theorem dX1_repliesToAll_52 : decode cX1_repliesToAll 52 = .ok (.iload_n 1, 1) := by decide +kernel
theorem dX1_repliesToAll_53 : decode cX1_repliesToAll 53 = .ok (.ireturn, 1) := by decide +kernel
theorem dX1_dearestHanging_0 : decode cX1_dearestHanging 0 = .ok (.iconst (-1), 1) := by decide +kernel
theorem dX1_dearestHanging_1 : decode cX1_dearestHanging 1 = .ok (.istore_n 2, 1) := by decide +kernel
theorem dX1_dearestHanging_2 : decode cX1_dearestHanging 2 = .ok (.iconst 0, 1) := by decide +kernel
theorem dX1_dearestHanging_3 : decode cX1_dearestHanging 3 = .ok (.istore_n 3, 1) := by decide +kernel
theorem dX1_dearestHanging_4 : decode cX1_dearestHanging 4 = .ok (.iconst 0, 1) := by decide +kernel
theorem dX1_dearestHanging_5 : decode cX1_dearestHanging 5 = .ok (.istore 4, 2) := by decide +kernel
theorem dX1_dearestHanging_7 : decode cX1_dearestHanging 7 = .ok (.iload 4, 2) := by decide +kernel
theorem dX1_dearestHanging_9 : decode cX1_dearestHanging 9 = .ok (.bipush 91, 2) := by decide +kernel
theorem dX1_dearestHanging_11 : decode cX1_dearestHanging 11 = .ok (.if_icmp .ge 86, 3) := by decide +kernel
theorem dX1_dearestHanging_14 : decode cX1_dearestHanging 14 = .ok (.iload 4, 2) := by decide +kernel
theorem dX1_dearestHanging_16 : decode cX1_dearestHanging 16 = .ok (.invokestatic 73, 3) := by decide +kernel
theorem dX1_dearestHanging_19 : decode cX1_dearestHanging 19 = .ok (.istore 5, 2) := by decide +kernel
theorem dX1_dearestHanging_21 : decode cX1_dearestHanging 21 = .ok (.aload_n 0, 1) := by decide +kernel
theorem dX1_dearestHanging_22 : decode cX1_dearestHanging 22 = .ok (.getfield 12, 3) := by decide +kernel
theorem dX1_dearestHanging_25 : decode cX1_dearestHanging 25 = .ok (.iload 5, 2) := by decide +kernel
theorem dX1_dearestHanging_27 : decode cX1_dearestHanging 27 = .ok (.invokevirtual 85, 3) := by decide +kernel
theorem dX1_dearestHanging_30 : decode cX1_dearestHanging 30 = .ok (.istore 6, 2) := by decide +kernel
theorem dX1_dearestHanging_32 : decode cX1_dearestHanging 32 = .ok (.iload 6, 2) := by decide +kernel
theorem dX1_dearestHanging_34 : decode cX1_dearestHanging 34 = .ok (.invokestatic 143, 3) := by decide +kernel
theorem dX1_dearestHanging_37 : decode cX1_dearestHanging 37 = .ok (.invokestatic 221, 3) := by decide +kernel
theorem dX1_dearestHanging_40 : decode cX1_dearestHanging 40 = .ok (.istore 7, 2) := by decide +kernel
theorem dX1_dearestHanging_42 : decode cX1_dearestHanging 42 = .ok (.iload 6, 2) := by decide +kernel
theorem dX1_dearestHanging_44 : decode cX1_dearestHanging 44 = .ok (.invokestatic 140, 3) := by decide +kernel
theorem dX1_dearestHanging_47 : decode cX1_dearestHanging 47 = .ok (.iload_n 1, 1) := by decide +kernel
theorem dX1_dearestHanging_48 : decode cX1_dearestHanging 48 = .ok (.if_icmp .ne 43, 3) := by decide +kernel
theorem dX1_dearestHanging_51 : decode cX1_dearestHanging 51 = .ok (.iload 7, 2) := by decide +kernel
theorem dX1_dearestHanging_53 : decode cX1_dearestHanging 53 = .ok (.iload_n 3, 1) := by decide +kernel
theorem dX1_dearestHanging_54 : decode cX1_dearestHanging 54 = .ok (.if_icmp .le 37, 3) := by decide +kernel
theorem dX1_dearestHanging_57 : decode cX1_dearestHanging 57 = .ok (.aload_n 0, 1) := by decide +kernel
theorem dX1_dearestHanging_58 : decode cX1_dearestHanging 58 = .ok (.getfield 12, 3) := by decide +kernel
theorem dX1_dearestHanging_61 : decode cX1_dearestHanging 61 = .ok (.iload 5, 2) := by decide +kernel
theorem dX1_dearestHanging_63 : decode cX1_dearestHanging 63 = .ok (.iconst 1, 1) := by decide +kernel
theorem dX1_dearestHanging_64 : decode cX1_dearestHanging 64 = .ok (.iload_n 1, 1) := by decide +kernel
theorem dX1_dearestHanging_65 : decode cX1_dearestHanging 65 = .ok (.isub, 1) := by decide +kernel
theorem dX1_dearestHanging_66 : decode cX1_dearestHanging 66 = .ok (.invokevirtual 88, 3) := by decide +kernel
theorem dX1_dearestHanging_69 : decode cX1_dearestHanging 69 = .ok (.ifCond .le 22, 3) := by decide +kernel
theorem dX1_dearestHanging_72 : decode cX1_dearestHanging 72 = .ok (.aload_n 0, 1) := by decide +kernel
theorem dX1_dearestHanging_73 : decode cX1_dearestHanging 73 = .ok (.getfield 12, 3) := by decide +kernel
theorem dX1_dearestHanging_76 : decode cX1_dearestHanging 76 = .ok (.iload 5, 2) := by decide +kernel
theorem dX1_dearestHanging_78 : decode cX1_dearestHanging 78 = .ok (.iload_n 1, 1) := by decide +kernel
theorem dX1_dearestHanging_79 : decode cX1_dearestHanging 79 = .ok (.invokevirtual 88, 3) := by decide +kernel
theorem dX1_dearestHanging_82 : decode cX1_dearestHanging 82 = .ok (.ifCond .ne 9, 3) := by decide +kernel
theorem dX1_dearestHanging_85 : decode cX1_dearestHanging 85 = .ok (.iload 4, 2) := by decide +kernel
theorem dX1_dearestHanging_87 : decode cX1_dearestHanging 87 = .ok (.istore_n 2, 1) := by decide +kernel
theorem dX1_dearestHanging_88 : decode cX1_dearestHanging 88 = .ok (.iload 7, 2) := by decide +kernel
theorem dX1_dearestHanging_90 : decode cX1_dearestHanging 90 = .ok (.istore_n 3, 1) := by decide +kernel
theorem dX1_dearestHanging_91 : decode cX1_dearestHanging 91 = .ok (.iinc 4 1, 3) := by decide +kernel
theorem dX1_dearestHanging_94 : decode cX1_dearestHanging 94 = .ok (.goto (-87), 3) := by decide +kernel
theorem dX1_dearestHanging_97 : decode cX1_dearestHanging 97 = .ok (.iload_n 2, 1) := by decide +kernel
theorem dX1_dearestHanging_98 : decode cX1_dearestHanging 98 = .ok (.ireturn, 1) := by decide +kernel
theorem dX2_isSide_0 : decode cX2_isSide 0 = .ok (.aload_n 0, 1) := by decide +kernel
theorem dX2_isSide_1 : decode cX2_isSide 1 = .ok (.getstatic 21, 3) := by decide +kernel
theorem dX2_isSide_4 : decode cX2_isSide 4 = .ok (.if_acmp .eq 10, 3) := by decide +kernel
theorem dX2_isSide_7 : decode cX2_isSide 7 = .ok (.aload_n 0, 1) := by decide +kernel
theorem dX2_isSide_8 : decode cX2_isSide 8 = .ok (.getstatic 24, 3) := by decide +kernel
theorem dX2_isSide_11 : decode cX2_isSide 11 = .ok (.if_acmp .ne 7, 3) := by decide +kernel
theorem dX2_isSide_14 : decode cX2_isSide 14 = .ok (.iconst 1, 1) := by decide +kernel
theorem dX2_isSide_15 : decode cX2_isSide 15 = .ok (.goto 4, 3) := by decide +kernel
theorem dX2_isSide_18 : decode cX2_isSide 18 = .ok (.iconst 0, 1) := by decide +kernel
theorem dX2_isSide_19 : decode cX2_isSide 19 = .ok (.ireturn, 1) := by decide +kernel
theorem dX2_isPiece_0 : decode cX2_isPiece 0 = .ok (.aload_n 0, 1) := by decide +kernel
theorem dX2_isPiece_1 : decode cX2_isPiece 1 = .ok (.getfield 77, 3) := by decide +kernel
theorem dX2_isPiece_4 : decode cX2_isPiece 4 = .ok (.ifCond .eq 14, 3) := by decide +kernel
theorem dX2_isPiece_7 : decode cX2_isPiece 7 = .ok (.aload_n 0, 1) := by decide +kernel
theorem dX2_isPiece_8 : decode cX2_isPiece 8 = .ok (.invokevirtual 81, 3) := by decide +kernel
theorem dX2_isPiece_11 : decode cX2_isPiece 11 = .ok (.ifCond .ne 7, 3) := by decide +kernel
theorem dX2_isPiece_14 : decode cX2_isPiece 14 = .ok (.iconst 1, 1) := by decide +kernel
theorem dX2_isPiece_15 : decode cX2_isPiece 15 = .ok (.goto 4, 3) := by decide +kernel
theorem dX2_isPiece_18 : decode cX2_isPiece 18 = .ok (.iconst 0, 1) := by decide +kernel
theorem dX2_isPiece_19 : decode cX2_isPiece 19 = .ok (.ireturn, 1) := by decide +kernel
theorem dX3_init_0 : decode cX3_init 0 = .ok (.aload_n 0, 1) := by decide +kernel
theorem dX3_init_1 : decode cX3_init 1 = .ok (.invokespecial 3, 3) := by decide +kernel
theorem dX3_init_4 : decode cX3_init 4 = .ok (.aload_n 0, 1) := by decide +kernel
theorem dX3_init_5 : decode cX3_init 5 = .ok (.sipush 400, 3) := by decide +kernel
theorem dX3_init_8 : decode cX3_init 8 = .ok (.newarray .int, 2) := by decide +kernel
theorem dX3_init_10 : decode cX3_init 10 = .ok (.putfield 9, 3) := by decide +kernel
theorem dX3_init_13 : decode cX3_init 13 = .ok (.aload_n 0, 1) := by decide +kernel
theorem dX3_init_14 : decode cX3_init 14 = .ok (.sipush 400, 3) := by decide +kernel
theorem dX3_init_17 : decode cX3_init 17 = .ok (.newarray .int, 2) := by decide +kernel
theorem dX3_init_19 : decode cX3_init 19 = .ok (.putfield 15, 3) := by decide +kernel
theorem dX3_init_22 : decode cX3_init 22 = .ok (.aload_n 0, 1) := by decide +kernel
theorem dX3_init_23 : decode cX3_init 23 = .ok (.sipush 400, 3) := by decide +kernel
theorem dX3_init_26 : decode cX3_init 26 = .ok (.anewarray 18, 3) := by decide +kernel
theorem dX3_init_29 : decode cX3_init 29 = .ok (.putfield 20, 3) := by decide +kernel
theorem dX3_init_32 : decode cX3_init 32 = .ok (.aload_n 0, 1) := by decide +kernel
theorem dX3_init_33 : decode cX3_init 33 = .ok (.iconst 0, 1) := by decide +kernel
theorem dX3_init_34 : decode cX3_init 34 = .ok (.putfield 24, 3) := by decide +kernel
theorem dX3_init_37 : decode cX3_init 37 = .ok (.return_, 1) := by decide +kernel
theorem dX3_read_0 : decode cX3_read 0 = .ok (.aload_n 0, 1) := by decide +kernel
theorem dX3_read_1 : decode cX3_read 1 = .ok (.iconst 0, 1) := by decide +kernel
theorem dX3_read_2 : decode cX3_read 2 = .ok (.putfield 24, 3) := by decide +kernel
theorem dX3_read_5 : decode cX3_read 5 = .ok (.iconst 0, 1) := by decide +kernel
theorem dX3_read_6 : decode cX3_read 6 = .ok (.istore_n 2, 1) := by decide +kernel
theorem dX3_read_7 : decode cX3_read 7 = .ok (.aload_n 1, 1) := by decide +kernel
theorem dX3_read_8 : decode cX3_read 8 = .ok (.iconst 0, 1) := by decide +kernel
theorem dX3_read_9 : decode cX3_read 9 = .ok (.invokevirtual 28, 3) := by decide +kernel
theorem dX3_read_12 : decode cX3_read 12 = .ok (.istore_n 3, 1) := by decide +kernel
theorem dX3_read_13 : decode cX3_read 13 = .ok (.iconst 0, 1) := by decide +kernel
theorem dX3_read_14 : decode cX3_read 14 = .ok (.istore 4, 2) := by decide +kernel
theorem dX3_read_16 : decode cX3_read 16 = .ok (.iload 4, 2) := by decide +kernel
theorem dX3_read_18 : decode cX3_read 18 = .ok (.sipush 400, 3) := by decide +kernel
theorem dX3_read_21 : decode cX3_read 21 = .ok (.if_icmp .ge 69, 3) := by decide +kernel
theorem dX3_read_24 : decode cX3_read 24 = .ok (.iload_n 3, 1) := by decide +kernel
theorem dX3_read_25 : decode cX3_read 25 = .ok (.aload_n 1, 1) := by decide +kernel
theorem dX3_read_26 : decode cX3_read 26 = .ok (.getfield 34, 3) := by decide +kernel
theorem dX3_read_29 : decode cX3_read 29 = .ok (.if_icmp .ge 61, 3) := by decide +kernel
theorem dX3_read_32 : decode cX3_read 32 = .ok (.aload_n 1, 1) := by decide +kernel
theorem dX3_read_33 : decode cX3_read 33 = .ok (.iload_n 3, 1) := by decide +kernel
theorem dX3_read_34 : decode cX3_read 34 = .ok (.invokevirtual 37, 3) := by decide +kernel
theorem dX3_read_37 : decode cX3_read 37 = .ok (.istore 5, 2) := by decide +kernel
theorem dX3_read_39 : decode cX3_read 39 = .ok (.aload_n 1, 1) := by decide +kernel
theorem dX3_read_40 : decode cX3_read 40 = .ok (.iload_n 3, 1) := by decide +kernel
theorem dX3_read_41 : decode cX3_read 41 = .ok (.iload 5, 2) := by decide +kernel
theorem dX3_read_43 : decode cX3_read 43 = .ok (.invokestatic 40, 3) := by decide +kernel
theorem dX3_read_46 : decode cX3_read 46 = .ok (.astore 6, 2) := by decide +kernel
theorem dX3_read_48 : decode cX3_read 48 = .ok (.iload_n 2, 1) := by decide +kernel
theorem dX3_read_49 : decode cX3_read 49 = .ok (.aload 6, 2) := by decide +kernel
theorem dX3_read_51 : decode cX3_read 51 = .ok (.invokestatic 44, 3) := by decide +kernel
theorem dX3_read_54 : decode cX3_read 54 = .ok (.istore_n 2, 1) := by decide +kernel
theorem dX3_read_55 : decode cX3_read 55 = .ok (.iload_n 2, 1) := by decide +kernel
theorem dX3_read_56 : decode cX3_read 56 = .ok (.bipush 10, 2) := by decide +kernel
theorem dX3_read_58 : decode cX3_read 58 = .ok (.if_icmp .ne 5, 3) := by decide +kernel
theorem dX3_read_61 : decode cX3_read 61 = .ok (.iload_n 3, 1) := by decide +kernel
theorem dX3_read_62 : decode cX3_read 62 = .ok (.ireturn, 1) := by decide +kernel
theorem dX3_read_63 : decode cX3_read 63 = .ok (.aload_n 0, 1) := by decide +kernel
theorem dX3_read_64 : decode cX3_read 64 = .ok (.iload_n 3, 1) := by decide +kernel
theorem dX3_read_65 : decode cX3_read 65 = .ok (.aload 6, 2) := by decide +kernel
theorem dX3_read_67 : decode cX3_read 67 = .ok (.aload_n 1, 1) := by decide +kernel
theorem dX3_read_68 : decode cX3_read 68 = .ok (.iload_n 3, 1) := by decide +kernel
theorem dX3_read_69 : decode cX3_read 69 = .ok (.iload 5, 2) := by decide +kernel
theorem dX3_read_71 : decode cX3_read 71 = .ok (.invokevirtual 48, 3) := by decide +kernel
theorem dX3_read_74 : decode cX3_read 74 = .ok (.invokevirtual 52, 3) := by decide +kernel
theorem dX3_read_77 : decode cX3_read 77 = .ok (.aload_n 1, 1) := by decide +kernel
theorem dX3_read_78 : decode cX3_read 78 = .ok (.iload 5, 2) := by decide +kernel
theorem dX3_read_80 : decode cX3_read 80 = .ok (.invokevirtual 28, 3) := by decide +kernel
theorem dX3_read_83 : decode cX3_read 83 = .ok (.istore_n 3, 1) := by decide +kernel
theorem dX3_read_84 : decode cX3_read 84 = .ok (.iinc 4 1, 3) := by decide +kernel
theorem dX3_read_87 : decode cX3_read 87 = .ok (.goto (-71), 3) := by decide +kernel
theorem dX3_read_90 : decode cX3_read 90 = .ok (.iload_n 3, 1) := by decide +kernel
theorem dX3_read_91 : decode cX3_read 91 = .ok (.aload_n 1, 1) := by decide +kernel
theorem dX3_read_92 : decode cX3_read 92 = .ok (.getfield 34, 3) := by decide +kernel
theorem dX3_read_95 : decode cX3_read 95 = .ok (.if_icmp .lt 11, 3) := by decide +kernel
theorem dX3_read_98 : decode cX3_read 98 = .ok (.iload_n 2, 1) := by decide +kernel
theorem dX3_read_99 : decode cX3_read 99 = .ok (.ifCond .ne 7, 3) := by decide +kernel
theorem dX3_read_102 : decode cX3_read 102 = .ok (.iconst (-1), 1) := by decide +kernel
theorem dX3_read_103 : decode cX3_read 103 = .ok (.goto 4, 3) := by decide +kernel
theorem dX3_read_106 : decode cX3_read 106 = .ok (.iload_n 3, 1) := by decide +kernel
theorem dX3_read_107 : decode cX3_read 107 = .ok (.ireturn, 1) := by decide +kernel
theorem dX3_kindOfToken_0 : decode cX3_kindOfToken 0 = .ok (.iconst 0, 1) := by decide +kernel
theorem dX3_kindOfToken_1 : decode cX3_kindOfToken 1 = .ok (.istore_n 3, 1) := by decide +kernel
theorem dX3_kindOfToken_2 : decode cX3_kindOfToken 2 = .ok (.iload_n 3, 1) := by decide +kernel
theorem dX3_kindOfToken_3 : decode cX3_kindOfToken 3 = .ok (.getstatic 56, 3) := by decide +kernel
theorem dX3_kindOfToken_6 : decode cX3_kindOfToken 6 = .ok (.arraylength, 1) := by decide +kernel
theorem dX3_kindOfToken_7 : decode cX3_kindOfToken 7 = .ok (.if_icmp .ge 38, 3) := by decide +kernel
theorem dX3_kindOfToken_10 : decode cX3_kindOfToken 10 = .ok (.getstatic 56, 3) := by decide +kernel
theorem dX3_kindOfToken_13 : decode cX3_kindOfToken 13 = .ok (.iload_n 3, 1) := by decide +kernel
theorem dX3_kindOfToken_14 : decode cX3_kindOfToken 14 = .ok (.aaload, 1) := by decide +kernel
theorem dX3_kindOfToken_15 : decode cX3_kindOfToken 15 = .ok (.astore 4, 2) := by decide +kernel
theorem dX3_kindOfToken_17 : decode cX3_kindOfToken 17 = .ok (.aload 4, 2) := by decide +kernel
theorem dX3_kindOfToken_19 : decode cX3_kindOfToken 19 = .ok (.ifnull 20, 3) := by decide +kernel
theorem dX3_kindOfToken_22 : decode cX3_kindOfToken 22 = .ok (.aload_n 0, 1) := by decide +kernel
theorem dX3_kindOfToken_23 : decode cX3_kindOfToken 23 = .ok (.iload_n 1, 1) := by decide +kernel
theorem dX3_kindOfToken_24 : decode cX3_kindOfToken 24 = .ok (.iload_n 2, 1) := by decide +kernel
theorem dX3_kindOfToken_25 : decode cX3_kindOfToken 25 = .ok (.aload 4, 2) := by decide +kernel
theorem dX3_kindOfToken_27 : decode cX3_kindOfToken 27 = .ok (.getfield 59, 3) := by decide +kernel
theorem dX3_kindOfToken_30 : decode cX3_kindOfToken 30 = .ok (.invokevirtual 63, 3) := by decide +kernel
theorem dX3_kindOfToken_33 : decode cX3_kindOfToken 33 = .ok (.ifCond .eq 6, 3) := by decide +kernel
theorem dX3_kindOfToken_36 : decode cX3_kindOfToken 36 = .ok (.aload 4, 2) := by decide +kernel
theorem dX3_kindOfToken_38 : decode cX3_kindOfToken 38 = .ok (.areturn, 1) := by decide +kernel
theorem dX3_kindOfToken_39 : decode cX3_kindOfToken 39 = .ok (.iinc 3 1, 3) := by decide +kernel
theorem dX3_kindOfToken_42 : decode cX3_kindOfToken 42 = .ok (.goto (-40), 3) := by decide +kernel
theorem dX3_kindOfToken_45 : decode cX3_kindOfToken 45 = .ok (.aload_n 0, 1) := by decide +kernel
theorem dX3_kindOfToken_46 : decode cX3_kindOfToken 46 = .ok (.iload_n 1, 1) := by decide +kernel
theorem dX3_kindOfToken_47 : decode cX3_kindOfToken 47 = .ok (.invokevirtual 67, 3) := by decide +kernel
theorem dX3_kindOfToken_50 : decode cX3_kindOfToken 50 = .ok (.ifCond .eq 17, 3) := by decide +kernel
theorem dX3_kindOfToken_53 : decode cX3_kindOfToken 53 = .ok (.iload_n 2, 1) := by decide +kernel
theorem dX3_kindOfToken_54 : decode cX3_kindOfToken 54 = .ok (.iload_n 1, 1) := by decide +kernel
theorem dX3_kindOfToken_55 : decode cX3_kindOfToken 55 = .ok (.isub, 1) := by decide +kernel
theorem dX3_kindOfToken_56 : decode cX3_kindOfToken 56 = .ok (.bipush 10, 2) := by decide +kernel
theorem dX3_kindOfToken_58 : decode cX3_kindOfToken 58 = .ok (.if_icmp .gt 9, 3) := by decide +kernel
theorem dX3_kindOfToken_61 : decode cX3_kindOfToken 61 = .ok (.getstatic 71, 3) := by decide +kernel
theorem dX3_kindOfToken_64 : decode cX3_kindOfToken 64 = .ok (.goto 6, 3) := by decide +kernel
theorem dX3_kindOfToken_67 : decode cX3_kindOfToken 67 = .ok (.getstatic 75, 3) := by decide +kernel
theorem dX3_kindOfToken_70 : decode cX3_kindOfToken 70 = .ok (.areturn, 1) := by decide +kernel
theorem dX3_behind_0 : decode cX3_behind 0 = .ok (.iload_n 0, 1) := by decide +kernel
theorem dX3_behind_1 : decode cX3_behind 1 = .ok (.tableswitch 176 0 8 #[51, 56, 70, 84, 99, 114, 129, 144, 161], 51) := by decide +kernel
theorem dX3_behind_52 : decode cX3_behind 52 = .ok (.aload_n 1, 1) := by decide +kernel
theorem dX3_behind_53 : decode cX3_behind 53 = .ok (.invokestatic 78, 3) := by decide +kernel
theorem dX3_behind_56 : decode cX3_behind 56 = .ok (.ireturn, 1) := by decide +kernel
theorem dX3_behind_57 : decode cX3_behind 57 = .ok (.aload_n 1, 1) := by decide +kernel
theorem dX3_behind_58 : decode cX3_behind 58 = .ok (.invokevirtual 82, 3) := by decide +kernel
theorem dX3_behind_61 : decode cX3_behind 61 = .ok (.ifCond .eq 7, 3) := by decide +kernel
theorem dX3_behind_64 : decode cX3_behind 64 = .ok (.iconst 2, 1) := by decide +kernel
theorem dX3_behind_65 : decode cX3_behind 65 = .ok (.goto 5, 3) := by decide +kernel
theorem dX3_behind_68 : decode cX3_behind 68 = .ok (.bipush 10, 2) := by decide +kernel
theorem dX3_behind_70 : decode cX3_behind 70 = .ok (.ireturn, 1) := by decide +kernel
theorem dX3_behind_71 : decode cX3_behind 71 = .ok (.aload_n 1, 1) := by decide +kernel
theorem dX3_behind_72 : decode cX3_behind 72 = .ok (.invokevirtual 86, 3) := by decide +kernel
theorem dX3_behind_75 : decode cX3_behind 75 = .ok (.ifCond .eq 7, 3) := by decide +kernel
theorem dX3_behind_78 : decode cX3_behind 78 = .ok (.iconst 3, 1) := by decide +kernel
theorem dX3_behind_79 : decode cX3_behind 79 = .ok (.goto 5, 3) := by decide +kernel
theorem dX3_behind_82 : decode cX3_behind 82 = .ok (.bipush 10, 2) := by decide +kernel
theorem dX3_behind_84 : decode cX3_behind 84 = .ok (.ireturn, 1) := by decide +kernel
theorem dX3_behind_85 : decode cX3_behind 85 = .ok (.aload_n 1, 1) := by decide +kernel
theorem dX3_behind_86 : decode cX3_behind 86 = .ok (.getstatic 71, 3) := by decide +kernel
theorem dX3_behind_89 : decode cX3_behind 89 = .ok (.if_acmp .ne 8, 3) := by decide +kernel
theorem dX3_behind_92 : decode cX3_behind 92 = .ok (.bipush 9, 2) := by decide +kernel
theorem dX3_behind_94 : decode cX3_behind 94 = .ok (.goto 5, 3) := by decide +kernel
theorem dX3_behind_97 : decode cX3_behind 97 = .ok (.bipush 10, 2) := by decide +kernel
theorem dX3_behind_99 : decode cX3_behind 99 = .ok (.ireturn, 1) := by decide +kernel
theorem dX3_behind_100 : decode cX3_behind 100 = .ok (.aload_n 1, 1) := by decide +kernel
theorem dX3_behind_101 : decode cX3_behind 101 = .ok (.invokevirtual 82, 3) := by decide +kernel
theorem dX3_behind_104 : decode cX3_behind 104 = .ok (.ifCond .eq 8, 3) := by decide +kernel
theorem dX3_behind_107 : decode cX3_behind 107 = .ok (.bipush 9, 2) := by decide +kernel
theorem dX3_behind_109 : decode cX3_behind 109 = .ok (.goto 5, 3) := by decide +kernel
theorem dX3_behind_112 : decode cX3_behind 112 = .ok (.bipush 10, 2) := by decide +kernel
theorem dX3_behind_114 : decode cX3_behind 114 = .ok (.ireturn, 1) := by decide +kernel
theorem dX3_behind_115 : decode cX3_behind 115 = .ok (.aload_n 1, 1) := by decide +kernel
theorem dX3_behind_116 : decode cX3_behind 116 = .ok (.getstatic 71, 3) := by decide +kernel
theorem dX3_behind_119 : decode cX3_behind 119 = .ok (.if_acmp .ne 8, 3) := by decide +kernel
theorem dX3_behind_122 : decode cX3_behind 122 = .ok (.bipush 6, 2) := by decide +kernel
theorem dX3_behind_124 : decode cX3_behind 124 = .ok (.goto 5, 3) := by decide +kernel
theorem dX3_behind_127 : decode cX3_behind 127 = .ok (.bipush 10, 2) := by decide +kernel
theorem dX3_behind_129 : decode cX3_behind 129 = .ok (.ireturn, 1) := by decide +kernel
theorem dX3_behind_130 : decode cX3_behind 130 = .ok (.aload_n 1, 1) := by decide +kernel
theorem dX3_behind_131 : decode cX3_behind 131 = .ok (.getstatic 71, 3) := by decide +kernel
theorem dX3_behind_134 : decode cX3_behind 134 = .ok (.if_acmp .ne 8, 3) := by decide +kernel
theorem dX3_behind_137 : decode cX3_behind 137 = .ok (.bipush 7, 2) := by decide +kernel
theorem dX3_behind_139 : decode cX3_behind 139 = .ok (.goto 5, 3) := by decide +kernel
theorem dX3_behind_142 : decode cX3_behind 142 = .ok (.bipush 10, 2) := by decide +kernel
theorem dX3_behind_144 : decode cX3_behind 144 = .ok (.ireturn, 1) := by decide +kernel
theorem dX3_behind_145 : decode cX3_behind 145 = .ok (.aload_n 1, 1) := by decide +kernel
theorem dX3_behind_146 : decode cX3_behind 146 = .ok (.getstatic 89, 3) := by decide +kernel
theorem dX3_behind_149 : decode cX3_behind 149 = .ok (.if_acmp .ne 8, 3) := by decide +kernel
theorem dX3_behind_152 : decode cX3_behind 152 = .ok (.bipush 8, 2) := by decide +kernel
theorem dX3_behind_154 : decode cX3_behind 154 = .ok (.goto 7, 3) := by decide +kernel
theorem dX3_behind_157 : decode cX3_behind 157 = .ok (.aload_n 1, 1) := by decide +kernel
theorem dX3_behind_158 : decode cX3_behind 158 = .ok (.invokestatic 92, 3) := by decide +kernel
theorem dX3_behind_161 : decode cX3_behind 161 = .ok (.ireturn, 1) := by decide +kernel
theorem dX3_behind_162 : decode cX3_behind 162 = .ok (.aload_n 1, 1) := by decide +kernel
theorem dX3_behind_163 : decode cX3_behind 163 = .ok (.invokevirtual 86, 3) := by decide +kernel
theorem dX3_behind_166 : decode cX3_behind 166 = .ok (.ifCond .eq 8, 3) := by decide +kernel
theorem dX3_behind_169 : decode cX3_behind 169 = .ok (.bipush 9, 2) := by decide +kernel
theorem dX3_behind_171 : decode cX3_behind 171 = .ok (.goto 5, 3) := by decide +kernel
theorem dX3_behind_174 : decode cX3_behind 174 = .ok (.bipush 10, 2) := by decide +kernel
theorem dX3_behind_176 : decode cX3_behind 176 = .ok (.ireturn, 1) := by decide +kernel
theorem dX3_behind_177 : decode cX3_behind 177 = .ok (.aload_n 1, 1) := by decide +kernel
theorem dX3_behind_178 : decode cX3_behind 178 = .ok (.invokestatic 92, 3) := by decide +kernel
theorem dX3_behind_181 : decode cX3_behind 181 = .ok (.ireturn, 1) := by decide +kernel
theorem dX3_behindFirst_0 : decode cX3_behindFirst 0 = .ok (.aload_n 0, 1) := by decide +kernel
theorem dX3_behindFirst_1 : decode cX3_behindFirst 1 = .ok (.getstatic 95, 3) := by decide +kernel
theorem dX3_behindFirst_4 : decode cX3_behindFirst 4 = .ok (.if_acmp .ne 6, 3) := by decide +kernel
theorem dX3_behindFirst_7 : decode cX3_behindFirst 7 = .ok (.bipush 9, 2) := by decide +kernel
theorem dX3_behindFirst_9 : decode cX3_behindFirst 9 = .ok (.ireturn, 1) := by decide +kernel
theorem dX3_behindFirst_10 : decode cX3_behindFirst 10 = .ok (.aload_n 0, 1) := by decide +kernel
theorem dX3_behindFirst_11 : decode cX3_behindFirst 11 = .ok (.getstatic 98, 3) := by decide +kernel
theorem dX3_behindFirst_14 : decode cX3_behindFirst 14 = .ok (.if_acmp .ne 5, 3) := by decide +kernel
theorem dX3_behindFirst_17 : decode cX3_behindFirst 17 = .ok (.iconst 1, 1) := by decide +kernel
theorem dX3_behindFirst_18 : decode cX3_behindFirst 18 = .ok (.ireturn, 1) := by decide +kernel
theorem dX3_behindFirst_19 : decode cX3_behindFirst 19 = .ok (.aload_n 0, 1) := by decide +kernel
theorem dX3_behindFirst_20 : decode cX3_behindFirst 20 = .ok (.getstatic 101, 3) := by decide +kernel
theorem dX3_behindFirst_23 : decode cX3_behindFirst 23 = .ok (.if_acmp .ne 5, 3) := by decide +kernel
theorem dX3_behindFirst_26 : decode cX3_behindFirst 26 = .ok (.iconst 4, 1) := by decide +kernel
theorem dX3_behindFirst_27 : decode cX3_behindFirst 27 = .ok (.ireturn, 1) := by decide +kernel
theorem dX3_behindFirst_28 : decode cX3_behindFirst 28 = .ok (.aload_n 0, 1) := by decide +kernel
theorem dX3_behindFirst_29 : decode cX3_behindFirst 29 = .ok (.getstatic 104, 3) := by decide +kernel
theorem dX3_behindFirst_32 : decode cX3_behindFirst 32 = .ok (.if_acmp .ne 7, 3) := by decide +kernel
theorem dX3_behindFirst_35 : decode cX3_behindFirst 35 = .ok (.iconst 5, 1) := by decide +kernel
theorem dX3_behindFirst_36 : decode cX3_behindFirst 36 = .ok (.goto 5, 3) := by decide +kernel
theorem dX3_behindFirst_39 : decode cX3_behindFirst 39 = .ok (.bipush 10, 2) := by decide +kernel
theorem dX3_behindFirst_41 : decode cX3_behindFirst 41 = .ok (.ireturn, 1) := by decide +kernel
theorem dX3_behindLine_0 : decode cX3_behindLine 0 = .ok (.aload_n 0, 1) := by decide +kernel
theorem dX3_behindLine_1 : decode cX3_behindLine 1 = .ok (.getstatic 107, 3) := by decide +kernel
theorem dX3_behindLine_4 : decode cX3_behindLine 4 = .ok (.if_acmp .ne 7, 3) := by decide +kernel
theorem dX3_behindLine_7 : decode cX3_behindLine 7 = .ok (.iconst 0, 1) := by decide +kernel
theorem dX3_behindLine_8 : decode cX3_behindLine 8 = .ok (.goto 5, 3) := by decide +kernel
theorem dX3_behindLine_11 : decode cX3_behindLine 11 = .ok (.bipush 10, 2) := by decide +kernel
theorem dX3_behindLine_13 : decode cX3_behindLine 13 = .ok (.ireturn, 1) := by decide +kernel
theorem dX3_keep_0 : decode cX3_keep 0 = .ok (.aload_n 0, 1) := by decide +kernel
theorem dX3_keep_1 : decode cX3_keep 1 = .ok (.getfield 24, 3) := by decide +kernel
theorem dX3_keep_4 : decode cX3_keep 4 = .ok (.ifCond .lt 79, 3) := by decide +kernel
theorem dX3_keep_7 : decode cX3_keep 7 = .ok (.aload_n 0, 1) := by decide +kernel
theorem dX3_keep_8 : decode cX3_keep 8 = .ok (.getfield 24, 3) := by decide +kernel
theorem dX3_keep_11 : decode cX3_keep 11 = .ok (.aload_n 0, 1) := by decide +kernel
theorem dX3_keep_12 : decode cX3_keep 12 = .ok (.getfield 9, 3) := by decide +kernel
theorem dX3_keep_15 : decode cX3_keep 15 = .ok (.arraylength, 1) := by decide +kernel
theorem dX3_keep_16 : decode cX3_keep 16 = .ok (.if_icmp .ge 67, 3) := by decide +kernel
theorem dX3_keep_19 : decode cX3_keep 19 = .ok (.aload_n 0, 1) := by decide +kernel
theorem dX3_keep_20 : decode cX3_keep 20 = .ok (.getfield 24, 3) := by decide +kernel
theorem dX3_keep_23 : decode cX3_keep 23 = .ok (.aload_n 0, 1) := by decide +kernel
theorem dX3_keep_24 : decode cX3_keep 24 = .ok (.getfield 20, 3) := by decide +kernel
theorem dX3_keep_27 : decode cX3_keep 27 = .ok (.arraylength, 1) := by decide +kernel
theorem dX3_keep_28 : decode cX3_keep 28 = .ok (.if_icmp .ge 55, 3) := by decide +kernel
theorem dX3_keep_31 : decode cX3_keep 31 = .ok (.aload_n 0, 1) := by decide +kernel
theorem dX3_keep_32 : decode cX3_keep 32 = .ok (.getfield 24, 3) := by decide +kernel
theorem dX3_keep_35 : decode cX3_keep 35 = .ok (.aload_n 0, 1) := by decide +kernel
theorem dX3_keep_36 : decode cX3_keep 36 = .ok (.getfield 15, 3) := by decide +kernel
theorem dX3_keep_39 : decode cX3_keep 39 = .ok (.arraylength, 1) := by decide +kernel
theorem dX3_keep_40 : decode cX3_keep 40 = .ok (.if_icmp .ge 43, 3) := by decide +kernel
theorem dX3_keep_43 : decode cX3_keep 43 = .ok (.aload_n 0, 1) := by decide +kernel
theorem dX3_keep_44 : decode cX3_keep 44 = .ok (.getfield 9, 3) := by decide +kernel
theorem dX3_keep_47 : decode cX3_keep 47 = .ok (.aload_n 0, 1) := by decide +kernel
theorem dX3_keep_48 : decode cX3_keep 48 = .ok (.getfield 24, 3) := by decide +kernel
theorem dX3_keep_51 : decode cX3_keep 51 = .ok (.iload_n 1, 1) := by decide +kernel
theorem dX3_keep_52 : decode cX3_keep 52 = .ok (.iastore, 1) := by decide +kernel
theorem dX3_keep_53 : decode cX3_keep 53 = .ok (.aload_n 0, 1) := by decide +kernel
theorem dX3_keep_54 : decode cX3_keep 54 = .ok (.getfield 20, 3) := by decide +kernel
theorem dX3_keep_57 : decode cX3_keep 57 = .ok (.aload_n 0, 1) := by decide +kernel
theorem dX3_keep_58 : decode cX3_keep 58 = .ok (.getfield 24, 3) := by decide +kernel
theorem dX3_keep_61 : decode cX3_keep 61 = .ok (.aload_n 2, 1) := by decide +kernel
theorem dX3_keep_62 : decode cX3_keep 62 = .ok (.aastore, 1) := by decide +kernel
theorem dX3_keep_63 : decode cX3_keep 63 = .ok (.aload_n 0, 1) := by decide +kernel
theorem dX3_keep_64 : decode cX3_keep 64 = .ok (.getfield 15, 3) := by decide +kernel
theorem dX3_keep_67 : decode cX3_keep 67 = .ok (.aload_n 0, 1) := by decide +kernel
theorem dX3_keep_68 : decode cX3_keep 68 = .ok (.getfield 24, 3) := by decide +kernel
theorem dX3_keep_71 : decode cX3_keep 71 = .ok (.iload_n 3, 1) := by decide +kernel
theorem dX3_keep_72 : decode cX3_keep 72 = .ok (.iastore, 1) := by decide +kernel
theorem dX3_keep_73 : decode cX3_keep 73 = .ok (.aload_n 0, 1) := by decide +kernel
theorem dX3_keep_74 : decode cX3_keep 74 = .ok (.dup, 1) := by decide +kernel
theorem dX3_keep_75 : decode cX3_keep 75 = .ok (.getfield 24, 3) := by decide +kernel
theorem dX3_keep_78 : decode cX3_keep 78 = .ok (.iconst 1, 1) := by decide +kernel
theorem dX3_keep_79 : decode cX3_keep 79 = .ok (.iadd, 1) := by decide +kernel
theorem dX3_keep_80 : decode cX3_keep 80 = .ok (.putfield 24, 3) := by decide +kernel
theorem dX3_keep_83 : decode cX3_keep 83 = .ok (.return_, 1) := by decide +kernel
theorem dX3_startOf_0 : decode cX3_startOf 0 = .ok (.iload_n 1, 1) := by decide +kernel
theorem dX3_startOf_1 : decode cX3_startOf 1 = .ok (.ifCond .lt 21, 3) := by decide +kernel
theorem dX3_startOf_4 : decode cX3_startOf 4 = .ok (.iload_n 1, 1) := by decide +kernel
theorem dX3_startOf_5 : decode cX3_startOf 5 = .ok (.aload_n 0, 1) := by decide +kernel
theorem dX3_startOf_6 : decode cX3_startOf 6 = .ok (.getfield 9, 3) := by decide +kernel
theorem dX3_startOf_9 : decode cX3_startOf 9 = .ok (.arraylength, 1) := by decide +kernel
theorem dX3_startOf_10 : decode cX3_startOf 10 = .ok (.if_icmp .ge 12, 3) := by decide +kernel
theorem dX3_startOf_13 : decode cX3_startOf 13 = .ok (.aload_n 0, 1) := by decide +kernel
theorem dX3_startOf_14 : decode cX3_startOf 14 = .ok (.getfield 9, 3) := by decide +kernel
theorem dX3_startOf_17 : decode cX3_startOf 17 = .ok (.iload_n 1, 1) := by decide +kernel
theorem dX3_startOf_18 : decode cX3_startOf 18 = .ok (.iaload, 1) := by decide +kernel
theorem dX3_startOf_19 : decode cX3_startOf 19 = .ok (.goto 4, 3) := by decide +kernel
theorem dX3_startOf_22 : decode cX3_startOf 22 = .ok (.iconst (-1), 1) := by decide +kernel
theorem dX3_startOf_23 : decode cX3_startOf 23 = .ok (.ireturn, 1) := by decide +kernel
theorem dX3_cellOfToken_0 : decode cX3_cellOfToken 0 = .ok (.iload_n 1, 1) := by decide +kernel
theorem dX3_cellOfToken_1 : decode cX3_cellOfToken 1 = .ok (.ifCond .lt 21, 3) := by decide +kernel
theorem dX3_cellOfToken_4 : decode cX3_cellOfToken 4 = .ok (.iload_n 1, 1) := by decide +kernel
theorem dX3_cellOfToken_5 : decode cX3_cellOfToken 5 = .ok (.aload_n 0, 1) := by decide +kernel
theorem dX3_cellOfToken_6 : decode cX3_cellOfToken 6 = .ok (.getfield 15, 3) := by decide +kernel
theorem dX3_cellOfToken_9 : decode cX3_cellOfToken 9 = .ok (.arraylength, 1) := by decide +kernel
theorem dX3_cellOfToken_10 : decode cX3_cellOfToken 10 = .ok (.if_icmp .ge 12, 3) := by decide +kernel
theorem dX3_cellOfToken_13 : decode cX3_cellOfToken 13 = .ok (.aload_n 0, 1) := by decide +kernel
theorem dX3_cellOfToken_14 : decode cX3_cellOfToken 14 = .ok (.getfield 15, 3) := by decide +kernel
theorem dX3_cellOfToken_17 : decode cX3_cellOfToken 17 = .ok (.iload_n 1, 1) := by decide +kernel
theorem dX3_cellOfToken_18 : decode cX3_cellOfToken 18 = .ok (.iaload, 1) := by decide +kernel
theorem dX3_cellOfToken_19 : decode cX3_cellOfToken 19 = .ok (.goto 4, 3) := by decide +kernel
theorem dX3_cellOfToken_22 : decode cX3_cellOfToken 22 = .ok (.iconst (-1), 1) := by decide +kernel
theorem dX3_cellOfToken_23 : decode cX3_cellOfToken 23 = .ok (.ireturn, 1) := by decide +kernel
theorem dX3_kindAt_0 : decode cX3_kindAt 0 = .ok (.iload_n 1, 1) := by decide +kernel
theorem dX3_kindAt_1 : decode cX3_kindAt 1 = .ok (.ifCond .lt 29, 3) := by decide +kernel
theorem dX3_kindAt_4 : decode cX3_kindAt 4 = .ok (.iload_n 1, 1) := by decide +kernel
theorem dX3_kindAt_5 : decode cX3_kindAt 5 = .ok (.aload_n 0, 1) := by decide +kernel
theorem dX3_kindAt_6 : decode cX3_kindAt 6 = .ok (.getfield 24, 3) := by decide +kernel
theorem dX3_kindAt_9 : decode cX3_kindAt 9 = .ok (.if_icmp .ge 21, 3) := by decide +kernel
theorem dX3_kindAt_12 : decode cX3_kindAt 12 = .ok (.iload_n 1, 1) := by decide +kernel
theorem dX3_kindAt_13 : decode cX3_kindAt 13 = .ok (.aload_n 0, 1) := by decide +kernel
theorem dX3_kindAt_14 : decode cX3_kindAt 14 = .ok (.getfield 20, 3) := by decide +kernel
theorem dX3_kindAt_17 : decode cX3_kindAt 17 = .ok (.arraylength, 1) := by decide +kernel
theorem dX3_kindAt_18 : decode cX3_kindAt 18 = .ok (.if_icmp .ge 12, 3) := by decide +kernel
theorem dX3_kindAt_21 : decode cX3_kindAt 21 = .ok (.aload_n 0, 1) := by decide +kernel
theorem dX3_kindAt_22 : decode cX3_kindAt 22 = .ok (.getfield 20, 3) := by decide +kernel
theorem dX3_kindAt_25 : decode cX3_kindAt 25 = .ok (.iload_n 1, 1) := by decide +kernel
theorem dX3_kindAt_26 : decode cX3_kindAt 26 = .ok (.aaload, 1) := by decide +kernel
theorem dX3_kindAt_27 : decode cX3_kindAt 27 = .ok (.goto 6, 3) := by decide +kernel
theorem dX3_kindAt_30 : decode cX3_kindAt 30 = .ok (.getstatic 75, 3) := by decide +kernel
theorem dX3_kindAt_33 : decode cX3_kindAt 33 = .ok (.astore_n 2, 1) := by decide +kernel
theorem dX3_kindAt_34 : decode cX3_kindAt 34 = .ok (.aload_n 2, 1) := by decide +kernel
theorem dX3_kindAt_35 : decode cX3_kindAt 35 = .ok (.ifnonnull 9, 3) := by decide +kernel
theorem dX3_kindAt_38 : decode cX3_kindAt 38 = .ok (.getstatic 75, 3) := by decide +kernel
theorem dX3_kindAt_41 : decode cX3_kindAt 41 = .ok (.goto 4, 3) := by decide +kernel
theorem dX3_kindAt_44 : decode cX3_kindAt 44 = .ok (.aload_n 2, 1) := by decide +kernel
theorem dX3_kindAt_45 : decode cX3_kindAt 45 = .ok (.areturn, 1) := by decide +kernel
theorem dX4_init_0 : decode cX4_init 0 = .ok (.aload_n 0, 1) := by decide +kernel
theorem dX4_init_1 : decode cX4_init 1 = .ok (.invokespecial 3, 3) := by decide +kernel
theorem dX4_init_4 : decode cX4_init 4 = .ok (.aload_n 0, 1) := by decide +kernel
theorem dX4_init_5 : decode cX4_init 5 = .ok (.sipush 2000, 3) := by decide +kernel
theorem dX4_init_8 : decode cX4_init 8 = .ok (.newarray .int, 2) := by decide +kernel
theorem dX4_init_10 : decode cX4_init 10 = .ok (.putfield 9, 3) := by decide +kernel
theorem dX4_init_13 : decode cX4_init 13 = .ok (.aload_n 0, 1) := by decide +kernel
theorem dX4_init_14 : decode cX4_init 14 = .ok (.iconst 0, 1) := by decide +kernel
theorem dX4_init_15 : decode cX4_init 15 = .ok (.putfield 15, 3) := by decide +kernel
theorem dX4_init_18 : decode cX4_init 18 = .ok (.return_, 1) := by decide +kernel
theorem dX4_append_0 : decode cX4_append 0 = .ok (.aload_n 0, 1) := by decide +kernel
theorem dX4_append_1 : decode cX4_append 1 = .ok (.iload_n 1, 1) := by decide +kernel
theorem dX4_append_2 : decode cX4_append 2 = .ok (.bipush 24, 2) := by decide +kernel
theorem dX4_append_4 : decode cX4_append 4 = .ok (.iushr, 1) := by decide +kernel
theorem dX4_append_5 : decode cX4_append 5 = .ok (.invokevirtual 19, 3) := by decide +kernel
theorem dX4_append_8 : decode cX4_append 8 = .ok (.aload_n 0, 1) := by decide +kernel
theorem dX4_append_9 : decode cX4_append 9 = .ok (.iload_n 1, 1) := by decide +kernel
theorem dX4_append_10 : decode cX4_append 10 = .ok (.bipush 16, 2) := by decide +kernel
theorem dX4_append_12 : decode cX4_append 12 = .ok (.iushr, 1) := by decide +kernel
theorem dX4_append_13 : decode cX4_append 13 = .ok (.sipush 255, 3) := by decide +kernel
theorem dX4_append_16 : decode cX4_append 16 = .ok (.iand, 1) := by decide +kernel
theorem dX4_append_17 : decode cX4_append 17 = .ok (.invokevirtual 19, 3) := by decide +kernel
theorem dX4_append_20 : decode cX4_append 20 = .ok (.aload_n 0, 1) := by decide +kernel
theorem dX4_append_21 : decode cX4_append 21 = .ok (.iload_n 1, 1) := by decide +kernel
theorem dX4_append_22 : decode cX4_append 22 = .ok (.bipush 8, 2) := by decide +kernel
theorem dX4_append_24 : decode cX4_append 24 = .ok (.iushr, 1) := by decide +kernel
theorem dX4_append_25 : decode cX4_append 25 = .ok (.sipush 255, 3) := by decide +kernel
theorem dX4_append_28 : decode cX4_append 28 = .ok (.iand, 1) := by decide +kernel
theorem dX4_append_29 : decode cX4_append 29 = .ok (.invokevirtual 19, 3) := by decide +kernel
theorem dX4_append_32 : decode cX4_append 32 = .ok (.aload_n 0, 1) := by decide +kernel
theorem dX4_append_33 : decode cX4_append 33 = .ok (.iload_n 1, 1) := by decide +kernel
theorem dX4_append_34 : decode cX4_append 34 = .ok (.sipush 255, 3) := by decide +kernel
theorem dX4_append_37 : decode cX4_append 37 = .ok (.iand, 1) := by decide +kernel
theorem dX4_append_38 : decode cX4_append 38 = .ok (.invokevirtual 19, 3) := by decide +kernel
theorem dX4_append_41 : decode cX4_append 41 = .ok (.return_, 1) := by decide +kernel
theorem dX4_appendByte_0 : decode cX4_appendByte 0 = .ok (.aload_n 0, 1) := by decide +kernel
theorem dX4_appendByte_1 : decode cX4_appendByte 1 = .ok (.getfield 15, 3) := by decide +kernel
theorem dX4_appendByte_4 : decode cX4_appendByte 4 = .ok (.ifCond .lt 35, 3) := by decide +kernel
theorem dX4_appendByte_7 : decode cX4_appendByte 7 = .ok (.aload_n 0, 1) := by decide +kernel
theorem dX4_appendByte_8 : decode cX4_appendByte 8 = .ok (.getfield 15, 3) := by decide +kernel
theorem dX4_appendByte_11 : decode cX4_appendByte 11 = .ok (.aload_n 0, 1) := by decide +kernel
theorem dX4_appendByte_12 : decode cX4_appendByte 12 = .ok (.getfield 9, 3) := by decide +kernel
theorem dX4_appendByte_15 : decode cX4_appendByte 15 = .ok (.arraylength, 1) := by decide +kernel
theorem dX4_appendByte_16 : decode cX4_appendByte 16 = .ok (.if_icmp .ge 23, 3) := by decide +kernel
theorem dX4_appendByte_19 : decode cX4_appendByte 19 = .ok (.aload_n 0, 1) := by decide +kernel
theorem dX4_appendByte_20 : decode cX4_appendByte 20 = .ok (.getfield 9, 3) := by decide +kernel
theorem dX4_appendByte_23 : decode cX4_appendByte 23 = .ok (.aload_n 0, 1) := by decide +kernel
theorem dX4_appendByte_24 : decode cX4_appendByte 24 = .ok (.getfield 15, 3) := by decide +kernel
theorem dX4_appendByte_27 : decode cX4_appendByte 27 = .ok (.iload_n 1, 1) := by decide +kernel
theorem dX4_appendByte_28 : decode cX4_appendByte 28 = .ok (.iastore, 1) := by decide +kernel
theorem dX4_appendByte_29 : decode cX4_appendByte 29 = .ok (.aload_n 0, 1) := by decide +kernel
theorem dX4_appendByte_30 : decode cX4_appendByte 30 = .ok (.dup, 1) := by decide +kernel
theorem dX4_appendByte_31 : decode cX4_appendByte 31 = .ok (.getfield 15, 3) := by decide +kernel
theorem dX4_appendByte_34 : decode cX4_appendByte 34 = .ok (.iconst 1, 1) := by decide +kernel
theorem dX4_appendByte_35 : decode cX4_appendByte 35 = .ok (.iadd, 1) := by decide +kernel
theorem dX4_appendByte_36 : decode cX4_appendByte 36 = .ok (.putfield 15, 3) := by decide +kernel
theorem dX4_appendByte_39 : decode cX4_appendByte 39 = .ok (.return_, 1) := by decide +kernel
theorem dX4_shorten_0 : decode cX4_shorten 0 = .ok (.aload_n 0, 1) := by decide +kernel
theorem dX4_shorten_1 : decode cX4_shorten 1 = .ok (.iload_n 1, 1) := by decide +kernel
theorem dX4_shorten_2 : decode cX4_shorten 2 = .ok (.putfield 15, 3) := by decide +kernel
theorem dX4_shorten_5 : decode cX4_shorten 5 = .ok (.return_, 1) := by decide +kernel
theorem dX4_byteAt_0 : decode cX4_byteAt 0 = .ok (.iload_n 1, 1) := by decide +kernel
theorem dX4_byteAt_1 : decode cX4_byteAt 1 = .ok (.ifCond .lt 29, 3) := by decide +kernel
theorem dX4_byteAt_4 : decode cX4_byteAt 4 = .ok (.iload_n 1, 1) := by decide +kernel
theorem dX4_byteAt_5 : decode cX4_byteAt 5 = .ok (.aload_n 0, 1) := by decide +kernel
theorem dX4_byteAt_6 : decode cX4_byteAt 6 = .ok (.getfield 15, 3) := by decide +kernel
theorem dX4_byteAt_9 : decode cX4_byteAt 9 = .ok (.if_icmp .ge 21, 3) := by decide +kernel
theorem dX4_byteAt_12 : decode cX4_byteAt 12 = .ok (.iload_n 1, 1) := by decide +kernel
theorem dX4_byteAt_13 : decode cX4_byteAt 13 = .ok (.aload_n 0, 1) := by decide +kernel
theorem dX4_byteAt_14 : decode cX4_byteAt 14 = .ok (.getfield 9, 3) := by decide +kernel
theorem dX4_byteAt_17 : decode cX4_byteAt 17 = .ok (.arraylength, 1) := by decide +kernel
theorem dX4_byteAt_18 : decode cX4_byteAt 18 = .ok (.if_icmp .ge 12, 3) := by decide +kernel
theorem dX4_byteAt_21 : decode cX4_byteAt 21 = .ok (.aload_n 0, 1) := by decide +kernel
theorem dX4_byteAt_22 : decode cX4_byteAt 22 = .ok (.getfield 9, 3) := by decide +kernel
theorem dX4_byteAt_25 : decode cX4_byteAt 25 = .ok (.iload_n 1, 1) := by decide +kernel
theorem dX4_byteAt_26 : decode cX4_byteAt 26 = .ok (.iaload, 1) := by decide +kernel
theorem dX4_byteAt_27 : decode cX4_byteAt 27 = .ok (.goto 4, 3) := by decide +kernel
theorem dX4_byteAt_30 : decode cX4_byteAt 30 = .ok (.iconst (-1), 1) := by decide +kernel
theorem dX4_byteAt_31 : decode cX4_byteAt 31 = .ok (.ireturn, 1) := by decide +kernel
theorem dX4_isLetter_0 : decode cX4_isLetter 0 = .ok (.aload_n 0, 1) := by decide +kernel
theorem dX4_isLetter_1 : decode cX4_isLetter 1 = .ok (.iload_n 1, 1) := by decide +kernel
theorem dX4_isLetter_2 : decode cX4_isLetter 2 = .ok (.invokevirtual 23, 3) := by decide +kernel
theorem dX4_isLetter_5 : decode cX4_isLetter 5 = .ok (.bipush 97, 2) := by decide +kernel
theorem dX4_isLetter_7 : decode cX4_isLetter 7 = .ok (.if_icmp .lt 17, 3) := by decide +kernel
theorem dX4_isLetter_10 : decode cX4_isLetter 10 = .ok (.aload_n 0, 1) := by decide +kernel
theorem dX4_isLetter_11 : decode cX4_isLetter 11 = .ok (.iload_n 1, 1) := by decide +kernel
theorem dX4_isLetter_12 : decode cX4_isLetter 12 = .ok (.invokevirtual 23, 3) := by decide +kernel
theorem dX4_isLetter_15 : decode cX4_isLetter 15 = .ok (.bipush 122, 2) := by decide +kernel
theorem dX4_isLetter_17 : decode cX4_isLetter 17 = .ok (.if_icmp .gt 7, 3) := by decide +kernel
theorem dX4_isLetter_20 : decode cX4_isLetter 20 = .ok (.iconst 1, 1) := by decide +kernel
theorem dX4_isLetter_21 : decode cX4_isLetter 21 = .ok (.goto 4, 3) := by decide +kernel
theorem dX4_isLetter_24 : decode cX4_isLetter 24 = .ok (.iconst 0, 1) := by decide +kernel
theorem dX4_isLetter_25 : decode cX4_isLetter 25 = .ok (.ireturn, 1) := by decide +kernel
theorem dX4_isDigit_0 : decode cX4_isDigit 0 = .ok (.aload_n 0, 1) := by decide +kernel
theorem dX4_isDigit_1 : decode cX4_isDigit 1 = .ok (.iload_n 1, 1) := by decide +kernel
theorem dX4_isDigit_2 : decode cX4_isDigit 2 = .ok (.invokevirtual 23, 3) := by decide +kernel
theorem dX4_isDigit_5 : decode cX4_isDigit 5 = .ok (.bipush 48, 2) := by decide +kernel
theorem dX4_isDigit_7 : decode cX4_isDigit 7 = .ok (.if_icmp .lt 17, 3) := by decide +kernel
theorem dX4_isDigit_10 : decode cX4_isDigit 10 = .ok (.aload_n 0, 1) := by decide +kernel
theorem dX4_isDigit_11 : decode cX4_isDigit 11 = .ok (.iload_n 1, 1) := by decide +kernel
theorem dX4_isDigit_12 : decode cX4_isDigit 12 = .ok (.invokevirtual 23, 3) := by decide +kernel
theorem dX4_isDigit_15 : decode cX4_isDigit 15 = .ok (.bipush 57, 2) := by decide +kernel
theorem dX4_isDigit_17 : decode cX4_isDigit 17 = .ok (.if_icmp .gt 7, 3) := by decide +kernel
theorem dX4_isDigit_20 : decode cX4_isDigit 20 = .ok (.iconst 1, 1) := by decide +kernel
theorem dX4_isDigit_21 : decode cX4_isDigit 21 = .ok (.goto 4, 3) := by decide +kernel
theorem dX4_isDigit_24 : decode cX4_isDigit 24 = .ok (.iconst 0, 1) := by decide +kernel
theorem dX4_isDigit_25 : decode cX4_isDigit 25 = .ok (.ireturn, 1) := by decide +kernel
theorem dX4_behindBlanks_0 : decode cX4_behindBlanks 0 = .ok (.iload_n 1, 1) := by decide +kernel
theorem dX4_behindBlanks_1 : decode cX4_behindBlanks 1 = .ok (.istore_n 2, 1) := by decide +kernel
theorem dX4_behindBlanks_2 : decode cX4_behindBlanks 2 = .ok (.iconst 0, 1) := by decide +kernel
theorem dX4_behindBlanks_3 : decode cX4_behindBlanks 3 = .ok (.istore_n 3, 1) := by decide +kernel
theorem dX4_behindBlanks_4 : decode cX4_behindBlanks 4 = .ok (.iload_n 3, 1) := by decide +kernel
theorem dX4_behindBlanks_5 : decode cX4_behindBlanks 5 = .ok (.sipush 2000, 3) := by decide +kernel
theorem dX4_behindBlanks_8 : decode cX4_behindBlanks 8 = .ok (.if_icmp .ge 35, 3) := by decide +kernel
theorem dX4_behindBlanks_11 : decode cX4_behindBlanks 11 = .ok (.aload_n 0, 1) := by decide +kernel
theorem dX4_behindBlanks_12 : decode cX4_behindBlanks 12 = .ok (.iload_n 2, 1) := by decide +kernel
theorem dX4_behindBlanks_13 : decode cX4_behindBlanks 13 = .ok (.invokevirtual 23, 3) := by decide +kernel
theorem dX4_behindBlanks_16 : decode cX4_behindBlanks 16 = .ok (.bipush 32, 2) := by decide +kernel
theorem dX4_behindBlanks_18 : decode cX4_behindBlanks 18 = .ok (.if_icmp .eq 16, 3) := by decide +kernel
theorem dX4_behindBlanks_21 : decode cX4_behindBlanks 21 = .ok (.aload_n 0, 1) := by decide +kernel
theorem dX4_behindBlanks_22 : decode cX4_behindBlanks 22 = .ok (.iload_n 2, 1) := by decide +kernel
theorem dX4_behindBlanks_23 : decode cX4_behindBlanks 23 = .ok (.invokevirtual 23, 3) := by decide +kernel
theorem dX4_behindBlanks_26 : decode cX4_behindBlanks 26 = .ok (.bipush 10, 2) := by decide +kernel
theorem dX4_behindBlanks_28 : decode cX4_behindBlanks 28 = .ok (.if_icmp .eq 6, 3) := by decide +kernel
theorem dX4_behindBlanks_31 : decode cX4_behindBlanks 31 = .ok (.goto 12, 3) := by decide +kernel
theorem dX4_behindBlanks_34 : decode cX4_behindBlanks 34 = .ok (.iinc 2 1, 3) := by decide +kernel
theorem dX4_behindBlanks_37 : decode cX4_behindBlanks 37 = .ok (.iinc 3 1, 3) := by decide +kernel
theorem dX4_behindBlanks_40 : decode cX4_behindBlanks 40 = .ok (.goto (-36), 3) := by decide +kernel
theorem dX4_behindBlanks_43 : decode cX4_behindBlanks 43 = .ok (.iload_n 2, 1) := by decide +kernel
theorem dX4_behindBlanks_44 : decode cX4_behindBlanks 44 = .ok (.ireturn, 1) := by decide +kernel
theorem dX4_behindToken_0 : decode cX4_behindToken 0 = .ok (.aload_n 0, 1) := by decide +kernel
theorem dX4_behindToken_1 : decode cX4_behindToken 1 = .ok (.iload_n 1, 1) := by decide +kernel
theorem dX4_behindToken_2 : decode cX4_behindToken 2 = .ok (.invokevirtual 27, 3) := by decide +kernel
theorem dX4_behindToken_5 : decode cX4_behindToken 5 = .ok (.ifCond .ne 7, 3) := by decide +kernel
theorem dX4_behindToken_8 : decode cX4_behindToken 8 = .ok (.iload_n 1, 1) := by decide +kernel
theorem dX4_behindToken_9 : decode cX4_behindToken 9 = .ok (.iconst 1, 1) := by decide +kernel
theorem dX4_behindToken_10 : decode cX4_behindToken 10 = .ok (.iadd, 1) := by decide +kernel
theorem dX4_behindToken_11 : decode cX4_behindToken 11 = .ok (.ireturn, 1) := by decide +kernel
theorem dX4_behindToken_12 : decode cX4_behindToken 12 = .ok (.iload_n 1, 1) := by decide +kernel
theorem dX4_behindToken_13 : decode cX4_behindToken 13 = .ok (.iconst 1, 1) := by decide +kernel
theorem dX4_behindToken_14 : decode cX4_behindToken 14 = .ok (.iadd, 1) := by decide +kernel
theorem dX4_behindToken_15 : decode cX4_behindToken 15 = .ok (.istore_n 2, 1) := by decide +kernel
theorem dX4_behindToken_16 : decode cX4_behindToken 16 = .ok (.iconst 0, 1) := by decide +kernel
theorem dX4_behindToken_17 : decode cX4_behindToken 17 = .ok (.istore_n 3, 1) := by decide +kernel
theorem dX4_behindToken_18 : decode cX4_behindToken 18 = .ok (.iload_n 3, 1) := by decide +kernel
theorem dX4_behindToken_19 : decode cX4_behindToken 19 = .ok (.sipush 2000, 3) := by decide +kernel
theorem dX4_behindToken_22 : decode cX4_behindToken 22 = .ok (.if_icmp .ge 28, 3) := by decide +kernel
theorem dX4_behindToken_25 : decode cX4_behindToken 25 = .ok (.aload_n 0, 1) := by decide +kernel
theorem dX4_behindToken_26 : decode cX4_behindToken 26 = .ok (.iload_n 2, 1) := by decide +kernel
theorem dX4_behindToken_27 : decode cX4_behindToken 27 = .ok (.invokevirtual 27, 3) := by decide +kernel
theorem dX4_behindToken_30 : decode cX4_behindToken 30 = .ok (.ifCond .ne 11, 3) := by decide +kernel
theorem dX4_behindToken_33 : decode cX4_behindToken 33 = .ok (.aload_n 0, 1) := by decide +kernel
theorem dX4_behindToken_34 : decode cX4_behindToken 34 = .ok (.iload_n 2, 1) := by decide +kernel
theorem dX4_behindToken_35 : decode cX4_behindToken 35 = .ok (.invokevirtual 31, 3) := by decide +kernel
theorem dX4_behindToken_38 : decode cX4_behindToken 38 = .ok (.ifCond .eq 12, 3) := by decide +kernel
theorem dX4_behindToken_41 : decode cX4_behindToken 41 = .ok (.iinc 2 1, 3) := by decide +kernel
theorem dX4_behindToken_44 : decode cX4_behindToken 44 = .ok (.iinc 3 1, 3) := by decide +kernel
theorem dX4_behindToken_47 : decode cX4_behindToken 47 = .ok (.goto (-29), 3) := by decide +kernel
theorem dX4_behindToken_50 : decode cX4_behindToken 50 = .ok (.iload_n 2, 1) := by decide +kernel
theorem dX4_behindToken_51 : decode cX4_behindToken 51 = .ok (.ireturn, 1) := by decide +kernel
theorem dX4_spells_0 : decode cX4_spells 0 = .ok (.aload_n 3, 1) := by decide +kernel
theorem dX4_spells_1 : decode cX4_spells 1 = .ok (.ifnull 13, 3) := by decide +kernel
theorem dX4_spells_4 : decode cX4_spells 4 = .ok (.iload_n 2, 1) := by decide +kernel
theorem dX4_spells_5 : decode cX4_spells 5 = .ok (.iload_n 1, 1) := by decide +kernel
theorem dX4_spells_6 : decode cX4_spells 6 = .ok (.isub, 1) := by decide +kernel
theorem dX4_spells_7 : decode cX4_spells 7 = .ok (.aload_n 3, 1) := by decide +kernel
theorem dX4_spells_8 : decode cX4_spells 8 = .ok (.invokevirtual 34, 3) := by decide +kernel
theorem dX4_spells_11 : decode cX4_spells 11 = .ok (.if_icmp .eq 5, 3) := by decide +kernel
theorem dX4_spells_14 : decode cX4_spells 14 = .ok (.iconst 0, 1) := by decide +kernel
theorem dX4_spells_15 : decode cX4_spells 15 = .ok (.ireturn, 1) := by decide +kernel
theorem dX4_spells_16 : decode cX4_spells 16 = .ok (.iconst 0, 1) := by decide +kernel
theorem dX4_spells_17 : decode cX4_spells 17 = .ok (.istore 4, 2) := by decide +kernel
theorem dX4_spells_19 : decode cX4_spells 19 = .ok (.iload 4, 2) := by decide +kernel
theorem dX4_spells_21 : decode cX4_spells 21 = .ok (.aload_n 3, 1) := by decide +kernel
theorem dX4_spells_22 : decode cX4_spells 22 = .ok (.invokevirtual 34, 3) := by decide +kernel
theorem dX4_spells_25 : decode cX4_spells 25 = .ok (.if_icmp .ge 28, 3) := by decide +kernel
theorem dX4_spells_28 : decode cX4_spells 28 = .ok (.aload_n 0, 1) := by decide +kernel
theorem dX4_spells_29 : decode cX4_spells 29 = .ok (.iload_n 1, 1) := by decide +kernel
theorem dX4_spells_30 : decode cX4_spells 30 = .ok (.iload 4, 2) := by decide +kernel
theorem dX4_spells_32 : decode cX4_spells 32 = .ok (.iadd, 1) := by decide +kernel
theorem dX4_spells_33 : decode cX4_spells 33 = .ok (.invokevirtual 23, 3) := by decide +kernel
theorem dX4_spells_36 : decode cX4_spells 36 = .ok (.aload_n 3, 1) := by decide +kernel
theorem dX4_spells_37 : decode cX4_spells 37 = .ok (.iload 4, 2) := by decide +kernel
theorem dX4_spells_39 : decode cX4_spells 39 = .ok (.invokevirtual 40, 3) := by decide +kernel
theorem dX4_spells_42 : decode cX4_spells 42 = .ok (.if_icmp .eq 5, 3) := by decide +kernel
theorem dX4_spells_45 : decode cX4_spells 45 = .ok (.iconst 0, 1) := by decide +kernel
theorem dX4_spells_46 : decode cX4_spells 46 = .ok (.ireturn, 1) := by decide +kernel
theorem dX4_spells_47 : decode cX4_spells 47 = .ok (.iinc 4 1, 3) := by decide +kernel
theorem dX4_spells_50 : decode cX4_spells 50 = .ok (.goto (-31), 3) := by decide +kernel
theorem dX4_spells_53 : decode cX4_spells 53 = .ok (.iconst 1, 1) := by decide +kernel
theorem dX4_spells_54 : decode cX4_spells 54 = .ok (.ireturn, 1) := by decide +kernel
theorem dX4_cellSpelled_0 : decode cX4_cellSpelled 0 = .ok (.iload_n 2, 1) := by decide +kernel
theorem dX4_cellSpelled_1 : decode cX4_cellSpelled 1 = .ok (.iload_n 1, 1) := by decide +kernel
theorem dX4_cellSpelled_2 : decode cX4_cellSpelled 2 = .ok (.isub, 1) := by decide +kernel
theorem dX4_cellSpelled_3 : decode cX4_cellSpelled 3 = .ok (.iconst 1, 1) := by decide +kernel
theorem dX4_cellSpelled_4 : decode cX4_cellSpelled 4 = .ok (.isub, 1) := by decide +kernel
theorem dX4_cellSpelled_5 : decode cX4_cellSpelled 5 = .ok (.istore_n 3, 1) := by decide +kernel
theorem dX4_cellSpelled_6 : decode cX4_cellSpelled 6 = .ok (.iload_n 3, 1) := by decide +kernel
theorem dX4_cellSpelled_7 : decode cX4_cellSpelled 7 = .ok (.iconst 1, 1) := by decide +kernel
theorem dX4_cellSpelled_8 : decode cX4_cellSpelled 8 = .ok (.if_icmp .lt 20, 3) := by decide +kernel
theorem dX4_cellSpelled_11 : decode cX4_cellSpelled 11 = .ok (.iload_n 3, 1) := by decide +kernel
theorem dX4_cellSpelled_12 : decode cX4_cellSpelled 12 = .ok (.iconst 2, 1) := by decide +kernel
theorem dX4_cellSpelled_13 : decode cX4_cellSpelled 13 = .ok (.if_icmp .gt 15, 3) := by decide +kernel
theorem dX4_cellSpelled_16 : decode cX4_cellSpelled 16 = .ok (.aload_n 0, 1) := by decide +kernel
theorem dX4_cellSpelled_17 : decode cX4_cellSpelled 17 = .ok (.iload_n 1, 1) := by decide +kernel
theorem dX4_cellSpelled_18 : decode cX4_cellSpelled 18 = .ok (.iconst 1, 1) := by decide +kernel
theorem dX4_cellSpelled_19 : decode cX4_cellSpelled 19 = .ok (.iadd, 1) := by decide +kernel
theorem dX4_cellSpelled_20 : decode cX4_cellSpelled 20 = .ok (.invokevirtual 23, 3) := by decide +kernel
theorem dX4_cellSpelled_23 : decode cX4_cellSpelled 23 = .ok (.bipush 48, 2) := by decide +kernel
theorem dX4_cellSpelled_25 : decode cX4_cellSpelled 25 = .ok (.if_icmp .ne 5, 3) := by decide +kernel
theorem dX4_cellSpelled_28 : decode cX4_cellSpelled 28 = .ok (.iconst (-1), 1) := by decide +kernel
theorem dX4_cellSpelled_29 : decode cX4_cellSpelled 29 = .ok (.ireturn, 1) := by decide +kernel
theorem dX4_cellSpelled_30 : decode cX4_cellSpelled 30 = .ok (.iconst 0, 1) := by decide +kernel
theorem dX4_cellSpelled_31 : decode cX4_cellSpelled 31 = .ok (.istore 4, 2) := by decide +kernel
theorem dX4_cellSpelled_33 : decode cX4_cellSpelled 33 = .ok (.iload_n 1, 1) := by decide +kernel
theorem dX4_cellSpelled_34 : decode cX4_cellSpelled 34 = .ok (.iconst 1, 1) := by decide +kernel
theorem dX4_cellSpelled_35 : decode cX4_cellSpelled 35 = .ok (.iadd, 1) := by decide +kernel
theorem dX4_cellSpelled_36 : decode cX4_cellSpelled 36 = .ok (.istore 5, 2) := by decide +kernel
theorem dX4_cellSpelled_38 : decode cX4_cellSpelled 38 = .ok (.iload 5, 2) := by decide +kernel
theorem dX4_cellSpelled_40 : decode cX4_cellSpelled 40 = .ok (.iload_n 2, 1) := by decide +kernel
theorem dX4_cellSpelled_41 : decode cX4_cellSpelled 41 = .ok (.if_icmp .ge 37, 3) := by decide +kernel
theorem dX4_cellSpelled_44 : decode cX4_cellSpelled 44 = .ok (.aload_n 0, 1) := by decide +kernel
theorem dX4_cellSpelled_45 : decode cX4_cellSpelled 45 = .ok (.iload 5, 2) := by decide +kernel
theorem dX4_cellSpelled_47 : decode cX4_cellSpelled 47 = .ok (.invokevirtual 31, 3) := by decide +kernel
theorem dX4_cellSpelled_50 : decode cX4_cellSpelled 50 = .ok (.ifCond .ne 5, 3) := by decide +kernel
theorem dX4_cellSpelled_53 : decode cX4_cellSpelled 53 = .ok (.iconst (-1), 1) := by decide +kernel
theorem dX4_cellSpelled_54 : decode cX4_cellSpelled 54 = .ok (.ireturn, 1) := by decide +kernel
theorem dX4_cellSpelled_55 : decode cX4_cellSpelled 55 = .ok (.iload 4, 2) := by decide +kernel
theorem dX4_cellSpelled_57 : decode cX4_cellSpelled 57 = .ok (.bipush 10, 2) := by decide +kernel
theorem dX4_cellSpelled_59 : decode cX4_cellSpelled 59 = .ok (.imul, 1) := by decide +kernel
theorem dX4_cellSpelled_60 : decode cX4_cellSpelled 60 = .ok (.aload_n 0, 1) := by decide +kernel
theorem dX4_cellSpelled_61 : decode cX4_cellSpelled 61 = .ok (.iload 5, 2) := by decide +kernel
theorem dX4_cellSpelled_63 : decode cX4_cellSpelled 63 = .ok (.invokevirtual 23, 3) := by decide +kernel
theorem dX4_cellSpelled_66 : decode cX4_cellSpelled 66 = .ok (.iadd, 1) := by decide +kernel
theorem dX4_cellSpelled_67 : decode cX4_cellSpelled 67 = .ok (.bipush 48, 2) := by decide +kernel
theorem dX4_cellSpelled_69 : decode cX4_cellSpelled 69 = .ok (.isub, 1) := by decide +kernel
theorem dX4_cellSpelled_70 : decode cX4_cellSpelled 70 = .ok (.istore 4, 2) := by decide +kernel
theorem dX4_cellSpelled_72 : decode cX4_cellSpelled 72 = .ok (.iinc 5 1, 3) := by decide +kernel
theorem dX4_cellSpelled_75 : decode cX4_cellSpelled 75 = .ok (.goto (-37), 3) := by decide +kernel
theorem dX4_cellSpelled_78 : decode cX4_cellSpelled 78 = .ok (.aload_n 0, 1) := by decide +kernel
theorem dX4_cellSpelled_79 : decode cX4_cellSpelled 79 = .ok (.iload_n 1, 1) := by decide +kernel
theorem dX4_cellSpelled_80 : decode cX4_cellSpelled 80 = .ok (.invokevirtual 23, 3) := by decide +kernel
theorem dX4_cellSpelled_83 : decode cX4_cellSpelled 83 = .ok (.bipush 97, 2) := by decide +kernel
theorem dX4_cellSpelled_85 : decode cX4_cellSpelled 85 = .ok (.isub, 1) := by decide +kernel
theorem dX4_cellSpelled_86 : decode cX4_cellSpelled 86 = .ok (.iload 4, 2) := by decide +kernel
theorem dX4_cellSpelled_88 : decode cX4_cellSpelled 88 = .ok (.invokestatic 44, 3) := by decide +kernel
theorem dX4_cellSpelled_91 : decode cX4_cellSpelled 91 = .ok (.ireturn, 1) := by decide +kernel
theorem dX5_init_0 : decode cX5_init 0 = .ok (.aload_n 0, 1) := by decide +kernel
theorem dX5_init_1 : decode cX5_init 1 = .ok (.invokespecial 3, 3) := by decide +kernel
theorem dX5_init_4 : decode cX5_init 4 = .ok (.aload_n 0, 1) := by decide +kernel
theorem dX5_init_5 : decode cX5_init 5 = .ok (.iconst (-1), 1) := by decide +kernel
theorem dX5_init_6 : decode cX5_init 6 = .ok (.putfield 9, 3) := by decide +kernel
theorem dX5_init_9 : decode cX5_init 9 = .ok (.return_, 1) := by decide +kernel
theorem dX5_carryOut_0 : decode cX5_carryOut 0 = .ok (.aload_n 0, 1) := by decide +kernel
theorem dX5_carryOut_1 : decode cX5_carryOut 1 = .ok (.iconst (-1), 1) := by decide +kernel
theorem dX5_carryOut_2 : decode cX5_carryOut 2 = .ok (.putfield 9, 3) := by decide +kernel
theorem dX5_carryOut_5 : decode cX5_carryOut 5 = .ok (.iconst 0, 1) := by decide +kernel
theorem dX5_carryOut_6 : decode cX5_carryOut 6 = .ok (.istore_n 3, 1) := by decide +kernel
theorem dX5_carryOut_7 : decode cX5_carryOut 7 = .ok (.iconst 0, 1) := by decide +kernel
theorem dX5_carryOut_8 : decode cX5_carryOut 8 = .ok (.istore 4, 2) := by decide +kernel
theorem dX5_carryOut_10 : decode cX5_carryOut 10 = .ok (.iload 4, 2) := by decide +kernel
theorem dX5_carryOut_12 : decode cX5_carryOut 12 = .ok (.aload_n 1, 1) := by decide +kernel
theorem dX5_carryOut_13 : decode cX5_carryOut 13 = .ok (.getfield 15, 3) := by decide +kernel
theorem dX5_carryOut_16 : decode cX5_carryOut 16 = .ok (.if_icmp .ge 99, 3) := by decide +kernel
theorem dX5_carryOut_19 : decode cX5_carryOut 19 = .ok (.iload_n 3, 1) := by decide +kernel
theorem dX5_carryOut_20 : decode cX5_carryOut 20 = .ok (.ifCond .ne 95, 3) := by decide +kernel
theorem dX5_carryOut_23 : decode cX5_carryOut 23 = .ok (.aload_n 1, 1) := by decide +kernel
theorem dX5_carryOut_24 : decode cX5_carryOut 24 = .ok (.iload 4, 2) := by decide +kernel
theorem dX5_carryOut_26 : decode cX5_carryOut 26 = .ok (.invokevirtual 20, 3) := by decide +kernel
theorem dX5_carryOut_29 : decode cX5_carryOut 29 = .ok (.astore 5, 2) := by decide +kernel
theorem dX5_carryOut_31 : decode cX5_carryOut 31 = .ok (.aload 5, 2) := by decide +kernel
theorem dX5_carryOut_33 : decode cX5_carryOut 33 = .ok (.getstatic 24, 3) := by decide +kernel
theorem dX5_carryOut_36 : decode cX5_carryOut 36 = .ok (.if_acmp .ne 10, 3) := by decide +kernel
theorem dX5_carryOut_39 : decode cX5_carryOut 39 = .ok (.aload_n 2, 1) := by decide +kernel
theorem dX5_carryOut_40 : decode cX5_carryOut 40 = .ok (.invokevirtual 30, 3) := by decide +kernel
theorem dX5_carryOut_43 : decode cX5_carryOut 43 = .ok (.goto 66, 3) := by decide +kernel
theorem dX5_carryOut_46 : decode cX5_carryOut 46 = .ok (.aload 5, 2) := by decide +kernel
theorem dX5_carryOut_48 : decode cX5_carryOut 48 = .ok (.getstatic 35, 3) := by decide +kernel
theorem dX5_carryOut_51 : decode cX5_carryOut 51 = .ok (.if_acmp .ne 15, 3) := by decide +kernel
theorem dX5_carryOut_54 : decode cX5_carryOut 54 = .ok (.aload_n 0, 1) := by decide +kernel
theorem dX5_carryOut_55 : decode cX5_carryOut 55 = .ok (.aload_n 1, 1) := by decide +kernel
theorem dX5_carryOut_56 : decode cX5_carryOut 56 = .ok (.aload_n 2, 1) := by decide +kernel
theorem dX5_carryOut_57 : decode cX5_carryOut 57 = .ok (.iload 4, 2) := by decide +kernel
theorem dX5_carryOut_59 : decode cX5_carryOut 59 = .ok (.invokevirtual 38, 3) := by decide +kernel
theorem dX5_carryOut_62 : decode cX5_carryOut 62 = .ok (.istore_n 3, 1) := by decide +kernel
theorem dX5_carryOut_63 : decode cX5_carryOut 63 = .ok (.goto 46, 3) := by decide +kernel
theorem dX5_carryOut_66 : decode cX5_carryOut 66 = .ok (.aload 5, 2) := by decide +kernel
theorem dX5_carryOut_68 : decode cX5_carryOut 68 = .ok (.getstatic 42, 3) := by decide +kernel
theorem dX5_carryOut_71 : decode cX5_carryOut 71 = .ok (.if_acmp .ne 21, 3) := by decide +kernel
theorem dX5_carryOut_74 : decode cX5_carryOut 74 = .ok (.aload_n 2, 1) := by decide +kernel
theorem dX5_carryOut_75 : decode cX5_carryOut 75 = .ok (.aload_n 1, 1) := by decide +kernel
theorem dX5_carryOut_76 : decode cX5_carryOut 76 = .ok (.iload 4, 2) := by decide +kernel
theorem dX5_carryOut_78 : decode cX5_carryOut 78 = .ok (.iconst 1, 1) := by decide +kernel
theorem dX5_carryOut_79 : decode cX5_carryOut 79 = .ok (.iadd, 1) := by decide +kernel
theorem dX5_carryOut_80 : decode cX5_carryOut 80 = .ok (.invokevirtual 20, 3) := by decide +kernel
theorem dX5_carryOut_83 : decode cX5_carryOut 83 = .ok (.getfield 45, 3) := by decide +kernel
theorem dX5_carryOut_86 : decode cX5_carryOut 86 = .ok (.invokevirtual 48, 3) := by decide +kernel
theorem dX5_carryOut_89 : decode cX5_carryOut 89 = .ok (.goto 20, 3) := by decide +kernel
theorem dX5_carryOut_92 : decode cX5_carryOut 92 = .ok (.aload 5, 2) := by decide +kernel
theorem dX5_carryOut_94 : decode cX5_carryOut 94 = .ok (.getstatic 52, 3) := by decide +kernel
theorem dX5_carryOut_97 : decode cX5_carryOut 97 = .ok (.if_acmp .ne 12, 3) := by decide +kernel
theorem dX5_carryOut_100 : decode cX5_carryOut 100 = .ok (.aload_n 0, 1) := by decide +kernel
theorem dX5_carryOut_101 : decode cX5_carryOut 101 = .ok (.aload_n 1, 1) := by decide +kernel
theorem dX5_carryOut_102 : decode cX5_carryOut 102 = .ok (.aload_n 2, 1) := by decide +kernel
theorem dX5_carryOut_103 : decode cX5_carryOut 103 = .ok (.iload 4, 2) := by decide +kernel
theorem dX5_carryOut_105 : decode cX5_carryOut 105 = .ok (.invokevirtual 55, 3) := by decide +kernel
theorem dX5_carryOut_108 : decode cX5_carryOut 108 = .ok (.istore_n 3, 1) := by decide +kernel
theorem dX5_carryOut_109 : decode cX5_carryOut 109 = .ok (.iinc 4 1, 3) := by decide +kernel
theorem dX5_carryOut_112 : decode cX5_carryOut 112 = .ok (.goto (-102), 3) := by decide +kernel
theorem dX5_carryOut_115 : decode cX5_carryOut 115 = .ok (.iload_n 3, 1) := by decide +kernel
theorem dX5_carryOut_116 : decode cX5_carryOut 116 = .ok (.ireturn, 1) := by decide +kernel
theorem dX5_put_0 : decode cX5_put 0 = .ok (.aload_n 1, 1) := by decide +kernel
theorem dX5_put_1 : decode cX5_put 1 = .ok (.iload_n 3, 1) := by decide +kernel
theorem dX5_put_2 : decode cX5_put 2 = .ok (.iconst 1, 1) := by decide +kernel
theorem dX5_put_3 : decode cX5_put 3 = .ok (.iadd, 1) := by decide +kernel
theorem dX5_put_4 : decode cX5_put 4 = .ok (.invokevirtual 20, 3) := by decide +kernel
theorem dX5_put_7 : decode cX5_put 7 = .ok (.getfield 45, 3) := by decide +kernel
theorem dX5_put_10 : decode cX5_put 10 = .ok (.istore 4, 2) := by decide +kernel
theorem dX5_put_12 : decode cX5_put 12 = .ok (.aload_n 1, 1) := by decide +kernel
theorem dX5_put_13 : decode cX5_put 13 = .ok (.iload_n 3, 1) := by decide +kernel
theorem dX5_put_14 : decode cX5_put 14 = .ok (.iconst 2, 1) := by decide +kernel
theorem dX5_put_15 : decode cX5_put 15 = .ok (.iadd, 1) := by decide +kernel
theorem dX5_put_16 : decode cX5_put 16 = .ok (.invokevirtual 20, 3) := by decide +kernel
theorem dX5_put_19 : decode cX5_put 19 = .ok (.getfield 45, 3) := by decide +kernel
theorem dX5_put_22 : decode cX5_put 22 = .ok (.istore 5, 2) := by decide +kernel
theorem dX5_put_24 : decode cX5_put 24 = .ok (.aload_n 1, 1) := by decide +kernel
theorem dX5_put_25 : decode cX5_put 25 = .ok (.iload_n 3, 1) := by decide +kernel
theorem dX5_put_26 : decode cX5_put 26 = .ok (.iconst 3, 1) := by decide +kernel
theorem dX5_put_27 : decode cX5_put 27 = .ok (.iadd, 1) := by decide +kernel
theorem dX5_put_28 : decode cX5_put 28 = .ok (.invokevirtual 58, 3) := by decide +kernel
theorem dX5_put_31 : decode cX5_put 31 = .ok (.istore 6, 2) := by decide +kernel
theorem dX5_put_33 : decode cX5_put 33 = .ok (.aload_n 2, 1) := by decide +kernel
theorem dX5_put_34 : decode cX5_put 34 = .ok (.getfield 62, 3) := by decide +kernel
theorem dX5_put_37 : decode cX5_put 37 = .ok (.iload 4, 2) := by decide +kernel
theorem dX5_put_39 : decode cX5_put 39 = .ok (.invokevirtual 66, 3) := by decide +kernel
theorem dX5_put_42 : decode cX5_put 42 = .ok (.bipush 20, 2) := by decide +kernel
theorem dX5_put_44 : decode cX5_put 44 = .ok (.if_icmp .lt 13, 3) := by decide +kernel
theorem dX5_put_47 : decode cX5_put 47 = .ok (.aload_n 0, 1) := by decide +kernel
theorem dX5_put_48 : decode cX5_put 48 = .ok (.aload_n 1, 1) := by decide +kernel
theorem dX5_put_49 : decode cX5_put 49 = .ok (.iload_n 3, 1) := by decide +kernel
theorem dX5_put_50 : decode cX5_put 50 = .ok (.iconst 1, 1) := by decide +kernel
theorem dX5_put_51 : decode cX5_put 51 = .ok (.iadd, 1) := by decide +kernel
theorem dX5_put_52 : decode cX5_put 52 = .ok (.iconst 4, 1) := by decide +kernel
theorem dX5_put_53 : decode cX5_put 53 = .ok (.invokevirtual 71, 3) := by decide +kernel
theorem dX5_put_56 : decode cX5_put 56 = .ok (.ireturn, 1) := by decide +kernel
theorem dX5_put_57 : decode cX5_put 57 = .ok (.iload 5, 2) := by decide +kernel
theorem dX5_put_59 : decode cX5_put 59 = .ok (.iconst 1, 1) := by decide +kernel
theorem dX5_put_60 : decode cX5_put 60 = .ok (.if_icmp .ne 22, 3) := by decide +kernel
theorem dX5_put_63 : decode cX5_put 63 = .ok (.aload_n 2, 1) := by decide +kernel
theorem dX5_put_64 : decode cX5_put 64 = .ok (.iload 4, 2) := by decide +kernel
theorem dX5_put_66 : decode cX5_put 66 = .ok (.invokevirtual 75, 3) := by decide +kernel
theorem dX5_put_69 : decode cX5_put 69 = .ok (.ifCond .eq 13, 3) := by decide +kernel
theorem dX5_put_72 : decode cX5_put 72 = .ok (.aload_n 0, 1) := by decide +kernel
theorem dX5_put_73 : decode cX5_put 73 = .ok (.aload_n 1, 1) := by decide +kernel
theorem dX5_put_74 : decode cX5_put 74 = .ok (.iload_n 3, 1) := by decide +kernel
theorem dX5_put_75 : decode cX5_put 75 = .ok (.iconst 2, 1) := by decide +kernel
theorem dX5_put_76 : decode cX5_put 76 = .ok (.iadd, 1) := by decide +kernel
theorem dX5_put_77 : decode cX5_put 77 = .ok (.iconst 3, 1) := by decide +kernel
theorem dX5_put_78 : decode cX5_put 78 = .ok (.invokevirtual 71, 3) := by decide +kernel
theorem dX5_put_81 : decode cX5_put 81 = .ok (.ireturn, 1) := by decide +kernel
theorem dX5_put_82 : decode cX5_put 82 = .ok (.iload 6, 2) := by decide +kernel
theorem dX5_put_84 : decode cX5_put 84 = .ok (.iconst (-1), 1) := by decide +kernel
theorem dX5_put_85 : decode cX5_put 85 = .ok (.if_icmp .ne 13, 3) := by decide +kernel
theorem dX5_put_88 : decode cX5_put 88 = .ok (.aload_n 0, 1) := by decide +kernel
theorem dX5_put_89 : decode cX5_put 89 = .ok (.aload_n 1, 1) := by decide +kernel
theorem dX5_put_90 : decode cX5_put 90 = .ok (.iload_n 3, 1) := by decide +kernel
theorem dX5_put_91 : decode cX5_put 91 = .ok (.iconst 3, 1) := by decide +kernel
theorem dX5_put_92 : decode cX5_put 92 = .ok (.iadd, 1) := by decide +kernel
theorem dX5_put_93 : decode cX5_put 93 = .ok (.iconst 2, 1) := by decide +kernel
theorem dX5_put_94 : decode cX5_put 94 = .ok (.invokevirtual 71, 3) := by decide +kernel
theorem dX5_put_97 : decode cX5_put 97 = .ok (.ireturn, 1) := by decide +kernel
theorem dX5_put_98 : decode cX5_put 98 = .ok (.aload_n 2, 1) := by decide +kernel
theorem dX5_put_99 : decode cX5_put 99 = .ok (.iload 6, 2) := by decide +kernel
theorem dX5_put_101 : decode cX5_put 101 = .ok (.invokevirtual 79, 3) := by decide +kernel
theorem dX5_put_104 : decode cX5_put 104 = .ok (.ifCond .eq 13, 3) := by decide +kernel
theorem dX5_put_107 : decode cX5_put 107 = .ok (.aload_n 0, 1) := by decide +kernel
theorem dX5_put_108 : decode cX5_put 108 = .ok (.aload_n 1, 1) := by decide +kernel
theorem dX5_put_109 : decode cX5_put 109 = .ok (.iload_n 3, 1) := by decide +kernel
theorem dX5_put_110 : decode cX5_put 110 = .ok (.iconst 3, 1) := by decide +kernel
theorem dX5_put_111 : decode cX5_put 111 = .ok (.iadd, 1) := by decide +kernel
theorem dX5_put_112 : decode cX5_put 112 = .ok (.iconst 3, 1) := by decide +kernel
theorem dX5_put_113 : decode cX5_put 113 = .ok (.invokevirtual 71, 3) := by decide +kernel
theorem dX5_put_116 : decode cX5_put 116 = .ok (.ireturn, 1) := by decide +kernel
theorem dX5_put_117 : decode cX5_put 117 = .ok (.aload_n 2, 1) := by decide +kernel
theorem dX5_put_118 : decode cX5_put 118 = .ok (.iload 4, 2) := by decide +kernel
theorem dX5_put_120 : decode cX5_put 120 = .ok (.iload 5, 2) := by decide +kernel
theorem dX5_put_122 : decode cX5_put 122 = .ok (.iload 6, 2) := by decide +kernel
theorem dX5_put_124 : decode cX5_put 124 = .ok (.invokevirtual 82, 3) := by decide +kernel
theorem dX5_put_127 : decode cX5_put 127 = .ok (.iconst 0, 1) := by decide +kernel
theorem dX5_put_128 : decode cX5_put 128 = .ok (.ireturn, 1) := by decide +kernel
theorem dX5_go_0 : decode cX5_go 0 = .ok (.aload_n 1, 1) := by decide +kernel
theorem dX5_go_1 : decode cX5_go 1 = .ok (.iload_n 3, 1) := by decide +kernel
theorem dX5_go_2 : decode cX5_go 2 = .ok (.iconst 1, 1) := by decide +kernel
theorem dX5_go_3 : decode cX5_go 3 = .ok (.iadd, 1) := by decide +kernel
theorem dX5_go_4 : decode cX5_go 4 = .ok (.invokevirtual 58, 3) := by decide +kernel
theorem dX5_go_7 : decode cX5_go 7 = .ok (.istore 4, 2) := by decide +kernel
theorem dX5_go_9 : decode cX5_go 9 = .ok (.aload_n 1, 1) := by decide +kernel
theorem dX5_go_10 : decode cX5_go 10 = .ok (.iload_n 3, 1) := by decide +kernel
theorem dX5_go_11 : decode cX5_go 11 = .ok (.iconst 2, 1) := by decide +kernel
theorem dX5_go_12 : decode cX5_go 12 = .ok (.iadd, 1) := by decide +kernel
theorem dX5_go_13 : decode cX5_go 13 = .ok (.invokevirtual 58, 3) := by decide +kernel
theorem dX5_go_16 : decode cX5_go 16 = .ok (.istore 5, 2) := by decide +kernel
theorem dX5_go_18 : decode cX5_go 18 = .ok (.aload_n 1, 1) := by decide +kernel
theorem dX5_go_19 : decode cX5_go 19 = .ok (.iload_n 3, 1) := by decide +kernel
theorem dX5_go_20 : decode cX5_go 20 = .ok (.iconst 3, 1) := by decide +kernel
theorem dX5_go_21 : decode cX5_go 21 = .ok (.iadd, 1) := by decide +kernel
theorem dX5_go_22 : decode cX5_go 22 = .ok (.invokevirtual 20, 3) := by decide +kernel
theorem dX5_go_25 : decode cX5_go 25 = .ok (.getstatic 85, 3) := by decide +kernel
theorem dX5_go_28 : decode cX5_go 28 = .ok (.if_acmp .ne 7, 3) := by decide +kernel
theorem dX5_go_31 : decode cX5_go 31 = .ok (.iconst 1, 1) := by decide +kernel
theorem dX5_go_32 : decode cX5_go 32 = .ok (.goto 4, 3) := by decide +kernel
theorem dX5_go_35 : decode cX5_go 35 = .ok (.iconst 0, 1) := by decide +kernel
theorem dX5_go_36 : decode cX5_go 36 = .ok (.istore 6, 2) := by decide +kernel
theorem dX5_go_38 : decode cX5_go 38 = .ok (.iload 6, 2) := by decide +kernel
theorem dX5_go_40 : decode cX5_go 40 = .ok (.ifCond .eq 16, 3) := by decide +kernel
theorem dX5_go_43 : decode cX5_go 43 = .ok (.aload_n 1, 1) := by decide +kernel
theorem dX5_go_44 : decode cX5_go 44 = .ok (.iload_n 3, 1) := by decide +kernel
theorem dX5_go_45 : decode cX5_go 45 = .ok (.iconst 4, 1) := by decide +kernel
theorem dX5_go_46 : decode cX5_go 46 = .ok (.iadd, 1) := by decide +kernel
theorem dX5_go_47 : decode cX5_go 47 = .ok (.invokevirtual 20, 3) := by decide +kernel
theorem dX5_go_50 : decode cX5_go 50 = .ok (.getfield 45, 3) := by decide +kernel
theorem dX5_go_53 : decode cX5_go 53 = .ok (.goto 4, 3) := by decide +kernel
theorem dX5_go_56 : decode cX5_go 56 = .ok (.iconst 2, 1) := by decide +kernel
theorem dX5_go_57 : decode cX5_go 57 = .ok (.istore 7, 2) := by decide +kernel
theorem dX5_go_59 : decode cX5_go 59 = .ok (.aload_n 2, 1) := by decide +kernel
theorem dX5_go_60 : decode cX5_go 60 = .ok (.invokevirtual 88, 3) := by decide +kernel
theorem dX5_go_63 : decode cX5_go 63 = .ok (.ifCond .ne 11, 3) := by decide +kernel
theorem dX5_go_66 : decode cX5_go 66 = .ok (.aload_n 0, 1) := by decide +kernel
theorem dX5_go_67 : decode cX5_go 67 = .ok (.aload_n 1, 1) := by decide +kernel
theorem dX5_go_68 : decode cX5_go 68 = .ok (.iload_n 3, 1) := by decide +kernel
theorem dX5_go_69 : decode cX5_go 69 = .ok (.iconst 4, 1) := by decide +kernel
theorem dX5_go_70 : decode cX5_go 70 = .ok (.invokevirtual 71, 3) := by decide +kernel
theorem dX5_go_73 : decode cX5_go 73 = .ok (.ireturn, 1) := by decide +kernel
theorem dX5_go_74 : decode cX5_go 74 = .ok (.iload 4, 2) := by decide +kernel
theorem dX5_go_76 : decode cX5_go 76 = .ok (.iconst (-1), 1) := by decide +kernel
theorem dX5_go_77 : decode cX5_go 77 = .ok (.if_icmp .ne 13, 3) := by decide +kernel
theorem dX5_go_80 : decode cX5_go 80 = .ok (.aload_n 0, 1) := by decide +kernel
theorem dX5_go_81 : decode cX5_go 81 = .ok (.aload_n 1, 1) := by decide +kernel
theorem dX5_go_82 : decode cX5_go 82 = .ok (.iload_n 3, 1) := by decide +kernel
theorem dX5_go_83 : decode cX5_go 83 = .ok (.iconst 1, 1) := by decide +kernel
theorem dX5_go_84 : decode cX5_go 84 = .ok (.iadd, 1) := by decide +kernel
theorem dX5_go_85 : decode cX5_go 85 = .ok (.iconst 2, 1) := by decide +kernel
theorem dX5_go_86 : decode cX5_go 86 = .ok (.invokevirtual 71, 3) := by decide +kernel
theorem dX5_go_89 : decode cX5_go 89 = .ok (.ireturn, 1) := by decide +kernel
theorem dX5_go_90 : decode cX5_go 90 = .ok (.aload_n 2, 1) := by decide +kernel
theorem dX5_go_91 : decode cX5_go 91 = .ok (.iload 4, 2) := by decide +kernel
theorem dX5_go_93 : decode cX5_go 93 = .ok (.invokevirtual 92, 3) := by decide +kernel
theorem dX5_go_96 : decode cX5_go 96 = .ok (.ifCond .ne 13, 3) := by decide +kernel
theorem dX5_go_99 : decode cX5_go 99 = .ok (.aload_n 0, 1) := by decide +kernel
theorem dX5_go_100 : decode cX5_go 100 = .ok (.aload_n 1, 1) := by decide +kernel
theorem dX5_go_101 : decode cX5_go 101 = .ok (.iload_n 3, 1) := by decide +kernel
theorem dX5_go_102 : decode cX5_go 102 = .ok (.iconst 1, 1) := by decide +kernel
theorem dX5_go_103 : decode cX5_go 103 = .ok (.iadd, 1) := by decide +kernel
theorem dX5_go_104 : decode cX5_go 104 = .ok (.iconst 4, 1) := by decide +kernel
theorem dX5_go_105 : decode cX5_go 105 = .ok (.invokevirtual 71, 3) := by decide +kernel
theorem dX5_go_108 : decode cX5_go 108 = .ok (.ireturn, 1) := by decide +kernel
theorem dX5_go_109 : decode cX5_go 109 = .ok (.iload 5, 2) := by decide +kernel
theorem dX5_go_111 : decode cX5_go 111 = .ok (.iconst (-1), 1) := by decide +kernel
theorem dX5_go_112 : decode cX5_go 112 = .ok (.if_icmp .ne 13, 3) := by decide +kernel
theorem dX5_go_115 : decode cX5_go 115 = .ok (.aload_n 0, 1) := by decide +kernel
theorem dX5_go_116 : decode cX5_go 116 = .ok (.aload_n 1, 1) := by decide +kernel
theorem dX5_go_117 : decode cX5_go 117 = .ok (.iload_n 3, 1) := by decide +kernel
theorem dX5_go_118 : decode cX5_go 118 = .ok (.iconst 2, 1) := by decide +kernel
theorem dX5_go_119 : decode cX5_go 119 = .ok (.iadd, 1) := by decide +kernel
theorem dX5_go_120 : decode cX5_go 120 = .ok (.iconst 2, 1) := by decide +kernel
theorem dX5_go_121 : decode cX5_go 121 = .ok (.invokevirtual 71, 3) := by decide +kernel
theorem dX5_go_124 : decode cX5_go 124 = .ok (.ireturn, 1) := by decide +kernel
theorem dX5_go_125 : decode cX5_go 125 = .ok (.aload_n 2, 1) := by decide +kernel
theorem dX5_go_126 : decode cX5_go 126 = .ok (.iload 4, 2) := by decide +kernel
theorem dX5_go_128 : decode cX5_go 128 = .ok (.iload 5, 2) := by decide +kernel
theorem dX5_go_130 : decode cX5_go 130 = .ok (.invokevirtual 95, 3) := by decide +kernel
theorem dX5_go_133 : decode cX5_go 133 = .ok (.ifCond .ne 13, 3) := by decide +kernel
theorem dX5_go_136 : decode cX5_go 136 = .ok (.aload_n 0, 1) := by decide +kernel
theorem dX5_go_137 : decode cX5_go 137 = .ok (.aload_n 1, 1) := by decide +kernel
theorem dX5_go_138 : decode cX5_go 138 = .ok (.iload_n 3, 1) := by decide +kernel
theorem dX5_go_139 : decode cX5_go 139 = .ok (.iconst 2, 1) := by decide +kernel
theorem dX5_go_140 : decode cX5_go 140 = .ok (.iadd, 1) := by decide +kernel
theorem dX5_go_141 : decode cX5_go 141 = .ok (.iconst 4, 1) := by decide +kernel
theorem dX5_go_142 : decode cX5_go 142 = .ok (.invokevirtual 71, 3) := by decide +kernel
theorem dX5_go_145 : decode cX5_go 145 = .ok (.ireturn, 1) := by decide +kernel
theorem dX5_go_146 : decode cX5_go 146 = .ok (.iload 6, 2) := by decide +kernel
theorem dX5_go_148 : decode cX5_go 148 = .ok (.ifCond .eq 37, 3) := by decide +kernel
theorem dX5_go_151 : decode cX5_go 151 = .ok (.iload 7, 2) := by decide +kernel
theorem dX5_go_153 : decode cX5_go 153 = .ok (.iconst 1, 1) := by decide +kernel
theorem dX5_go_154 : decode cX5_go 154 = .ok (.if_icmp .eq 21, 3) := by decide +kernel
theorem dX5_go_157 : decode cX5_go 157 = .ok (.iload 7, 2) := by decide +kernel
theorem dX5_go_159 : decode cX5_go 159 = .ok (.bipush 6, 2) := by decide +kernel
theorem dX5_go_161 : decode cX5_go 161 = .ok (.if_icmp .eq 14, 3) := by decide +kernel
theorem dX5_go_164 : decode cX5_go 164 = .ok (.aload_n 2, 1) := by decide +kernel
theorem dX5_go_165 : decode cX5_go 165 = .ok (.iload 4, 2) := by decide +kernel
theorem dX5_go_167 : decode cX5_go 167 = .ok (.iload 5, 2) := by decide +kernel
theorem dX5_go_169 : decode cX5_go 169 = .ok (.invokevirtual 99, 3) := by decide +kernel
theorem dX5_go_172 : decode cX5_go 172 = .ok (.ifCond .ne 13, 3) := by decide +kernel
theorem dX5_go_175 : decode cX5_go 175 = .ok (.aload_n 0, 1) := by decide +kernel
theorem dX5_go_176 : decode cX5_go 176 = .ok (.aload_n 1, 1) := by decide +kernel
theorem dX5_go_177 : decode cX5_go 177 = .ok (.iload_n 3, 1) := by decide +kernel
theorem dX5_go_178 : decode cX5_go 178 = .ok (.iconst 4, 1) := by decide +kernel
theorem dX5_go_179 : decode cX5_go 179 = .ok (.iadd, 1) := by decide +kernel
theorem dX5_go_180 : decode cX5_go 180 = .ok (.iconst 5, 1) := by decide +kernel
theorem dX5_go_181 : decode cX5_go 181 = .ok (.invokevirtual 71, 3) := by decide +kernel
theorem dX5_go_184 : decode cX5_go 184 = .ok (.ireturn, 1) := by decide +kernel
theorem dX5_go_185 : decode cX5_go 185 = .ok (.aload_n 2, 1) := by decide +kernel
theorem dX5_go_186 : decode cX5_go 186 = .ok (.iload 4, 2) := by decide +kernel
theorem dX5_go_188 : decode cX5_go 188 = .ok (.iload 5, 2) := by decide +kernel
theorem dX5_go_190 : decode cX5_go 190 = .ok (.iload 7, 2) := by decide +kernel
theorem dX5_go_192 : decode cX5_go 192 = .ok (.invokevirtual 102, 3) := by decide +kernel
theorem dX5_go_195 : decode cX5_go 195 = .ok (.pop, 1) := by decide +kernel
theorem dX5_go_196 : decode cX5_go 196 = .ok (.iconst 0, 1) := by decide +kernel
theorem dX5_go_197 : decode cX5_go 197 = .ok (.ireturn, 1) := by decide +kernel
theorem dX5_fail_0 : decode cX5_fail 0 = .ok (.aload_n 0, 1) := by decide +kernel
theorem dX5_fail_1 : decode cX5_fail 1 = .ok (.aload_n 1, 1) := by decide +kernel
theorem dX5_fail_2 : decode cX5_fail 2 = .ok (.iload_n 2, 1) := by decide +kernel
theorem dX5_fail_3 : decode cX5_fail 3 = .ok (.invokevirtual 106, 3) := by decide +kernel
theorem dX5_fail_6 : decode cX5_fail 6 = .ok (.putfield 9, 3) := by decide +kernel
theorem dX5_fail_9 : decode cX5_fail 9 = .ok (.iload_n 3, 1) := by decide +kernel
theorem dX5_fail_10 : decode cX5_fail 10 = .ok (.ireturn, 1) := by decide +kernel
theorem dX6_init_0 : decode cX6_init 0 = .ok (.aload_n 0, 1) := by decide +kernel
theorem dX6_init_1 : decode cX6_init 1 = .ok (.invokespecial 3, 3) := by decide +kernel
theorem dX6_init_4 : decode cX6_init 4 = .ok (.aload_n 0, 1) := by decide +kernel
theorem dX6_init_5 : decode cX6_init 5 = .ok (.new 9, 3) := by decide +kernel
theorem dX6_init_8 : decode cX6_init 8 = .ok (.dup, 1) := by decide +kernel
theorem dX6_init_9 : decode cX6_init 9 = .ok (.invokespecial 11, 3) := by decide +kernel
theorem dX6_init_12 : decode cX6_init 12 = .ok (.putfield 12, 3) := by decide +kernel
theorem dX6_init_15 : decode cX6_init 15 = .ok (.aload_n 0, 1) := by decide +kernel
theorem dX6_init_16 : decode cX6_init 16 = .ok (.sipush 289, 3) := by decide +kernel
theorem dX6_init_19 : decode cX6_init 19 = .ok (.newarray .int, 2) := by decide +kernel
theorem dX6_init_21 : decode cX6_init 21 = .ok (.putfield 18, 3) := by decide +kernel
theorem dX6_init_24 : decode cX6_init 24 = .ok (.aload_n 0, 1) := by decide +kernel
theorem dX6_init_25 : decode cX6_init 25 = .ok (.bipush 91, 2) := by decide +kernel
theorem dX6_init_27 : decode cX6_init 27 = .ok (.newarray .int, 2) := by decide +kernel
theorem dX6_init_29 : decode cX6_init 29 = .ok (.putfield 22, 3) := by decide +kernel
theorem dX6_init_32 : decode cX6_init 32 = .ok (.aload_n 0, 1) := by decide +kernel
theorem dX6_init_33 : decode cX6_init 33 = .ok (.iconst 0, 1) := by decide +kernel
theorem dX6_init_34 : decode cX6_init 34 = .ok (.putfield 25, 3) := by decide +kernel
theorem dX6_init_37 : decode cX6_init 37 = .ok (.return_, 1) := by decide +kernel
theorem dX7_init_0 : decode cX7_init 0 = .ok (.aload_n 0, 1) := by decide +kernel
theorem dX7_init_1 : decode cX7_init 1 = .ok (.invokespecial 1, 3) := by decide +kernel
theorem dX7_init_4 : decode cX7_init 4 = .ok (.aload_n 0, 1) := by decide +kernel
theorem dX7_init_5 : decode cX7_init 5 = .ok (.new 7, 3) := by decide +kernel
theorem dX7_init_8 : decode cX7_init 8 = .ok (.dup, 1) := by decide +kernel
theorem dX7_init_9 : decode cX7_init 9 = .ok (.invokespecial 9, 3) := by decide +kernel
theorem dX7_init_12 : decode cX7_init 12 = .ok (.putfield 10, 3) := by decide +kernel
theorem dX7_init_15 : decode cX7_init 15 = .ok (.aload_n 0, 1) := by decide +kernel
theorem dX7_init_16 : decode cX7_init 16 = .ok (.new 16, 3) := by decide +kernel
theorem dX7_init_19 : decode cX7_init 19 = .ok (.dup, 1) := by decide +kernel
theorem dX7_init_20 : decode cX7_init 20 = .ok (.invokespecial 18, 3) := by decide +kernel
theorem dX7_init_23 : decode cX7_init 23 = .ok (.putfield 19, 3) := by decide +kernel
theorem dX7_init_26 : decode cX7_init 26 = .ok (.aload_n 0, 1) := by decide +kernel
theorem dX7_init_27 : decode cX7_init 27 = .ok (.new 23, 3) := by decide +kernel
theorem dX7_init_30 : decode cX7_init 30 = .ok (.dup, 1) := by decide +kernel
theorem dX7_init_31 : decode cX7_init 31 = .ok (.invokespecial 25, 3) := by decide +kernel
theorem dX7_init_34 : decode cX7_init 34 = .ok (.putfield 26, 3) := by decide +kernel
theorem dX7_init_37 : decode cX7_init 37 = .ok (.aload_n 0, 1) := by decide +kernel
theorem dX7_init_38 : decode cX7_init 38 = .ok (.new 30, 3) := by decide +kernel
theorem dX7_init_41 : decode cX7_init 41 = .ok (.dup, 1) := by decide +kernel
theorem dX7_init_42 : decode cX7_init 42 = .ok (.invokespecial 32, 3) := by decide +kernel
theorem dX7_init_45 : decode cX7_init 45 = .ok (.putfield 33, 3) := by decide +kernel
theorem dX7_init_48 : decode cX7_init 48 = .ok (.aload_n 0, 1) := by decide +kernel
theorem dX7_init_49 : decode cX7_init 49 = .ok (.new 37, 3) := by decide +kernel
theorem dX7_init_52 : decode cX7_init 52 = .ok (.dup, 1) := by decide +kernel
theorem dX7_init_53 : decode cX7_init 53 = .ok (.invokespecial 39, 3) := by decide +kernel
theorem dX7_init_56 : decode cX7_init 56 = .ok (.putfield 40, 3) := by decide +kernel
theorem dX7_init_59 : decode cX7_init 59 = .ok (.aload_n 0, 1) := by decide +kernel
theorem dX7_init_60 : decode cX7_init 60 = .ok (.new 37, 3) := by decide +kernel
theorem dX7_init_63 : decode cX7_init 63 = .ok (.dup, 1) := by decide +kernel
theorem dX7_init_64 : decode cX7_init 64 = .ok (.invokespecial 39, 3) := by decide +kernel
theorem dX7_init_67 : decode cX7_init 67 = .ok (.putfield 44, 3) := by decide +kernel
theorem dX7_init_70 : decode cX7_init 70 = .ok (.aload_n 0, 1) := by decide +kernel
theorem dX7_init_71 : decode cX7_init 71 = .ok (.iconst (-1), 1) := by decide +kernel
theorem dX7_init_72 : decode cX7_init 72 = .ok (.putfield 47, 3) := by decide +kernel
theorem dX7_init_75 : decode cX7_init 75 = .ok (.return_, 1) := by decide +kernel
theorem dX7_feed_0 : decode cX7_feed 0 = .ok (.aload_n 0, 1) := by decide +kernel
theorem dX7_feed_1 : decode cX7_feed 1 = .ok (.getfield 10, 3) := by decide +kernel
theorem dX7_feed_4 : decode cX7_feed 4 = .ok (.getfield 51, 3) := by decide +kernel
theorem dX7_feed_7 : decode cX7_feed 7 = .ok (.sipush 1980, 3) := by decide +kernel
theorem dX7_feed_10 : decode cX7_feed 10 = .ok (.if_icmp .le 13, 3) := by decide +kernel
theorem dX7_feed_13 : decode cX7_feed 13 = .ok (.new 54, 3) := by decide +kernel
theorem dX7_feed_16 : decode cX7_feed 16 = .ok (.dup, 1) := by decide +kernel
theorem dX7_feed_17 : decode cX7_feed 17 = .ok (.ldc 56, 2) := by decide +kernel
theorem dX7_feed_19 : decode cX7_feed 19 = .ok (.invokespecial 58, 3) := by decide +kernel
theorem dX7_feed_22 : decode cX7_feed 22 = .ok (.athrow, 1) := by decide +kernel
theorem dX7_feed_23 : decode cX7_feed 23 = .ok (.aload_n 0, 1) := by decide +kernel
theorem dX7_feed_24 : decode cX7_feed 24 = .ok (.getfield 10, 3) := by decide +kernel
theorem dX7_feed_27 : decode cX7_feed 27 = .ok (.iload_n 1, 1) := by decide +kernel
theorem dX7_feed_28 : decode cX7_feed 28 = .ok (.invokevirtual 61, 3) := by decide +kernel
theorem dX7_feed_31 : decode cX7_feed 31 = .ok (.aload_n 0, 1) := by decide +kernel
theorem dX7_feed_32 : decode cX7_feed 32 = .ok (.getfield 10, 3) := by decide +kernel
theorem dX7_feed_35 : decode cX7_feed 35 = .ok (.iload_n 2, 1) := by decide +kernel
theorem dX7_feed_36 : decode cX7_feed 36 = .ok (.invokevirtual 61, 3) := by decide +kernel
theorem dX7_feed_39 : decode cX7_feed 39 = .ok (.aload_n 0, 1) := by decide +kernel
theorem dX7_feed_40 : decode cX7_feed 40 = .ok (.getfield 10, 3) := by decide +kernel
theorem dX7_feed_43 : decode cX7_feed 43 = .ok (.iload_n 3, 1) := by decide +kernel
theorem dX7_feed_44 : decode cX7_feed 44 = .ok (.invokevirtual 61, 3) := by decide +kernel
theorem dX7_feed_47 : decode cX7_feed 47 = .ok (.aload_n 0, 1) := by decide +kernel
theorem dX7_feed_48 : decode cX7_feed 48 = .ok (.getfield 10, 3) := by decide +kernel
theorem dX7_feed_51 : decode cX7_feed 51 = .ok (.iload 4, 2) := by decide +kernel
theorem dX7_feed_53 : decode cX7_feed 53 = .ok (.invokevirtual 61, 3) := by decide +kernel
theorem dX7_feed_56 : decode cX7_feed 56 = .ok (.aload_n 0, 1) := by decide +kernel
theorem dX7_feed_57 : decode cX7_feed 57 = .ok (.getfield 10, 3) := by decide +kernel
theorem dX7_feed_60 : decode cX7_feed 60 = .ok (.iload 5, 2) := by decide +kernel
theorem dX7_feed_62 : decode cX7_feed 62 = .ok (.invokevirtual 61, 3) := by decide +kernel
theorem dX7_feed_65 : decode cX7_feed 65 = .ok (.aload_n 0, 1) := by decide +kernel
theorem dX7_feed_66 : decode cX7_feed 66 = .ok (.getfield 10, 3) := by decide +kernel
theorem dX7_feed_69 : decode cX7_feed 69 = .ok (.getfield 51, 3) := by decide +kernel
theorem dX7_feed_72 : decode cX7_feed 72 = .ok (.ireturn, 1) := by decide +kernel
theorem dX7_trim_0 : decode cX7_trim 0 = .ok (.iload_n 1, 1) := by decide +kernel
theorem dX7_trim_1 : decode cX7_trim 1 = .ok (.ifCond .lt 14, 3) := by decide +kernel
theorem dX7_trim_4 : decode cX7_trim 4 = .ok (.iload_n 1, 1) := by decide +kernel
theorem dX7_trim_5 : decode cX7_trim 5 = .ok (.aload_n 0, 1) := by decide +kernel
theorem dX7_trim_6 : decode cX7_trim 6 = .ok (.getfield 10, 3) := by decide +kernel
theorem dX7_trim_9 : decode cX7_trim 9 = .ok (.getfield 51, 3) := by decide +kernel
theorem dX7_trim_12 : decode cX7_trim 12 = .ok (.if_icmp .le 13, 3) := by decide +kernel
theorem dX7_trim_15 : decode cX7_trim 15 = .ok (.new 65, 3) := by decide +kernel
theorem dX7_trim_18 : decode cX7_trim 18 = .ok (.dup, 1) := by decide +kernel
theorem dX7_trim_19 : decode cX7_trim 19 = .ok (.ldc 67, 2) := by decide +kernel
theorem dX7_trim_21 : decode cX7_trim 21 = .ok (.invokespecial 69, 3) := by decide +kernel
theorem dX7_trim_24 : decode cX7_trim 24 = .ok (.athrow, 1) := by decide +kernel
theorem dX7_trim_25 : decode cX7_trim 25 = .ok (.aload_n 0, 1) := by decide +kernel
theorem dX7_trim_26 : decode cX7_trim 26 = .ok (.getfield 10, 3) := by decide +kernel
theorem dX7_trim_29 : decode cX7_trim 29 = .ok (.iload_n 1, 1) := by decide +kernel
theorem dX7_trim_30 : decode cX7_trim 30 = .ok (.invokevirtual 70, 3) := by decide +kernel
theorem dX7_trim_33 : decode cX7_trim 33 = .ok (.iload_n 1, 1) := by decide +kernel
theorem dX7_trim_34 : decode cX7_trim 34 = .ok (.ireturn, 1) := by decide +kernel
theorem dX7_teach_0 : decode cX7_teach 0 = .ok (.aload_n 0, 1) := by decide +kernel
theorem dX7_teach_1 : decode cX7_teach 1 = .ok (.getfield 19, 3) := by decide +kernel
theorem dX7_teach_4 : decode cX7_teach 4 = .ok (.aload_n 0, 1) := by decide +kernel
theorem dX7_teach_5 : decode cX7_teach 5 = .ok (.getfield 10, 3) := by decide +kernel
theorem dX7_teach_8 : decode cX7_teach 8 = .ok (.invokevirtual 73, 3) := by decide +kernel
theorem dX7_teach_11 : decode cX7_teach 11 = .ok (.istore_n 1, 1) := by decide +kernel
theorem dX7_teach_12 : decode cX7_teach 12 = .ok (.iload_n 1, 1) := by decide +kernel
theorem dX7_teach_13 : decode cX7_teach 13 = .ok (.iconst (-1), 1) := by decide +kernel
theorem dX7_teach_14 : decode cX7_teach 14 = .ok (.if_icmp .ne 7, 3) := by decide +kernel
theorem dX7_teach_17 : decode cX7_teach 17 = .ok (.iconst 0, 1) := by decide +kernel
theorem dX7_teach_18 : decode cX7_teach 18 = .ok (.goto 4, 3) := by decide +kernel
theorem dX7_teach_21 : decode cX7_teach 21 = .ok (.iconst 1, 1) := by decide +kernel
theorem dX7_teach_22 : decode cX7_teach 22 = .ok (.istore_n 2, 1) := by decide +kernel
theorem dX7_teach_23 : decode cX7_teach 23 = .ok (.iload_n 2, 1) := by decide +kernel
theorem dX7_teach_24 : decode cX7_teach 24 = .ok (.ifCond .ne 34, 3) := by decide +kernel
theorem dX7_teach_27 : decode cX7_teach 27 = .ok (.aload_n 0, 1) := by decide +kernel
theorem dX7_teach_28 : decode cX7_teach 28 = .ok (.getfield 44, 3) := by decide +kernel
theorem dX7_teach_31 : decode cX7_teach 31 = .ok (.invokevirtual 77, 3) := by decide +kernel
theorem dX7_teach_34 : decode cX7_teach 34 = .ok (.aload_n 0, 1) := by decide +kernel
theorem dX7_teach_35 : decode cX7_teach 35 = .ok (.getfield 26, 3) := by decide +kernel
theorem dX7_teach_38 : decode cX7_teach 38 = .ok (.aload_n 0, 1) := by decide +kernel
theorem dX7_teach_39 : decode cX7_teach 39 = .ok (.getfield 19, 3) := by decide +kernel
theorem dX7_teach_42 : decode cX7_teach 42 = .ok (.aload_n 0, 1) := by decide +kernel
theorem dX7_teach_43 : decode cX7_teach 43 = .ok (.getfield 44, 3) := by decide +kernel
theorem dX7_teach_46 : decode cX7_teach 46 = .ok (.invokevirtual 80, 3) := by decide +kernel
theorem dX7_teach_49 : decode cX7_teach 49 = .ok (.istore_n 2, 1) := by decide +kernel
theorem dX7_teach_50 : decode cX7_teach 50 = .ok (.aload_n 0, 1) := by decide +kernel
theorem dX7_teach_51 : decode cX7_teach 51 = .ok (.getfield 26, 3) := by decide +kernel
theorem dX7_teach_54 : decode cX7_teach 54 = .ok (.getfield 84, 3) := by decide +kernel
theorem dX7_teach_57 : decode cX7_teach 57 = .ok (.istore_n 1, 1) := by decide +kernel
theorem dX7_teach_58 : decode cX7_teach 58 = .ok (.iload_n 2, 1) := by decide +kernel
theorem dX7_teach_59 : decode cX7_teach 59 = .ok (.ifCond .ne 21, 3) := by decide +kernel
theorem dX7_teach_62 : decode cX7_teach 62 = .ok (.aload_n 0, 1) := by decide +kernel
theorem dX7_teach_63 : decode cX7_teach 63 = .ok (.getfield 40, 3) := by decide +kernel
theorem dX7_teach_66 : decode cX7_teach 66 = .ok (.astore_n 3, 1) := by decide +kernel
theorem dX7_teach_67 : decode cX7_teach 67 = .ok (.aload_n 0, 1) := by decide +kernel
theorem dX7_teach_68 : decode cX7_teach 68 = .ok (.aload_n 0, 1) := by decide +kernel
theorem dX7_teach_69 : decode cX7_teach 69 = .ok (.getfield 44, 3) := by decide +kernel
theorem dX7_teach_72 : decode cX7_teach 72 = .ok (.putfield 40, 3) := by decide +kernel
theorem dX7_teach_75 : decode cX7_teach 75 = .ok (.aload_n 0, 1) := by decide +kernel
theorem dX7_teach_76 : decode cX7_teach 76 = .ok (.aload_n 3, 1) := by decide +kernel
theorem dX7_teach_77 : decode cX7_teach 77 = .ok (.putfield 44, 3) := by decide +kernel
theorem dX7_teach_80 : decode cX7_teach 80 = .ok (.aload_n 0, 1) := by decide +kernel
theorem dX7_teach_81 : decode cX7_teach 81 = .ok (.iload_n 1, 1) := by decide +kernel
theorem dX7_teach_82 : decode cX7_teach 82 = .ok (.putfield 47, 3) := by decide +kernel
theorem dX7_teach_85 : decode cX7_teach 85 = .ok (.aload_n 0, 1) := by decide +kernel
theorem dX7_teach_86 : decode cX7_teach 86 = .ok (.getfield 10, 3) := by decide +kernel
theorem dX7_teach_89 : decode cX7_teach 89 = .ok (.iconst 0, 1) := by decide +kernel
theorem dX7_teach_90 : decode cX7_teach 90 = .ok (.invokevirtual 70, 3) := by decide +kernel
theorem dX7_teach_93 : decode cX7_teach 93 = .ok (.iload_n 2, 1) := by decide +kernel
theorem dX7_teach_94 : decode cX7_teach 94 = .ok (.ireturn, 1) := by decide +kernel
theorem dX7_count_0 : decode cX7_count 0 = .ok (.iload_n 1, 1) := by decide +kernel
theorem dX7_count_1 : decode cX7_count 1 = .ok (.ifCond .lt 9, 3) := by decide +kernel
theorem dX7_count_4 : decode cX7_count 4 = .ok (.iload_n 1, 1) := by decide +kernel
theorem dX7_count_5 : decode cX7_count 5 = .ok (.bipush 11, 2) := by decide +kernel
theorem dX7_count_7 : decode cX7_count 7 = .ok (.if_icmp .lt 13, 3) := by decide +kernel
theorem dX7_count_10 : decode cX7_count 10 = .ok (.new 85, 3) := by decide +kernel
theorem dX7_count_13 : decode cX7_count 13 = .ok (.dup, 1) := by decide +kernel
theorem dX7_count_14 : decode cX7_count 14 = .ok (.ldc 87, 2) := by decide +kernel
theorem dX7_count_16 : decode cX7_count 16 = .ok (.invokespecial 89, 3) := by decide +kernel
theorem dX7_count_19 : decode cX7_count 19 = .ok (.athrow, 1) := by decide +kernel
theorem dX7_count_20 : decode cX7_count 20 = .ok (.aload_n 0, 1) := by decide +kernel
theorem dX7_count_21 : decode cX7_count 21 = .ok (.iload_n 1, 1) := by decide +kernel
theorem dX7_count_22 : decode cX7_count 22 = .ok (.invokevirtual 90, 3) := by decide +kernel
theorem dX7_count_25 : decode cX7_count 25 = .ok (.ireturn, 1) := by decide +kernel
theorem dX7_cell_0 : decode cX7_cell 0 = .ok (.iload_n 1, 1) := by decide +kernel
theorem dX7_cell_1 : decode cX7_cell 1 = .ok (.invokestatic 94, 3) := by decide +kernel
theorem dX7_cell_4 : decode cX7_cell 4 = .ok (.ifCond .eq 13, 3) := by decide +kernel
theorem dX7_cell_7 : decode cX7_cell 7 = .ok (.iload_n 2, 1) := by decide +kernel
theorem dX7_cell_8 : decode cX7_cell 8 = .ok (.ifCond .lt 9, 3) := by decide +kernel
theorem dX7_cell_11 : decode cX7_cell 11 = .ok (.iload_n 2, 1) := by decide +kernel
theorem dX7_cell_12 : decode cX7_cell 12 = .ok (.bipush 6, 2) := by decide +kernel
theorem dX7_cell_14 : decode cX7_cell 14 = .ok (.if_icmp .lt 13, 3) := by decide +kernel
theorem dX7_cell_17 : decode cX7_cell 17 = .ok (.new 85, 3) := by decide +kernel
theorem dX7_cell_20 : decode cX7_cell 20 = .ok (.dup, 1) := by decide +kernel
theorem dX7_cell_21 : decode cX7_cell 21 = .ok (.ldc 98, 2) := by decide +kernel
theorem dX7_cell_23 : decode cX7_cell 23 = .ok (.invokespecial 89, 3) := by decide +kernel
theorem dX7_cell_26 : decode cX7_cell 26 = .ok (.athrow, 1) := by decide +kernel
theorem dX7_cell_27 : decode cX7_cell 27 = .ok (.aload_n 0, 1) := by decide +kernel
theorem dX7_cell_28 : decode cX7_cell 28 = .ok (.iload_n 1, 1) := by decide +kernel
theorem dX7_cell_29 : decode cX7_cell 29 = .ok (.iload_n 2, 1) := by decide +kernel
theorem dX7_cell_30 : decode cX7_cell 30 = .ok (.invokevirtual 100, 3) := by decide +kernel
theorem dX7_cell_33 : decode cX7_cell 33 = .ok (.ireturn, 1) := by decide +kernel
theorem dX7_legal_0 : decode cX7_legal 0 = .ok (.iload_n 1, 1) := by decide +kernel
theorem dX7_legal_1 : decode cX7_legal 1 = .ok (.invokestatic 94, 3) := by decide +kernel
theorem dX7_legal_4 : decode cX7_legal 4 = .ok (.ifCond .eq 10, 3) := by decide +kernel
theorem dX7_legal_7 : decode cX7_legal 7 = .ok (.iload_n 2, 1) := by decide +kernel
theorem dX7_legal_8 : decode cX7_legal 8 = .ok (.invokestatic 94, 3) := by decide +kernel
theorem dX7_legal_11 : decode cX7_legal 11 = .ok (.ifCond .ne 13, 3) := by decide +kernel
theorem dX7_legal_14 : decode cX7_legal 14 = .ok (.new 85, 3) := by decide +kernel
theorem dX7_legal_17 : decode cX7_legal 17 = .ok (.dup, 1) := by decide +kernel
theorem dX7_legal_18 : decode cX7_legal 18 = .ok (.ldc 109, 2) := by decide +kernel
theorem dX7_legal_20 : decode cX7_legal 20 = .ok (.invokespecial 89, 3) := by decide +kernel
theorem dX7_legal_23 : decode cX7_legal 23 = .ok (.athrow, 1) := by decide +kernel
theorem dX7_legal_24 : decode cX7_legal 24 = .ok (.aload_n 0, 1) := by decide +kernel
theorem dX7_legal_25 : decode cX7_legal 25 = .ok (.getfield 40, 3) := by decide +kernel
theorem dX7_legal_28 : decode cX7_legal 28 = .ok (.iload_n 1, 1) := by decide +kernel
theorem dX7_legal_29 : decode cX7_legal 29 = .ok (.iload_n 2, 1) := by decide +kernel
theorem dX7_legal_30 : decode cX7_legal 30 = .ok (.invokevirtual 123, 3) := by decide +kernel
theorem dX7_legal_33 : decode cX7_legal 33 = .ok (.ireturn, 1) := by decide +kernel
theorem dX7_nth_0 : decode cX7_nth 0 = .ok (.iload_n 1, 1) := by decide +kernel
theorem dX7_nth_1 : decode cX7_nth 1 = .ok (.ifCond .lt 14, 3) := by decide +kernel
theorem dX7_nth_4 : decode cX7_nth 4 = .ok (.iload_n 1, 1) := by decide +kernel
theorem dX7_nth_5 : decode cX7_nth 5 = .ok (.aload_n 0, 1) := by decide +kernel
theorem dX7_nth_6 : decode cX7_nth 6 = .ok (.getfield 40, 3) := by decide +kernel
theorem dX7_nth_9 : decode cX7_nth 9 = .ok (.invokevirtual 127, 3) := by decide +kernel
theorem dX7_nth_12 : decode cX7_nth 12 = .ok (.if_icmp .lt 13, 3) := by decide +kernel
theorem dX7_nth_15 : decode cX7_nth 15 = .ok (.new 85, 3) := by decide +kernel
theorem dX7_nth_18 : decode cX7_nth 18 = .ok (.dup, 1) := by decide +kernel
theorem dX7_nth_19 : decode cX7_nth 19 = .ok (.ldc 131, 2) := by decide +kernel
theorem dX7_nth_21 : decode cX7_nth 21 = .ok (.invokespecial 89, 3) := by decide +kernel
theorem dX7_nth_24 : decode cX7_nth 24 = .ok (.athrow, 1) := by decide +kernel
theorem dX7_nth_25 : decode cX7_nth 25 = .ok (.aload_n 0, 1) := by decide +kernel
theorem dX7_nth_26 : decode cX7_nth 26 = .ok (.getfield 40, 3) := by decide +kernel
theorem dX7_nth_29 : decode cX7_nth 29 = .ok (.iload_n 1, 1) := by decide +kernel
theorem dX7_nth_30 : decode cX7_nth 30 = .ok (.invokevirtual 133, 3) := by decide +kernel
theorem dX7_nth_33 : decode cX7_nth 33 = .ok (.ireturn, 1) := by decide +kernel
theorem dX7_move_0 : decode cX7_move 0 = .ok (.iload_n 1, 1) := by decide +kernel
theorem dX7_move_1 : decode cX7_move 1 = .ok (.invokestatic 94, 3) := by decide +kernel
theorem dX7_move_4 : decode cX7_move 4 = .ok (.ifCond .eq 10, 3) := by decide +kernel
theorem dX7_move_7 : decode cX7_move 7 = .ok (.iload_n 2, 1) := by decide +kernel
theorem dX7_move_8 : decode cX7_move 8 = .ok (.invokestatic 94, 3) := by decide +kernel
theorem dX7_move_11 : decode cX7_move 11 = .ok (.ifCond .ne 13, 3) := by decide +kernel
theorem dX7_move_14 : decode cX7_move 14 = .ok (.new 85, 3) := by decide +kernel
theorem dX7_move_17 : decode cX7_move 17 = .ok (.dup, 1) := by decide +kernel
theorem dX7_move_18 : decode cX7_move 18 = .ok (.ldc 109, 2) := by decide +kernel
theorem dX7_move_20 : decode cX7_move 20 = .ok (.invokespecial 89, 3) := by decide +kernel
theorem dX7_move_23 : decode cX7_move 23 = .ok (.athrow, 1) := by decide +kernel
theorem dX7_move_24 : decode cX7_move 24 = .ok (.iload_n 3, 1) := by decide +kernel
theorem dX7_move_25 : decode cX7_move 25 = .ok (.iconst 2, 1) := by decide +kernel
theorem dX7_move_26 : decode cX7_move 26 = .ok (.if_icmp .lt 8, 3) := by decide +kernel
theorem dX7_move_29 : decode cX7_move 29 = .ok (.iload_n 3, 1) := by decide +kernel
theorem dX7_move_30 : decode cX7_move 30 = .ok (.iconst 5, 1) := by decide +kernel
theorem dX7_move_31 : decode cX7_move 31 = .ok (.if_icmp .le 13, 3) := by decide +kernel
theorem dX7_move_34 : decode cX7_move 34 = .ok (.new 65, 3) := by decide +kernel
theorem dX7_move_37 : decode cX7_move 37 = .ok (.dup, 1) := by decide +kernel
theorem dX7_move_38 : decode cX7_move 38 = .ok (.ldc 136, 2) := by decide +kernel
theorem dX7_move_40 : decode cX7_move 40 = .ok (.invokespecial 69, 3) := by decide +kernel
theorem dX7_move_43 : decode cX7_move 43 = .ok (.athrow, 1) := by decide +kernel
theorem dX7_move_44 : decode cX7_move 44 = .ok (.aload_n 0, 1) := by decide +kernel
theorem dX7_move_45 : decode cX7_move 45 = .ok (.getfield 40, 3) := by decide +kernel
theorem dX7_move_48 : decode cX7_move 48 = .ok (.invokevirtual 138, 3) := by decide +kernel
theorem dX7_move_51 : decode cX7_move 51 = .ok (.ifCond .ne 15, 3) := by decide +kernel
theorem dX7_move_54 : decode cX7_move 54 = .ok (.aload_n 0, 1) := by decide +kernel
theorem dX7_move_55 : decode cX7_move 55 = .ok (.getfield 40, 3) := by decide +kernel
theorem dX7_move_58 : decode cX7_move 58 = .ok (.iload_n 1, 1) := by decide +kernel
theorem dX7_move_59 : decode cX7_move 59 = .ok (.iload_n 2, 1) := by decide +kernel
theorem dX7_move_60 : decode cX7_move 60 = .ok (.invokevirtual 123, 3) := by decide +kernel
theorem dX7_move_63 : decode cX7_move 63 = .ok (.ifCond .ne 13, 3) := by decide +kernel
theorem dX7_move_66 : decode cX7_move 66 = .ok (.new 54, 3) := by decide +kernel
theorem dX7_move_69 : decode cX7_move 69 = .ok (.dup, 1) := by decide +kernel
theorem dX7_move_70 : decode cX7_move 70 = .ok (.ldc 142, 2) := by decide +kernel
theorem dX7_move_72 : decode cX7_move 72 = .ok (.invokespecial 58, 3) := by decide +kernel
theorem dX7_move_75 : decode cX7_move 75 = .ok (.athrow, 1) := by decide +kernel
theorem dX7_move_76 : decode cX7_move 76 = .ok (.aload_n 0, 1) := by decide +kernel
theorem dX7_move_77 : decode cX7_move 77 = .ok (.getfield 40, 3) := by decide +kernel
theorem dX7_move_80 : decode cX7_move 80 = .ok (.iload_n 1, 1) := by decide +kernel
theorem dX7_move_81 : decode cX7_move 81 = .ok (.iload_n 2, 1) := by decide +kernel
theorem dX7_move_82 : decode cX7_move 82 = .ok (.iload_n 3, 1) := by decide +kernel
theorem dX7_move_83 : decode cX7_move 83 = .ok (.invokevirtual 144, 3) := by decide +kernel
theorem dX7_move_86 : decode cX7_move 86 = .ok (.ireturn, 1) := by decide +kernel
theorem dX7_back_0 : decode cX7_back 0 = .ok (.aload_n 0, 1) := by decide +kernel
theorem dX7_back_1 : decode cX7_back 1 = .ok (.getfield 40, 3) := by decide +kernel
theorem dX7_back_4 : decode cX7_back 4 = .ok (.getfield 147, 3) := by decide +kernel
theorem dX7_back_7 : decode cX7_back 7 = .ok (.ifCond .ne 13, 3) := by decide +kernel
theorem dX7_back_10 : decode cX7_back 10 = .ok (.new 54, 3) := by decide +kernel
theorem dX7_back_13 : decode cX7_back 13 = .ok (.dup, 1) := by decide +kernel
theorem dX7_back_14 : decode cX7_back 14 = .ok (.ldc 150, 2) := by decide +kernel
theorem dX7_back_16 : decode cX7_back 16 = .ok (.invokespecial 58, 3) := by decide +kernel
theorem dX7_back_19 : decode cX7_back 19 = .ok (.athrow, 1) := by decide +kernel
theorem dX7_back_20 : decode cX7_back 20 = .ok (.aload_n 0, 1) := by decide +kernel
theorem dX7_back_21 : decode cX7_back 21 = .ok (.getfield 40, 3) := by decide +kernel
theorem dX7_back_24 : decode cX7_back 24 = .ok (.invokevirtual 152, 3) := by decide +kernel
theorem dX7_back_27 : decode cX7_back 27 = .ok (.aload_n 0, 1) := by decide +kernel
theorem dX7_back_28 : decode cX7_back 28 = .ok (.getfield 40, 3) := by decide +kernel
theorem dX7_back_31 : decode cX7_back 31 = .ok (.getfield 147, 3) := by decide +kernel
theorem dX7_back_34 : decode cX7_back 34 = .ok (.ireturn, 1) := by decide +kernel
theorem dX7_lines_0 : decode cX7_lines 0 = .ok (.iload_n 1, 1) := by decide +kernel
theorem dX7_lines_1 : decode cX7_lines 1 = .ok (.iconst 1, 1) := by decide +kernel
theorem dX7_lines_2 : decode cX7_lines 2 = .ok (.if_icmp .eq 18, 3) := by decide +kernel
theorem dX7_lines_5 : decode cX7_lines 5 = .ok (.iload_n 1, 1) := by decide +kernel
theorem dX7_lines_6 : decode cX7_lines 6 = .ok (.iconst 2, 1) := by decide +kernel
theorem dX7_lines_7 : decode cX7_lines 7 = .ok (.if_icmp .eq 13, 3) := by decide +kernel
theorem dX7_lines_10 : decode cX7_lines 10 = .ok (.new 65, 3) := by decide +kernel
theorem dX7_lines_13 : decode cX7_lines 13 = .ok (.dup, 1) := by decide +kernel
theorem dX7_lines_14 : decode cX7_lines 14 = .ok (.ldc 155, 2) := by decide +kernel
theorem dX7_lines_16 : decode cX7_lines 16 = .ok (.invokespecial 69, 3) := by decide +kernel
theorem dX7_lines_19 : decode cX7_lines 19 = .ok (.athrow, 1) := by decide +kernel
theorem dX7_lines_20 : decode cX7_lines 20 = .ok (.iload_n 1, 1) := by decide +kernel
theorem dX7_lines_21 : decode cX7_lines 21 = .ok (.iconst 1, 1) := by decide +kernel
theorem dX7_lines_22 : decode cX7_lines 22 = .ok (.if_icmp .ne 13, 3) := by decide +kernel
theorem dX7_lines_25 : decode cX7_lines 25 = .ok (.aload_n 0, 1) := by decide +kernel
theorem dX7_lines_26 : decode cX7_lines 26 = .ok (.getfield 40, 3) := by decide +kernel
theorem dX7_lines_29 : decode cX7_lines 29 = .ok (.invokevirtual 127, 3) := by decide +kernel
theorem dX7_lines_32 : decode cX7_lines 32 = .ok (.goto 10, 3) := by decide +kernel
theorem dX7_lines_35 : decode cX7_lines 35 = .ok (.aload_n 0, 1) := by decide +kernel
theorem dX7_lines_36 : decode cX7_lines 36 = .ok (.getfield 40, 3) := by decide +kernel
theorem dX7_lines_39 : decode cX7_lines 39 = .ok (.invokevirtual 157, 3) := by decide +kernel
theorem dX7_lines_42 : decode cX7_lines 42 = .ok (.ireturn, 1) := by decide +kernel
theorem dX7_hanging_0 : decode cX7_hanging 0 = .ok (.iload_n 1, 1) := by decide +kernel
theorem dX7_hanging_1 : decode cX7_hanging 1 = .ok (.ifCond .eq 18, 3) := by decide +kernel
theorem dX7_hanging_4 : decode cX7_hanging 4 = .ok (.iload_n 1, 1) := by decide +kernel
theorem dX7_hanging_5 : decode cX7_hanging 5 = .ok (.iconst 1, 1) := by decide +kernel
theorem dX7_hanging_6 : decode cX7_hanging 6 = .ok (.if_icmp .eq 13, 3) := by decide +kernel
theorem dX7_hanging_9 : decode cX7_hanging 9 = .ok (.new 85, 3) := by decide +kernel
theorem dX7_hanging_12 : decode cX7_hanging 12 = .ok (.dup, 1) := by decide +kernel
theorem dX7_hanging_13 : decode cX7_hanging 13 = .ok (.ldc 166, 2) := by decide +kernel
theorem dX7_hanging_15 : decode cX7_hanging 15 = .ok (.invokespecial 89, 3) := by decide +kernel
theorem dX7_hanging_18 : decode cX7_hanging 18 = .ok (.athrow, 1) := by decide +kernel
theorem dX7_hanging_19 : decode cX7_hanging 19 = .ok (.aload_n 0, 1) := by decide +kernel
theorem dX7_hanging_20 : decode cX7_hanging 20 = .ok (.getfield 40, 3) := by decide +kernel
theorem dX7_hanging_23 : decode cX7_hanging 23 = .ok (.iload_n 1, 1) := by decide +kernel
theorem dX7_hanging_24 : decode cX7_hanging 24 = .ok (.invokevirtual 168, 3) := by decide +kernel
theorem dX7_hanging_27 : decode cX7_hanging 27 = .ok (.ireturn, 1) := by decide +kernel
theorem dX7_mean_0 : decode cX7_mean 0 = .ok (.aload_n 0, 1) := by decide +kernel
theorem dX7_mean_1 : decode cX7_mean 1 = .ok (.getfield 40, 3) := by decide +kernel
theorem dX7_mean_4 : decode cX7_mean 4 = .ok (.getfield 171, 3) := by decide +kernel
theorem dX7_mean_7 : decode cX7_mean 7 = .ok (.aload_n 0, 1) := by decide +kernel
theorem dX7_mean_8 : decode cX7_mean 8 = .ok (.getfield 40, 3) := by decide +kernel
theorem dX7_mean_11 : decode cX7_mean 11 = .ok (.getfield 175, 3) := by decide +kernel
theorem dX7_mean_14 : decode cX7_mean 14 = .ok (.invokevirtual 178, 3) := by decide +kernel
theorem dX7_mean_17 : decode cX7_mean 17 = .ok (.istore_n 1, 1) := by decide +kernel
theorem dX7_mean_18 : decode cX7_mean 18 = .ok (.iload_n 1, 1) := by decide +kernel
theorem dX7_mean_19 : decode cX7_mean 19 = .ok (.ifCond .ne 7, 3) := by decide +kernel
theorem dX7_mean_22 : decode cX7_mean 22 = .ok (.dconst 0, 1) := by decide +kernel
theorem dX7_mean_23 : decode cX7_mean 23 = .ok (.goto 14, 3) := by decide +kernel
theorem dX7_mean_26 : decode cX7_mean 26 = .ok (.aload_n 0, 1) := by decide +kernel
theorem dX7_mean_27 : decode cX7_mean 27 = .ok (.getfield 40, 3) := by decide +kernel
theorem dX7_mean_30 : decode cX7_mean 30 = .ok (.invokevirtual 127, 3) := by decide +kernel
theorem dX7_mean_33 : decode cX7_mean 33 = .ok (.i2d, 1) := by decide +kernel
theorem dX7_mean_34 : decode cX7_mean 34 = .ok (.iload_n 1, 1) := by decide +kernel
theorem dX7_mean_35 : decode cX7_mean 35 = .ok (.i2d, 1) := by decide +kernel
theorem dX7_mean_36 : decode cX7_mean 36 = .ok (.ddiv, 1) := by decide +kernel
theorem dX7_mean_37 : decode cX7_mean 37 = .ok (.dreturn, 1) := by decide +kernel
theorem dX7_digest_0 : decode cX7_digest 0 = .ok (.ldc2_w 183, 3) := by decide +kernel
theorem dX7_digest_3 : decode cX7_digest 3 = .ok (.lstore_n 1, 1) := by decide +kernel
theorem dX7_digest_4 : decode cX7_digest 4 = .ok (.iconst 0, 1) := by decide +kernel
theorem dX7_digest_5 : decode cX7_digest 5 = .ok (.istore_n 3, 1) := by decide +kernel
theorem dX7_digest_6 : decode cX7_digest 6 = .ok (.iload_n 3, 1) := by decide +kernel
theorem dX7_digest_7 : decode cX7_digest 7 = .ok (.bipush 11, 2) := by decide +kernel
theorem dX7_digest_9 : decode cX7_digest 9 = .ok (.if_icmp .ge 22, 3) := by decide +kernel
theorem dX7_digest_12 : decode cX7_digest 12 = .ok (.lload_n 1, 1) := by decide +kernel
theorem dX7_digest_13 : decode cX7_digest 13 = .ok (.ldc2_w 185, 3) := by decide +kernel
theorem dX7_digest_16 : decode cX7_digest 16 = .ok (.lmul, 1) := by decide +kernel
theorem dX7_digest_17 : decode cX7_digest 17 = .ok (.aload_n 0, 1) := by decide +kernel
theorem dX7_digest_18 : decode cX7_digest 18 = .ok (.iload_n 3, 1) := by decide +kernel
theorem dX7_digest_19 : decode cX7_digest 19 = .ok (.invokevirtual 90, 3) := by decide +kernel
theorem dX7_digest_22 : decode cX7_digest 22 = .ok (.i2l, 1) := by decide +kernel
theorem dX7_digest_23 : decode cX7_digest 23 = .ok (.ladd, 1) := by decide +kernel
theorem dX7_digest_24 : decode cX7_digest 24 = .ok (.lstore_n 1, 1) := by decide +kernel
theorem dX7_digest_25 : decode cX7_digest 25 = .ok (.iinc 3 1, 3) := by decide +kernel
theorem dX7_digest_28 : decode cX7_digest 28 = .ok (.goto (-22), 3) := by decide +kernel
theorem dX7_digest_31 : decode cX7_digest 31 = .ok (.iconst 0, 1) := by decide +kernel
theorem dX7_digest_32 : decode cX7_digest 32 = .ok (.istore_n 3, 1) := by decide +kernel
theorem dX7_digest_33 : decode cX7_digest 33 = .ok (.iload_n 3, 1) := by decide +kernel
theorem dX7_digest_34 : decode cX7_digest 34 = .ok (.bipush 91, 2) := by decide +kernel
theorem dX7_digest_36 : decode cX7_digest 36 = .ok (.if_icmp .ge 65, 3) := by decide +kernel
theorem dX7_digest_39 : decode cX7_digest 39 = .ok (.lload_n 1, 1) := by decide +kernel
theorem dX7_digest_40 : decode cX7_digest 40 = .ok (.ldc2_w 185, 3) := by decide +kernel
theorem dX7_digest_43 : decode cX7_digest 43 = .ok (.lmul, 1) := by decide +kernel
theorem dX7_digest_44 : decode cX7_digest 44 = .ok (.aload_n 0, 1) := by decide +kernel
theorem dX7_digest_45 : decode cX7_digest 45 = .ok (.iload_n 3, 1) := by decide +kernel
theorem dX7_digest_46 : decode cX7_digest 46 = .ok (.iconst 0, 1) := by decide +kernel
theorem dX7_digest_47 : decode cX7_digest 47 = .ok (.invokevirtual 100, 3) := by decide +kernel
theorem dX7_digest_50 : decode cX7_digest 50 = .ok (.i2l, 1) := by decide +kernel
theorem dX7_digest_51 : decode cX7_digest 51 = .ok (.ladd, 1) := by decide +kernel
theorem dX7_digest_52 : decode cX7_digest 52 = .ok (.lstore_n 1, 1) := by decide +kernel
theorem dX7_digest_53 : decode cX7_digest 53 = .ok (.lload_n 1, 1) := by decide +kernel
theorem dX7_digest_54 : decode cX7_digest 54 = .ok (.ldc2_w 185, 3) := by decide +kernel
theorem dX7_digest_57 : decode cX7_digest 57 = .ok (.lmul, 1) := by decide +kernel
theorem dX7_digest_58 : decode cX7_digest 58 = .ok (.aload_n 0, 1) := by decide +kernel
theorem dX7_digest_59 : decode cX7_digest 59 = .ok (.iload_n 3, 1) := by decide +kernel
theorem dX7_digest_60 : decode cX7_digest 60 = .ok (.iconst 1, 1) := by decide +kernel
theorem dX7_digest_61 : decode cX7_digest 61 = .ok (.invokevirtual 100, 3) := by decide +kernel
theorem dX7_digest_64 : decode cX7_digest 64 = .ok (.i2l, 1) := by decide +kernel
theorem dX7_digest_65 : decode cX7_digest 65 = .ok (.ladd, 1) := by decide +kernel
theorem dX7_digest_66 : decode cX7_digest 66 = .ok (.lstore_n 1, 1) := by decide +kernel
theorem dX7_digest_67 : decode cX7_digest 67 = .ok (.lload_n 1, 1) := by decide +kernel
theorem dX7_digest_68 : decode cX7_digest 68 = .ok (.ldc2_w 185, 3) := by decide +kernel
theorem dX7_digest_71 : decode cX7_digest 71 = .ok (.lmul, 1) := by decide +kernel
theorem dX7_digest_72 : decode cX7_digest 72 = .ok (.aload_n 0, 1) := by decide +kernel
theorem dX7_digest_73 : decode cX7_digest 73 = .ok (.iload_n 3, 1) := by decide +kernel
theorem dX7_digest_74 : decode cX7_digest 74 = .ok (.iconst 4, 1) := by decide +kernel
theorem dX7_digest_75 : decode cX7_digest 75 = .ok (.invokevirtual 100, 3) := by decide +kernel
theorem dX7_digest_78 : decode cX7_digest 78 = .ok (.i2l, 1) := by decide +kernel
theorem dX7_digest_79 : decode cX7_digest 79 = .ok (.ladd, 1) := by decide +kernel
theorem dX7_digest_80 : decode cX7_digest 80 = .ok (.lstore_n 1, 1) := by decide +kernel
theorem dX7_digest_81 : decode cX7_digest 81 = .ok (.lload_n 1, 1) := by decide +kernel
theorem dX7_digest_82 : decode cX7_digest 82 = .ok (.ldc2_w 185, 3) := by decide +kernel
theorem dX7_digest_85 : decode cX7_digest 85 = .ok (.lmul, 1) := by decide +kernel
theorem dX7_digest_86 : decode cX7_digest 86 = .ok (.aload_n 0, 1) := by decide +kernel
theorem dX7_digest_87 : decode cX7_digest 87 = .ok (.iload_n 3, 1) := by decide +kernel
theorem dX7_digest_88 : decode cX7_digest 88 = .ok (.iconst 5, 1) := by decide +kernel
theorem dX7_digest_89 : decode cX7_digest 89 = .ok (.invokevirtual 100, 3) := by decide +kernel
theorem dX7_digest_92 : decode cX7_digest 92 = .ok (.i2l, 1) := by decide +kernel
theorem dX7_digest_93 : decode cX7_digest 93 = .ok (.ladd, 1) := by decide +kernel
theorem dX7_digest_94 : decode cX7_digest 94 = .ok (.lstore_n 1, 1) := by decide +kernel
theorem dX7_digest_95 : decode cX7_digest 95 = .ok (.iinc 3 1, 3) := by decide +kernel
theorem dX7_digest_98 : decode cX7_digest 98 = .ok (.goto (-65), 3) := by decide +kernel
theorem dX7_digest_101 : decode cX7_digest 101 = .ok (.aload_n 0, 1) := by decide +kernel
theorem dX7_digest_102 : decode cX7_digest 102 = .ok (.getfield 40, 3) := by decide +kernel
theorem dX7_digest_105 : decode cX7_digest 105 = .ok (.invokevirtual 127, 3) := by decide +kernel
theorem dX7_digest_108 : decode cX7_digest 108 = .ok (.istore_n 3, 1) := by decide +kernel
theorem dX7_digest_109 : decode cX7_digest 109 = .ok (.iconst 0, 1) := by decide +kernel
theorem dX7_digest_110 : decode cX7_digest 110 = .ok (.istore 4, 2) := by decide +kernel
theorem dX7_digest_112 : decode cX7_digest 112 = .ok (.iload 4, 2) := by decide +kernel
theorem dX7_digest_114 : decode cX7_digest 114 = .ok (.iload_n 3, 1) := by decide +kernel
theorem dX7_digest_115 : decode cX7_digest 115 = .ok (.if_icmp .ge 26, 3) := by decide +kernel
theorem dX7_digest_118 : decode cX7_digest 118 = .ok (.lload_n 1, 1) := by decide +kernel
theorem dX7_digest_119 : decode cX7_digest 119 = .ok (.ldc2_w 185, 3) := by decide +kernel
theorem dX7_digest_122 : decode cX7_digest 122 = .ok (.lmul, 1) := by decide +kernel
theorem dX7_digest_123 : decode cX7_digest 123 = .ok (.aload_n 0, 1) := by decide +kernel
theorem dX7_digest_124 : decode cX7_digest 124 = .ok (.getfield 40, 3) := by decide +kernel
theorem dX7_digest_127 : decode cX7_digest 127 = .ok (.iload 4, 2) := by decide +kernel
theorem dX7_digest_129 : decode cX7_digest 129 = .ok (.invokevirtual 133, 3) := by decide +kernel
theorem dX7_digest_132 : decode cX7_digest 132 = .ok (.i2l, 1) := by decide +kernel
theorem dX7_digest_133 : decode cX7_digest 133 = .ok (.ladd, 1) := by decide +kernel
theorem dX7_digest_134 : decode cX7_digest 134 = .ok (.lstore_n 1, 1) := by decide +kernel
theorem dX7_digest_135 : decode cX7_digest 135 = .ok (.iinc 4 1, 3) := by decide +kernel
theorem dX7_digest_138 : decode cX7_digest 138 = .ok (.goto (-26), 3) := by decide +kernel
theorem dX7_digest_141 : decode cX7_digest 141 = .ok (.lload_n 1, 1) := by decide +kernel
theorem dX7_digest_142 : decode cX7_digest 142 = .ok (.lreturn, 1) := by decide +kernel
theorem dX7_countOf_0 : decode cX7_countOf 0 = .ok (.iload_n 1, 1) := by decide +kernel
theorem dX7_countOf_1 : decode cX7_countOf 1 = .ok (.tableswitch 145 0 9 #[55, 63, 71, 79, 87, 99, 111, 119, 128, 137], 55) := by decide +kernel
theorem dX7_countOf_56 : decode cX7_countOf 56 = .ok (.aload_n 0, 1) := by decide +kernel
theorem dX7_countOf_57 : decode cX7_countOf 57 = .ok (.getfield 40, 3) := by decide +kernel
theorem dX7_countOf_60 : decode cX7_countOf 60 = .ok (.getfield 147, 3) := by decide +kernel
theorem dX7_countOf_63 : decode cX7_countOf 63 = .ok (.ireturn, 1) := by decide +kernel
theorem dX7_countOf_64 : decode cX7_countOf 64 = .ok (.aload_n 0, 1) := by decide +kernel
theorem dX7_countOf_65 : decode cX7_countOf 65 = .ok (.getfield 40, 3) := by decide +kernel
theorem dX7_countOf_68 : decode cX7_countOf 68 = .ok (.getfield 175, 3) := by decide +kernel
theorem dX7_countOf_71 : decode cX7_countOf 71 = .ok (.ireturn, 1) := by decide +kernel
theorem dX7_countOf_72 : decode cX7_countOf 72 = .ok (.aload_n 0, 1) := by decide +kernel
theorem dX7_countOf_73 : decode cX7_countOf 73 = .ok (.getfield 40, 3) := by decide +kernel
theorem dX7_countOf_76 : decode cX7_countOf 76 = .ok (.invokevirtual 187, 3) := by decide +kernel
theorem dX7_countOf_79 : decode cX7_countOf 79 = .ok (.ireturn, 1) := by decide +kernel
theorem dX7_countOf_80 : decode cX7_countOf 80 = .ok (.aload_n 0, 1) := by decide +kernel
theorem dX7_countOf_81 : decode cX7_countOf 81 = .ok (.getfield 40, 3) := by decide +kernel
theorem dX7_countOf_84 : decode cX7_countOf 84 = .ok (.invokevirtual 127, 3) := by decide +kernel
theorem dX7_countOf_87 : decode cX7_countOf 87 = .ok (.ireturn, 1) := by decide +kernel
theorem dX7_countOf_88 : decode cX7_countOf 88 = .ok (.aload_n 0, 1) := by decide +kernel
theorem dX7_countOf_89 : decode cX7_countOf 89 = .ok (.getfield 40, 3) := by decide +kernel
theorem dX7_countOf_92 : decode cX7_countOf 92 = .ok (.getfield 171, 3) := by decide +kernel
theorem dX7_countOf_95 : decode cX7_countOf 95 = .ok (.iconst 0, 1) := by decide +kernel
theorem dX7_countOf_96 : decode cX7_countOf 96 = .ok (.invokevirtual 190, 3) := by decide +kernel
theorem dX7_countOf_99 : decode cX7_countOf 99 = .ok (.ireturn, 1) := by decide +kernel
theorem dX7_countOf_100 : decode cX7_countOf 100 = .ok (.aload_n 0, 1) := by decide +kernel
theorem dX7_countOf_101 : decode cX7_countOf 101 = .ok (.getfield 40, 3) := by decide +kernel
theorem dX7_countOf_104 : decode cX7_countOf 104 = .ok (.getfield 171, 3) := by decide +kernel
theorem dX7_countOf_107 : decode cX7_countOf 107 = .ok (.iconst 1, 1) := by decide +kernel
theorem dX7_countOf_108 : decode cX7_countOf 108 = .ok (.invokevirtual 190, 3) := by decide +kernel
theorem dX7_countOf_111 : decode cX7_countOf 111 = .ok (.ireturn, 1) := by decide +kernel
theorem dX7_countOf_112 : decode cX7_countOf 112 = .ok (.aload_n 0, 1) := by decide +kernel
theorem dX7_countOf_113 : decode cX7_countOf 113 = .ok (.getfield 40, 3) := by decide +kernel
theorem dX7_countOf_116 : decode cX7_countOf 116 = .ok (.getfield 193, 3) := by decide +kernel
theorem dX7_countOf_119 : decode cX7_countOf 119 = .ok (.ireturn, 1) := by decide +kernel
theorem dX7_countOf_120 : decode cX7_countOf 120 = .ok (.aload_n 0, 1) := by decide +kernel
theorem dX7_countOf_121 : decode cX7_countOf 121 = .ok (.getfield 40, 3) := by decide +kernel
theorem dX7_countOf_124 : decode cX7_countOf 124 = .ok (.iconst 0, 1) := by decide +kernel
theorem dX7_countOf_125 : decode cX7_countOf 125 = .ok (.invokevirtual 196, 3) := by decide +kernel
theorem dX7_countOf_128 : decode cX7_countOf 128 = .ok (.ireturn, 1) := by decide +kernel
theorem dX7_countOf_129 : decode cX7_countOf 129 = .ok (.aload_n 0, 1) := by decide +kernel
theorem dX7_countOf_130 : decode cX7_countOf 130 = .ok (.getfield 40, 3) := by decide +kernel
theorem dX7_countOf_133 : decode cX7_countOf 133 = .ok (.iconst 1, 1) := by decide +kernel
theorem dX7_countOf_134 : decode cX7_countOf 134 = .ok (.invokevirtual 196, 3) := by decide +kernel
theorem dX7_countOf_137 : decode cX7_countOf 137 = .ok (.ireturn, 1) := by decide +kernel
theorem dX7_countOf_138 : decode cX7_countOf 138 = .ok (.aload_n 0, 1) := by decide +kernel
theorem dX7_countOf_139 : decode cX7_countOf 139 = .ok (.getfield 40, 3) := by decide +kernel
theorem dX7_countOf_142 : decode cX7_countOf 142 = .ok (.invokevirtual 199, 3) := by decide +kernel
theorem dX7_countOf_145 : decode cX7_countOf 145 = .ok (.ireturn, 1) := by decide +kernel
theorem dX7_countOf_146 : decode cX7_countOf 146 = .ok (.aload_n 0, 1) := by decide +kernel
theorem dX7_countOf_147 : decode cX7_countOf 147 = .ok (.getfield 10, 3) := by decide +kernel
theorem dX7_countOf_150 : decode cX7_countOf 150 = .ok (.getfield 51, 3) := by decide +kernel
theorem dX7_countOf_153 : decode cX7_countOf 153 = .ok (.ireturn, 1) := by decide +kernel
theorem dX7_factOf_0 : decode cX7_factOf 0 = .ok (.iload_n 2, 1) := by decide +kernel
theorem dX7_factOf_1 : decode cX7_factOf 1 = .ok (.tableswitch 83 0 4 #[35, 47, 59, 64, 73], 35) := by decide +kernel
theorem dX7_factOf_36 : decode cX7_factOf 36 = .ok (.aload_n 0, 1) := by decide +kernel
theorem dX7_factOf_37 : decode cX7_factOf 37 = .ok (.getfield 40, 3) := by decide +kernel
theorem dX7_factOf_40 : decode cX7_factOf 40 = .ok (.iload_n 1, 1) := by decide +kernel
theorem dX7_factOf_41 : decode cX7_factOf 41 = .ok (.invokevirtual 202, 3) := by decide +kernel
theorem dX7_factOf_44 : decode cX7_factOf 44 = .ok (.invokestatic 205, 3) := by decide +kernel
theorem dX7_factOf_47 : decode cX7_factOf 47 = .ok (.ireturn, 1) := by decide +kernel
theorem dX7_factOf_48 : decode cX7_factOf 48 = .ok (.aload_n 0, 1) := by decide +kernel
theorem dX7_factOf_49 : decode cX7_factOf 49 = .ok (.getfield 40, 3) := by decide +kernel
theorem dX7_factOf_52 : decode cX7_factOf 52 = .ok (.iload_n 1, 1) := by decide +kernel
theorem dX7_factOf_53 : decode cX7_factOf 53 = .ok (.invokevirtual 202, 3) := by decide +kernel
theorem dX7_factOf_56 : decode cX7_factOf 56 = .ok (.invokestatic 208, 3) := by decide +kernel
theorem dX7_factOf_59 : decode cX7_factOf 59 = .ok (.ireturn, 1) := by decide +kernel
theorem dX7_factOf_60 : decode cX7_factOf 60 = .ok (.iload_n 1, 1) := by decide +kernel
theorem dX7_factOf_61 : decode cX7_factOf 61 = .ok (.invokestatic 211, 3) := by decide +kernel
theorem dX7_factOf_64 : decode cX7_factOf 64 = .ok (.ireturn, 1) := by decide +kernel
theorem dX7_factOf_65 : decode cX7_factOf 65 = .ok (.aload_n 0, 1) := by decide +kernel
theorem dX7_factOf_66 : decode cX7_factOf 66 = .ok (.getfield 40, 3) := by decide +kernel
theorem dX7_factOf_69 : decode cX7_factOf 69 = .ok (.iload_n 1, 1) := by decide +kernel
theorem dX7_factOf_70 : decode cX7_factOf 70 = .ok (.invokevirtual 214, 3) := by decide +kernel
theorem dX7_factOf_73 : decode cX7_factOf 73 = .ok (.ireturn, 1) := by decide +kernel
theorem dX7_factOf_74 : decode cX7_factOf 74 = .ok (.aload_n 0, 1) := by decide +kernel
theorem dX7_factOf_75 : decode cX7_factOf 75 = .ok (.getfield 40, 3) := by decide +kernel
theorem dX7_factOf_78 : decode cX7_factOf 78 = .ok (.iload_n 1, 1) := by decide +kernel
theorem dX7_factOf_79 : decode cX7_factOf 79 = .ok (.iconst 0, 1) := by decide +kernel
theorem dX7_factOf_80 : decode cX7_factOf 80 = .ok (.invokevirtual 217, 3) := by decide +kernel
theorem dX7_factOf_83 : decode cX7_factOf 83 = .ok (.ireturn, 1) := by decide +kernel
theorem dX7_factOf_84 : decode cX7_factOf 84 = .ok (.aload_n 0, 1) := by decide +kernel
theorem dX7_factOf_85 : decode cX7_factOf 85 = .ok (.getfield 40, 3) := by decide +kernel
theorem dX7_factOf_88 : decode cX7_factOf 88 = .ok (.iload_n 1, 1) := by decide +kernel
theorem dX7_factOf_89 : decode cX7_factOf 89 = .ok (.iconst 1, 1) := by decide +kernel
theorem dX7_factOf_90 : decode cX7_factOf 90 = .ok (.invokevirtual 217, 3) := by decide +kernel
theorem dX7_factOf_93 : decode cX7_factOf 93 = .ok (.ireturn, 1) := by decide +kernel
theorem dX7_placeOf_0 : decode cX7_placeOf 0 = .ok (.iload_n 0, 1) := by decide +kernel
theorem dX7_placeOf_1 : decode cX7_placeOf 1 = .ok (.ifCond .lt 19, 3) := by decide +kernel
theorem dX7_placeOf_4 : decode cX7_placeOf 4 = .ok (.iload_n 0, 1) := by decide +kernel
theorem dX7_placeOf_5 : decode cX7_placeOf 5 = .ok (.getstatic 220, 3) := by decide +kernel
theorem dX7_placeOf_8 : decode cX7_placeOf 8 = .ok (.arraylength, 1) := by decide +kernel
theorem dX7_placeOf_9 : decode cX7_placeOf 9 = .ok (.if_icmp .ge 11, 3) := by decide +kernel
theorem dX7_placeOf_12 : decode cX7_placeOf 12 = .ok (.getstatic 220, 3) := by decide +kernel
theorem dX7_placeOf_15 : decode cX7_placeOf 15 = .ok (.iload_n 0, 1) := by decide +kernel
theorem dX7_placeOf_16 : decode cX7_placeOf 16 = .ok (.iaload, 1) := by decide +kernel
theorem dX7_placeOf_17 : decode cX7_placeOf 17 = .ok (.goto 4, 3) := by decide +kernel
theorem dX7_placeOf_20 : decode cX7_placeOf 20 = .ok (.iconst (-1), 1) := by decide +kernel
theorem dX7_placeOf_21 : decode cX7_placeOf 21 = .ok (.ireturn, 1) := by decide +kernel
theorem dX7_cellOf_0 : decode cX7_cellOf 0 = .ok (.iload_n 0, 1) := by decide +kernel
theorem dX7_cellOf_1 : decode cX7_cellOf 1 = .ok (.ifCond .ge 5, 3) := by decide +kernel
theorem dX7_cellOf_4 : decode cX7_cellOf 4 = .ok (.iconst (-1), 1) := by decide +kernel
theorem dX7_cellOf_5 : decode cX7_cellOf 5 = .ok (.ireturn, 1) := by decide +kernel
theorem dX7_cellOf_6 : decode cX7_cellOf 6 = .ok (.iload_n 0, 1) := by decide +kernel
theorem dX7_cellOf_7 : decode cX7_cellOf 7 = .ok (.invokestatic 224, 3) := by decide +kernel
theorem dX7_cellOf_10 : decode cX7_cellOf 10 = .ok (.iconst 5, 1) := by decide +kernel
theorem dX7_cellOf_11 : decode cX7_cellOf 11 = .ok (.iadd, 1) := by decide +kernel
theorem dX7_cellOf_12 : decode cX7_cellOf 12 = .ok (.istore_n 1, 1) := by decide +kernel
theorem dX7_cellOf_13 : decode cX7_cellOf 13 = .ok (.iload_n 1, 1) := by decide +kernel
theorem dX7_cellOf_14 : decode cX7_cellOf 14 = .ok (.iload_n 0, 1) := by decide +kernel
theorem dX7_cellOf_15 : decode cX7_cellOf 15 = .ok (.invokestatic 227, 3) := by decide +kernel
theorem dX7_cellOf_18 : decode cX7_cellOf 18 = .ok (.iload_n 1, 1) := by decide +kernel
theorem dX7_cellOf_19 : decode cX7_cellOf 19 = .ok (.invokestatic 230, 3) := by decide +kernel
theorem dX7_cellOf_22 : decode cX7_cellOf 22 = .ok (.isub, 1) := by decide +kernel
theorem dX7_cellOf_23 : decode cX7_cellOf 23 = .ok (.iconst 1, 1) := by decide +kernel
theorem dX7_cellOf_24 : decode cX7_cellOf 24 = .ok (.iadd, 1) := by decide +kernel
theorem dX7_cellOf_25 : decode cX7_cellOf 25 = .ok (.invokestatic 104, 3) := by decide +kernel
theorem dX7_cellOf_28 : decode cX7_cellOf 28 = .ok (.ireturn, 1) := by decide +kernel
theorem dX7_lowest_0 : decode cX7_lowest 0 = .ok (.iload_n 0, 1) := by decide +kernel
theorem dX7_lowest_1 : decode cX7_lowest 1 = .ok (.iconst 5, 1) := by decide +kernel
theorem dX7_lowest_2 : decode cX7_lowest 2 = .ok (.if_icmp .ge 8, 3) := by decide +kernel
theorem dX7_lowest_5 : decode cX7_lowest 5 = .ok (.iload_n 0, 1) := by decide +kernel
theorem dX7_lowest_6 : decode cX7_lowest 6 = .ok (.ineg, 1) := by decide +kernel
theorem dX7_lowest_7 : decode cX7_lowest 7 = .ok (.goto 5, 3) := by decide +kernel
theorem dX7_lowest_10 : decode cX7_lowest 10 = .ok (.bipush (-5), 2) := by decide +kernel
theorem dX7_lowest_12 : decode cX7_lowest 12 = .ok (.ireturn, 1) := by decide +kernel
theorem dX7_columnSize_0 : decode cX7_columnSize 0 = .ok (.iload_n 0, 1) := by decide +kernel
theorem dX7_columnSize_1 : decode cX7_columnSize 1 = .ok (.iconst 5, 1) := by decide +kernel
theorem dX7_columnSize_2 : decode cX7_columnSize 2 = .ok (.if_icmp .ge 10, 3) := by decide +kernel
theorem dX7_columnSize_5 : decode cX7_columnSize 5 = .ok (.iload_n 0, 1) := by decide +kernel
theorem dX7_columnSize_6 : decode cX7_columnSize 6 = .ok (.bipush 6, 2) := by decide +kernel
theorem dX7_columnSize_8 : decode cX7_columnSize 8 = .ok (.iadd, 1) := by decide +kernel
theorem dX7_columnSize_9 : decode cX7_columnSize 9 = .ok (.goto 7, 3) := by decide +kernel
theorem dX7_columnSize_12 : decode cX7_columnSize 12 = .ok (.bipush 16, 2) := by decide +kernel
theorem dX7_columnSize_14 : decode cX7_columnSize 14 = .ok (.iload_n 0, 1) := by decide +kernel
theorem dX7_columnSize_15 : decode cX7_columnSize 15 = .ok (.isub, 1) := by decide +kernel
theorem dX7_columnSize_16 : decode cX7_columnSize 16 = .ok (.ireturn, 1) := by decide +kernel
theorem dX7_cellNamed_0 : decode cX7_cellNamed 0 = .ok (.iload_n 0, 1) := by decide +kernel
theorem dX7_cellNamed_1 : decode cX7_cellNamed 1 = .ok (.ifCond .lt 11, 3) := by decide +kernel
theorem dX7_cellNamed_4 : decode cX7_cellNamed 4 = .ok (.iload_n 0, 1) := by decide +kernel
theorem dX7_cellNamed_5 : decode cX7_cellNamed 5 = .ok (.getstatic 233, 3) := by decide +kernel
theorem dX7_cellNamed_8 : decode cX7_cellNamed 8 = .ok (.arraylength, 1) := by decide +kernel
theorem dX7_cellNamed_9 : decode cX7_cellNamed 9 = .ok (.if_icmp .lt 5, 3) := by decide +kernel
theorem dX7_cellNamed_12 : decode cX7_cellNamed 12 = .ok (.iconst (-1), 1) := by decide +kernel
theorem dX7_cellNamed_13 : decode cX7_cellNamed 13 = .ok (.ireturn, 1) := by decide +kernel
theorem dX7_cellNamed_14 : decode cX7_cellNamed 14 = .ok (.iload_n 1, 1) := by decide +kernel
theorem dX7_cellNamed_15 : decode cX7_cellNamed 15 = .ok (.iconst 1, 1) := by decide +kernel
theorem dX7_cellNamed_16 : decode cX7_cellNamed 16 = .ok (.if_icmp .lt 11, 3) := by decide +kernel
theorem dX7_cellNamed_19 : decode cX7_cellNamed 19 = .ok (.iload_n 1, 1) := by decide +kernel
theorem dX7_cellNamed_20 : decode cX7_cellNamed 20 = .ok (.iload_n 0, 1) := by decide +kernel
theorem dX7_cellNamed_21 : decode cX7_cellNamed 21 = .ok (.invokestatic 236, 3) := by decide +kernel
theorem dX7_cellNamed_24 : decode cX7_cellNamed 24 = .ok (.if_icmp .le 7, 3) := by decide +kernel
theorem dX7_cellNamed_27 : decode cX7_cellNamed 27 = .ok (.iconst (-1), 1) := by decide +kernel
theorem dX7_cellNamed_28 : decode cX7_cellNamed 28 = .ok (.goto 12, 3) := by decide +kernel
theorem dX7_cellNamed_31 : decode cX7_cellNamed 31 = .ok (.getstatic 233, 3) := by decide +kernel
theorem dX7_cellNamed_34 : decode cX7_cellNamed 34 = .ok (.iload_n 0, 1) := by decide +kernel
theorem dX7_cellNamed_35 : decode cX7_cellNamed 35 = .ok (.iaload, 1) := by decide +kernel
theorem dX7_cellNamed_36 : decode cX7_cellNamed 36 = .ok (.iload_n 1, 1) := by decide +kernel
theorem dX7_cellNamed_37 : decode cX7_cellNamed 37 = .ok (.iadd, 1) := by decide +kernel
theorem dX7_cellNamed_38 : decode cX7_cellNamed 38 = .ok (.iconst 1, 1) := by decide +kernel
theorem dX7_cellNamed_39 : decode cX7_cellNamed 39 = .ok (.isub, 1) := by decide +kernel
theorem dX7_cellNamed_40 : decode cX7_cellNamed 40 = .ok (.ireturn, 1) := by decide +kernel
theorem dX7_colourOf_0 : decode cX7_colourOf 0 = .ok (.iload_n 0, 1) := by decide +kernel
theorem dX7_colourOf_1 : decode cX7_colourOf 1 = .ok (.invokestatic 116, 3) := by decide +kernel
theorem dX7_colourOf_4 : decode cX7_colourOf 4 = .ok (.istore_n 1, 1) := by decide +kernel
theorem dX7_colourOf_5 : decode cX7_colourOf 5 = .ok (.iload_n 1, 1) := by decide +kernel
theorem dX7_colourOf_6 : decode cX7_colourOf 6 = .ok (.invokestatic 224, 3) := by decide +kernel
theorem dX7_colourOf_9 : decode cX7_colourOf 9 = .ok (.iload_n 1, 1) := by decide +kernel
theorem dX7_colourOf_10 : decode cX7_colourOf 10 = .ok (.invokestatic 227, 3) := by decide +kernel
theorem dX7_colourOf_13 : decode cX7_colourOf 13 = .ok (.isub, 1) := by decide +kernel
theorem dX7_colourOf_14 : decode cX7_colourOf 14 = .ok (.bipush 30, 2) := by decide +kernel
theorem dX7_colourOf_16 : decode cX7_colourOf 16 = .ok (.iadd, 1) := by decide +kernel
theorem dX7_colourOf_17 : decode cX7_colourOf 17 = .ok (.iconst 3, 1) := by decide +kernel
theorem dX7_colourOf_18 : decode cX7_colourOf 18 = .ok (.irem, 1) := by decide +kernel
theorem dX7_colourOf_19 : decode cX7_colourOf 19 = .ok (.ireturn, 1) := by decide +kernel
theorem dX7_isCell_0 : decode cX7_isCell 0 = .ok (.iload_n 0, 1) := by decide +kernel
theorem dX7_isCell_1 : decode cX7_isCell 1 = .ok (.ifCond .lt 13, 3) := by decide +kernel
theorem dX7_isCell_4 : decode cX7_isCell 4 = .ok (.iload_n 0, 1) := by decide +kernel
theorem dX7_isCell_5 : decode cX7_isCell 5 = .ok (.bipush 91, 2) := by decide +kernel
theorem dX7_isCell_7 : decode cX7_isCell 7 = .ok (.if_icmp .ge 7, 3) := by decide +kernel
theorem dX7_isCell_10 : decode cX7_isCell 10 = .ok (.iconst 1, 1) := by decide +kernel
theorem dX7_isCell_11 : decode cX7_isCell 11 = .ok (.goto 4, 3) := by decide +kernel
theorem dX7_isCell_14 : decode cX7_isCell 14 = .ok (.iconst 0, 1) := by decide +kernel
theorem dX7_isCell_15 : decode cX7_isCell 15 = .ok (.ireturn, 1) := by decide +kernel
theorem dX7_valueOf_0 : decode cX7_valueOf 0 = .ok (.iload_n 0, 1) := by decide +kernel
theorem dX7_valueOf_1 : decode cX7_valueOf 1 = .ok (.iconst 1, 1) := by decide +kernel
theorem dX7_valueOf_2 : decode cX7_valueOf 2 = .ok (.if_icmp .ne 10, 3) := by decide +kernel
theorem dX7_valueOf_5 : decode cX7_valueOf 5 = .ok (.iload_n 1, 1) := by decide +kernel
theorem dX7_valueOf_6 : decode cX7_valueOf 6 = .ok (.bipush 8, 2) := by decide +kernel
theorem dX7_valueOf_8 : decode cX7_valueOf 8 = .ok (.iadd, 1) := by decide +kernel
theorem dX7_valueOf_9 : decode cX7_valueOf 9 = .ok (.goto 4, 3) := by decide +kernel
theorem dX7_valueOf_12 : decode cX7_valueOf 12 = .ok (.iload_n 1, 1) := by decide +kernel
theorem dX7_valueOf_13 : decode cX7_valueOf 13 = .ok (.ireturn, 1) := by decide +kernel
theorem dX7_kindOf_0 : decode cX7_kindOf 0 = .ok (.iload_n 0, 1) := by decide +kernel
theorem dX7_kindOf_1 : decode cX7_kindOf 1 = .ok (.ifCond .gt 7, 3) := by decide +kernel
theorem dX7_kindOf_4 : decode cX7_kindOf 4 = .ok (.iconst 0, 1) := by decide +kernel
theorem dX7_kindOf_5 : decode cX7_kindOf 5 = .ok (.goto 7, 3) := by decide +kernel
theorem dX7_kindOf_8 : decode cX7_kindOf 8 = .ok (.iload_n 0, 1) := by decide +kernel
theorem dX7_kindOf_9 : decode cX7_kindOf 9 = .ok (.bipush 7, 2) := by decide +kernel
theorem dX7_kindOf_11 : decode cX7_kindOf 11 = .ok (.iand, 1) := by decide +kernel
theorem dX7_kindOf_12 : decode cX7_kindOf 12 = .ok (.ireturn, 1) := by decide +kernel
theorem dX7_sideOf_0 : decode cX7_sideOf 0 = .ok (.iload_n 0, 1) := by decide +kernel
theorem dX7_sideOf_1 : decode cX7_sideOf 1 = .ok (.ifCond .gt 5, 3) := by decide +kernel
theorem dX7_sideOf_4 : decode cX7_sideOf 4 = .ok (.iconst (-1), 1) := by decide +kernel
theorem dX7_sideOf_5 : decode cX7_sideOf 5 = .ok (.ireturn, 1) := by decide +kernel
theorem dX7_sideOf_6 : decode cX7_sideOf 6 = .ok (.iload_n 0, 1) := by decide +kernel
theorem dX7_sideOf_7 : decode cX7_sideOf 7 = .ok (.bipush 8, 2) := by decide +kernel
theorem dX7_sideOf_9 : decode cX7_sideOf 9 = .ok (.if_icmp .ge 7, 3) := by decide +kernel
theorem dX7_sideOf_12 : decode cX7_sideOf 12 = .ok (.iconst 0, 1) := by decide +kernel
theorem dX7_sideOf_13 : decode cX7_sideOf 13 = .ok (.goto 4, 3) := by decide +kernel
theorem dX7_sideOf_16 : decode cX7_sideOf 16 = .ok (.iconst 1, 1) := by decide +kernel
theorem dX7_sideOf_17 : decode cX7_sideOf 17 = .ok (.ireturn, 1) := by decide +kernel
theorem dX7_worthOfKind_0 : decode cX7_worthOfKind 0 = .ok (.iload_n 0, 1) := by decide +kernel
theorem dX7_worthOfKind_1 : decode cX7_worthOfKind 1 = .ok (.ifCond .lt 19, 3) := by decide +kernel
theorem dX7_worthOfKind_4 : decode cX7_worthOfKind 4 = .ok (.iload_n 0, 1) := by decide +kernel
theorem dX7_worthOfKind_5 : decode cX7_worthOfKind 5 = .ok (.getstatic 239, 3) := by decide +kernel
theorem dX7_worthOfKind_8 : decode cX7_worthOfKind 8 = .ok (.arraylength, 1) := by decide +kernel
theorem dX7_worthOfKind_9 : decode cX7_worthOfKind 9 = .ok (.if_icmp .ge 11, 3) := by decide +kernel
theorem dX7_worthOfKind_12 : decode cX7_worthOfKind 12 = .ok (.getstatic 239, 3) := by decide +kernel
theorem dX7_worthOfKind_15 : decode cX7_worthOfKind 15 = .ok (.iload_n 0, 1) := by decide +kernel
theorem dX7_worthOfKind_16 : decode cX7_worthOfKind 16 = .ok (.iaload, 1) := by decide +kernel
theorem dX7_worthOfKind_17 : decode cX7_worthOfKind 17 = .ok (.goto 4, 3) := by decide +kernel
theorem dX7_worthOfKind_20 : decode cX7_worthOfKind 20 = .ok (.iconst 0, 1) := by decide +kernel
theorem dX7_worthOfKind_21 : decode cX7_worthOfKind 21 = .ok (.ireturn, 1) := by decide +kernel
theorem dX7_forward_0 : decode cX7_forward 0 = .ok (.iload_n 0, 1) := by decide +kernel
theorem dX7_forward_1 : decode cX7_forward 1 = .ok (.ifCond .ne 7, 3) := by decide +kernel
theorem dX7_forward_4 : decode cX7_forward 4 = .ok (.iconst 1, 1) := by decide +kernel
theorem dX7_forward_5 : decode cX7_forward 5 = .ok (.goto 4, 3) := by decide +kernel
theorem dX7_forward_8 : decode cX7_forward 8 = .ok (.iconst (-1), 1) := by decide +kernel
theorem dX7_forward_9 : decode cX7_forward 9 = .ok (.ireturn, 1) := by decide +kernel
theorem dX7_xOf_0 : decode cX7_xOf 0 = .ok (.iload_n 0, 1) := by decide +kernel
theorem dX7_xOf_1 : decode cX7_xOf 1 = .ok (.bipush 17, 2) := by decide +kernel
theorem dX7_xOf_3 : decode cX7_xOf 3 = .ok (.idiv, 1) := by decide +kernel
theorem dX7_xOf_4 : decode cX7_xOf 4 = .ok (.bipush 8, 2) := by decide +kernel
theorem dX7_xOf_6 : decode cX7_xOf 6 = .ok (.isub, 1) := by decide +kernel
theorem dX7_xOf_7 : decode cX7_xOf 7 = .ok (.ireturn, 1) := by decide +kernel
theorem dX7_yOf_0 : decode cX7_yOf 0 = .ok (.iload_n 0, 1) := by decide +kernel
theorem dX7_yOf_1 : decode cX7_yOf 1 = .ok (.bipush 17, 2) := by decide +kernel
theorem dX7_yOf_3 : decode cX7_yOf 3 = .ok (.irem, 1) := by decide +kernel
theorem dX7_yOf_4 : decode cX7_yOf 4 = .ok (.bipush 8, 2) := by decide +kernel
theorem dX7_yOf_6 : decode cX7_yOf 6 = .ok (.isub, 1) := by decide +kernel
theorem dX7_yOf_7 : decode cX7_yOf 7 = .ok (.ireturn, 1) := by decide +kernel
theorem dX7_isFirstPlace_0 : decode cX7_isFirstPlace 0 = .ok (.iload_n 1, 1) := by decide +kernel
theorem dX7_isFirstPlace_1 : decode cX7_isFirstPlace 1 = .ok (.ifCond .ne 7, 3) := by decide +kernel
theorem dX7_isFirstPlace_4 : decode cX7_isFirstPlace 4 = .ok (.iconst 1, 1) := by decide +kernel
theorem dX7_isFirstPlace_5 : decode cX7_isFirstPlace 5 = .ok (.goto 4, 3) := by decide +kernel
theorem dX7_isFirstPlace_8 : decode cX7_isFirstPlace 8 = .ok (.iconst (-1), 1) := by decide +kernel
theorem dX7_isFirstPlace_9 : decode cX7_isFirstPlace 9 = .ok (.istore_n 2, 1) := by decide +kernel
theorem dX7_isFirstPlace_10 : decode cX7_isFirstPlace 10 = .ok (.iload_n 0, 1) := by decide +kernel
theorem dX7_isFirstPlace_11 : decode cX7_isFirstPlace 11 = .ok (.bipush 17, 2) := by decide +kernel
theorem dX7_isFirstPlace_13 : decode cX7_isFirstPlace 13 = .ok (.idiv, 1) := by decide +kernel
theorem dX7_isFirstPlace_14 : decode cX7_isFirstPlace 14 = .ok (.bipush 8, 2) := by decide +kernel
theorem dX7_isFirstPlace_16 : decode cX7_isFirstPlace 16 = .ok (.isub, 1) := by decide +kernel
theorem dX7_isFirstPlace_17 : decode cX7_isFirstPlace 17 = .ok (.iload_n 2, 1) := by decide +kernel
theorem dX7_isFirstPlace_18 : decode cX7_isFirstPlace 18 = .ok (.imul, 1) := by decide +kernel
theorem dX7_isFirstPlace_19 : decode cX7_isFirstPlace 19 = .ok (.istore_n 3, 1) := by decide +kernel
theorem dX7_isFirstPlace_20 : decode cX7_isFirstPlace 20 = .ok (.iload_n 0, 1) := by decide +kernel
theorem dX7_isFirstPlace_21 : decode cX7_isFirstPlace 21 = .ok (.bipush 17, 2) := by decide +kernel
theorem dX7_isFirstPlace_23 : decode cX7_isFirstPlace 23 = .ok (.irem, 1) := by decide +kernel
theorem dX7_isFirstPlace_24 : decode cX7_isFirstPlace 24 = .ok (.bipush 8, 2) := by decide +kernel
theorem dX7_isFirstPlace_26 : decode cX7_isFirstPlace 26 = .ok (.isub, 1) := by decide +kernel
theorem dX7_isFirstPlace_27 : decode cX7_isFirstPlace 27 = .ok (.iload_n 2, 1) := by decide +kernel
theorem dX7_isFirstPlace_28 : decode cX7_isFirstPlace 28 = .ok (.imul, 1) := by decide +kernel
theorem dX7_isFirstPlace_29 : decode cX7_isFirstPlace 29 = .ok (.istore 4, 2) := by decide +kernel
theorem dX7_isFirstPlace_31 : decode cX7_isFirstPlace 31 = .ok (.iload_n 3, 1) := by decide +kernel
theorem dX7_isFirstPlace_32 : decode cX7_isFirstPlace 32 = .ok (.bipush (-4), 2) := by decide +kernel
theorem dX7_isFirstPlace_34 : decode cX7_isFirstPlace 34 = .ok (.if_icmp .lt 28, 3) := by decide +kernel
theorem dX7_isFirstPlace_37 : decode cX7_isFirstPlace 37 = .ok (.iload_n 3, 1) := by decide +kernel
theorem dX7_isFirstPlace_38 : decode cX7_isFirstPlace 38 = .ok (.iconst 4, 1) := by decide +kernel
theorem dX7_isFirstPlace_39 : decode cX7_isFirstPlace 39 = .ok (.if_icmp .gt 23, 3) := by decide +kernel
theorem dX7_isFirstPlace_42 : decode cX7_isFirstPlace 42 = .ok (.iload 4, 2) := by decide +kernel
theorem dX7_isFirstPlace_44 : decode cX7_isFirstPlace 44 = .ok (.iload_n 3, 1) := by decide +kernel
theorem dX7_isFirstPlace_45 : decode cX7_isFirstPlace 45 = .ok (.ifCond .le 9, 3) := by decide +kernel
theorem dX7_isFirstPlace_48 : decode cX7_isFirstPlace 48 = .ok (.iconst (-1), 1) := by decide +kernel
theorem dX7_isFirstPlace_49 : decode cX7_isFirstPlace 49 = .ok (.iload_n 3, 1) := by decide +kernel
theorem dX7_isFirstPlace_50 : decode cX7_isFirstPlace 50 = .ok (.isub, 1) := by decide +kernel
theorem dX7_isFirstPlace_51 : decode cX7_isFirstPlace 51 = .ok (.goto 4, 3) := by decide +kernel
theorem dX7_isFirstPlace_54 : decode cX7_isFirstPlace 54 = .ok (.iconst (-1), 1) := by decide +kernel
theorem dX7_isFirstPlace_55 : decode cX7_isFirstPlace 55 = .ok (.if_icmp .ne 7, 3) := by decide +kernel
theorem dX7_isFirstPlace_58 : decode cX7_isFirstPlace 58 = .ok (.iconst 1, 1) := by decide +kernel
theorem dX7_isFirstPlace_59 : decode cX7_isFirstPlace 59 = .ok (.goto 4, 3) := by decide +kernel
theorem dX7_isFirstPlace_62 : decode cX7_isFirstPlace 62 = .ok (.iconst 0, 1) := by decide +kernel
theorem dX7_isFirstPlace_63 : decode cX7_isFirstPlace 63 = .ok (.ireturn, 1) := by decide +kernel
theorem dX7_stepsOf_0 : decode cX7_stepsOf 0 = .ok (.iload_n 0, 1) := by decide +kernel
theorem dX7_stepsOf_1 : decode cX7_stepsOf 1 = .ok (.iconst 5, 1) := by decide +kernel
theorem dX7_stepsOf_2 : decode cX7_stepsOf 2 = .ok (.if_icmp .ne 9, 3) := by decide +kernel
theorem dX7_stepsOf_5 : decode cX7_stepsOf 5 = .ok (.getstatic 242, 3) := by decide +kernel
theorem dX7_stepsOf_8 : decode cX7_stepsOf 8 = .ok (.goto 6, 3) := by decide +kernel
theorem dX7_stepsOf_11 : decode cX7_stepsOf 11 = .ok (.getstatic 245, 3) := by decide +kernel
theorem dX7_stepsOf_14 : decode cX7_stepsOf 14 = .ok (.areturn, 1) := by decide +kernel
theorem dX7_firstStepOf_0 : decode cX7_firstStepOf 0 = .ok (.iload_n 0, 1) := by decide +kernel
theorem dX7_firstStepOf_1 : decode cX7_firstStepOf 1 = .ok (.iconst 4, 1) := by decide +kernel
theorem dX7_firstStepOf_2 : decode cX7_firstStepOf 2 = .ok (.if_icmp .ne 8, 3) := by decide +kernel
theorem dX7_firstStepOf_5 : decode cX7_firstStepOf 5 = .ok (.bipush 6, 2) := by decide +kernel
theorem dX7_firstStepOf_7 : decode cX7_firstStepOf 7 = .ok (.goto 4, 3) := by decide +kernel
theorem dX7_firstStepOf_10 : decode cX7_firstStepOf 10 = .ok (.iconst 0, 1) := by decide +kernel
theorem dX7_firstStepOf_11 : decode cX7_firstStepOf 11 = .ok (.ireturn, 1) := by decide +kernel
theorem dX7_lastStepOf_0 : decode cX7_lastStepOf 0 = .ok (.iload_n 0, 1) := by decide +kernel
theorem dX7_lastStepOf_1 : decode cX7_lastStepOf 1 = .ok (.iconst 3, 1) := by decide +kernel
theorem dX7_lastStepOf_2 : decode cX7_lastStepOf 2 = .ok (.if_icmp .ne 8, 3) := by decide +kernel
theorem dX7_lastStepOf_5 : decode cX7_lastStepOf 5 = .ok (.bipush 6, 2) := by decide +kernel
theorem dX7_lastStepOf_7 : decode cX7_lastStepOf 7 = .ok (.goto 7, 3) := by decide +kernel
theorem dX7_lastStepOf_10 : decode cX7_lastStepOf 10 = .ok (.getstatic 245, 3) := by decide +kernel
theorem dX7_lastStepOf_13 : decode cX7_lastStepOf 13 = .ok (.arraylength, 1) := by decide +kernel
theorem dX7_lastStepOf_14 : decode cX7_lastStepOf 14 = .ok (.ireturn, 1) := by decide +kernel
theorem dX7_goesBy_0 : decode cX7_goesBy 0 = .ok (.iload_n 0, 1) := by decide +kernel
theorem dX7_goesBy_1 : decode cX7_goesBy 1 = .ok (.iconst 2, 1) := by decide +kernel
theorem dX7_goesBy_2 : decode cX7_goesBy 2 = .ok (.if_icmp .eq 27, 3) := by decide +kernel
theorem dX7_goesBy_5 : decode cX7_goesBy 5 = .ok (.iload_n 0, 1) := by decide +kernel
theorem dX7_goesBy_6 : decode cX7_goesBy 6 = .ok (.iload_n 1, 1) := by decide +kernel
theorem dX7_goesBy_7 : decode cX7_goesBy 7 = .ok (.bipush 6, 2) := by decide +kernel
theorem dX7_goesBy_9 : decode cX7_goesBy 9 = .ok (.if_icmp .ge 7, 3) := by decide +kernel
theorem dX7_goesBy_12 : decode cX7_goesBy 12 = .ok (.iconst 3, 1) := by decide +kernel
theorem dX7_goesBy_13 : decode cX7_goesBy 13 = .ok (.goto 4, 3) := by decide +kernel
theorem dX7_goesBy_16 : decode cX7_goesBy 16 = .ok (.iconst 4, 1) := by decide +kernel
theorem dX7_goesBy_17 : decode cX7_goesBy 17 = .ok (.if_icmp .eq 12, 3) := by decide +kernel
theorem dX7_goesBy_20 : decode cX7_goesBy 20 = .ok (.iload_n 0, 1) := by decide +kernel
theorem dX7_goesBy_21 : decode cX7_goesBy 21 = .ok (.iconst 1, 1) := by decide +kernel
theorem dX7_goesBy_22 : decode cX7_goesBy 22 = .ok (.if_icmp .ne 11, 3) := by decide +kernel
theorem dX7_goesBy_25 : decode cX7_goesBy 25 = .ok (.iload_n 2, 1) := by decide +kernel
theorem dX7_goesBy_26 : decode cX7_goesBy 26 = .ok (.ifCond .eq 7, 3) := by decide +kernel
theorem dX7_goesBy_29 : decode cX7_goesBy 29 = .ok (.iconst 1, 1) := by decide +kernel
theorem dX7_goesBy_30 : decode cX7_goesBy 30 = .ok (.goto 4, 3) := by decide +kernel
theorem dX7_goesBy_33 : decode cX7_goesBy 33 = .ok (.iconst 0, 1) := by decide +kernel
theorem dX7_goesBy_34 : decode cX7_goesBy 34 = .ok (.ireturn, 1) := by decide +kernel
theorem dX7_reachOf_0 : decode cX7_reachOf 0 = .ok (.iload_n 0, 1) := by decide +kernel
theorem dX7_reachOf_1 : decode cX7_reachOf 1 = .ok (.iconst 1, 1) := by decide +kernel
theorem dX7_reachOf_2 : decode cX7_reachOf 2 = .ok (.if_icmp .eq 8, 3) := by decide +kernel
theorem dX7_reachOf_5 : decode cX7_reachOf 5 = .ok (.iload_n 0, 1) := by decide +kernel
theorem dX7_reachOf_6 : decode cX7_reachOf 6 = .ok (.iconst 5, 1) := by decide +kernel
theorem dX7_reachOf_7 : decode cX7_reachOf 7 = .ok (.if_icmp .ne 7, 3) := by decide +kernel
theorem dX7_reachOf_10 : decode cX7_reachOf 10 = .ok (.iconst 1, 1) := by decide +kernel
theorem dX7_reachOf_11 : decode cX7_reachOf 11 = .ok (.goto 5, 3) := by decide +kernel
theorem dX7_reachOf_14 : decode cX7_reachOf 14 = .ok (.bipush 17, 2) := by decide +kernel
theorem dX7_reachOf_16 : decode cX7_reachOf 16 = .ok (.ireturn, 1) := by decide +kernel
theorem dX8_init_0 : decode cX8_init 0 = .ok (.aload_n 0, 1) := by decide +kernel
theorem dX8_init_1 : decode cX8_init 1 = .ok (.invokespecial 1, 3) := by decide +kernel
theorem dX8_init_4 : decode cX8_init 4 = .ok (.aload_n 0, 1) := by decide +kernel
theorem dX8_init_5 : decode cX8_init 5 = .ok (.bipush 121, 2) := by decide +kernel
theorem dX8_init_7 : decode cX8_init 7 = .ok (.newarray .int, 2) := by decide +kernel
theorem dX8_init_9 : decode cX8_init 9 = .ok (.putfield 7, 3) := by decide +kernel
theorem dX8_init_12 : decode cX8_init 12 = .ok (.aload_n 0, 1) := by decide +kernel
theorem dX8_init_13 : decode cX8_init 13 = .ok (.iconst (-1), 1) := by decide +kernel
theorem dX8_init_14 : decode cX8_init 14 = .ok (.putfield 13, 3) := by decide +kernel
theorem dX8_init_17 : decode cX8_init 17 = .ok (.iconst 0, 1) := by decide +kernel
theorem dX8_init_18 : decode cX8_init 18 = .ok (.istore_n 1, 1) := by decide +kernel
theorem dX8_init_19 : decode cX8_init 19 = .ok (.iload_n 1, 1) := by decide +kernel
theorem dX8_init_20 : decode cX8_init 20 = .ok (.bipush 121, 2) := by decide +kernel
theorem dX8_init_22 : decode cX8_init 22 = .ok (.if_icmp .ge 39, 3) := by decide +kernel
theorem dX8_init_25 : decode cX8_init 25 = .ok (.aload_n 0, 1) := by decide +kernel
theorem dX8_init_26 : decode cX8_init 26 = .ok (.getfield 7, 3) := by decide +kernel
theorem dX8_init_29 : decode cX8_init 29 = .ok (.iload_n 1, 1) := by decide +kernel
theorem dX8_init_30 : decode cX8_init 30 = .ok (.iload_n 1, 1) := by decide +kernel
theorem dX8_init_31 : decode cX8_init 31 = .ok (.bipush 11, 2) := by decide +kernel
theorem dX8_init_33 : decode cX8_init 33 = .ok (.idiv, 1) := by decide +kernel
theorem dX8_init_34 : decode cX8_init 34 = .ok (.iconst 5, 1) := by decide +kernel
theorem dX8_init_35 : decode cX8_init 35 = .ok (.isub, 1) := by decide +kernel
theorem dX8_init_36 : decode cX8_init 36 = .ok (.iload_n 1, 1) := by decide +kernel
theorem dX8_init_37 : decode cX8_init 37 = .ok (.bipush 11, 2) := by decide +kernel
theorem dX8_init_39 : decode cX8_init 39 = .ok (.irem, 1) := by decide +kernel
theorem dX8_init_40 : decode cX8_init 40 = .ok (.iconst 5, 1) := by decide +kernel
theorem dX8_init_41 : decode cX8_init 41 = .ok (.isub, 1) := by decide +kernel
theorem dX8_init_42 : decode cX8_init 42 = .ok (.invokestatic 17, 3) := by decide +kernel
theorem dX8_init_45 : decode cX8_init 45 = .ok (.ifCond .eq 7, 3) := by decide +kernel
theorem dX8_init_48 : decode cX8_init 48 = .ok (.iconst 0, 1) := by decide +kernel
theorem dX8_init_49 : decode cX8_init 49 = .ok (.goto 5, 3) := by decide +kernel
theorem dX8_init_52 : decode cX8_init 52 = .ok (.bipush 99, 2) := by decide +kernel
theorem dX8_init_54 : decode cX8_init 54 = .ok (.iastore, 1) := by decide +kernel
theorem dX8_init_55 : decode cX8_init 55 = .ok (.iinc 1 1, 3) := by decide +kernel
theorem dX8_init_58 : decode cX8_init 58 = .ok (.goto (-39), 3) := by decide +kernel
theorem dX8_init_61 : decode cX8_init 61 = .ok (.return_, 1) := by decide +kernel
theorem dX8_isOn_0 : decode cX8_isOn 0 = .ok (.iload_n 0, 1) := by decide +kernel
theorem dX8_isOn_1 : decode cX8_isOn 1 = .ok (.invokestatic 21, 3) := by decide +kernel
theorem dX8_isOn_4 : decode cX8_isOn 4 = .ok (.iconst 5, 1) := by decide +kernel
theorem dX8_isOn_5 : decode cX8_isOn 5 = .ok (.if_icmp .gt 25, 3) := by decide +kernel
theorem dX8_isOn_8 : decode cX8_isOn 8 = .ok (.iload_n 1, 1) := by decide +kernel
theorem dX8_isOn_9 : decode cX8_isOn 9 = .ok (.invokestatic 21, 3) := by decide +kernel
theorem dX8_isOn_12 : decode cX8_isOn 12 = .ok (.iconst 5, 1) := by decide +kernel
theorem dX8_isOn_13 : decode cX8_isOn 13 = .ok (.if_icmp .gt 17, 3) := by decide +kernel
theorem dX8_isOn_16 : decode cX8_isOn 16 = .ok (.iload_n 0, 1) := by decide +kernel
theorem dX8_isOn_17 : decode cX8_isOn 17 = .ok (.iload_n 1, 1) := by decide +kernel
theorem dX8_isOn_18 : decode cX8_isOn 18 = .ok (.iadd, 1) := by decide +kernel
theorem dX8_isOn_19 : decode cX8_isOn 19 = .ok (.invokestatic 21, 3) := by decide +kernel
theorem dX8_isOn_22 : decode cX8_isOn 22 = .ok (.iconst 5, 1) := by decide +kernel
theorem dX8_isOn_23 : decode cX8_isOn 23 = .ok (.if_icmp .gt 7, 3) := by decide +kernel
theorem dX8_isOn_26 : decode cX8_isOn 26 = .ok (.iconst 1, 1) := by decide +kernel
theorem dX8_isOn_27 : decode cX8_isOn 27 = .ok (.goto 4, 3) := by decide +kernel
theorem dX8_isOn_30 : decode cX8_isOn 30 = .ok (.iconst 0, 1) := by decide +kernel
theorem dX8_isOn_31 : decode cX8_isOn 31 = .ok (.ireturn, 1) := by decide +kernel
theorem dX8_copy_0 : decode cX8_copy 0 = .ok (.new 8, 3) := by decide +kernel
theorem dX8_copy_3 : decode cX8_copy 3 = .ok (.dup, 1) := by decide +kernel
theorem dX8_copy_4 : decode cX8_copy 4 = .ok (.invokespecial 27, 3) := by decide +kernel
theorem dX8_copy_7 : decode cX8_copy 7 = .ok (.astore_n 1, 1) := by decide +kernel
theorem dX8_copy_8 : decode cX8_copy 8 = .ok (.iconst 0, 1) := by decide +kernel
theorem dX8_copy_9 : decode cX8_copy 9 = .ok (.istore_n 2, 1) := by decide +kernel
theorem dX8_copy_10 : decode cX8_copy 10 = .ok (.iload_n 2, 1) := by decide +kernel
theorem dX8_copy_11 : decode cX8_copy 11 = .ok (.bipush 121, 2) := by decide +kernel
theorem dX8_copy_13 : decode cX8_copy 13 = .ok (.if_icmp .ge 21, 3) := by decide +kernel
theorem dX8_copy_16 : decode cX8_copy 16 = .ok (.aload_n 1, 1) := by decide +kernel
theorem dX8_copy_17 : decode cX8_copy 17 = .ok (.getfield 7, 3) := by decide +kernel
theorem dX8_copy_20 : decode cX8_copy 20 = .ok (.iload_n 2, 1) := by decide +kernel
theorem dX8_copy_21 : decode cX8_copy 21 = .ok (.aload_n 0, 1) := by decide +kernel
theorem dX8_copy_22 : decode cX8_copy 22 = .ok (.getfield 7, 3) := by decide +kernel
theorem dX8_copy_25 : decode cX8_copy 25 = .ok (.iload_n 2, 1) := by decide +kernel
theorem dX8_copy_26 : decode cX8_copy 26 = .ok (.iaload, 1) := by decide +kernel
theorem dX8_copy_27 : decode cX8_copy 27 = .ok (.iastore, 1) := by decide +kernel
theorem dX8_copy_28 : decode cX8_copy 28 = .ok (.iinc 2 1, 3) := by decide +kernel
theorem dX8_copy_31 : decode cX8_copy 31 = .ok (.goto (-21), 3) := by decide +kernel
theorem dX8_copy_34 : decode cX8_copy 34 = .ok (.aload_n 1, 1) := by decide +kernel
theorem dX8_copy_35 : decode cX8_copy 35 = .ok (.aload_n 0, 1) := by decide +kernel
theorem dX8_copy_36 : decode cX8_copy 36 = .ok (.getfield 28, 3) := by decide +kernel
theorem dX8_copy_39 : decode cX8_copy 39 = .ok (.putfield 28, 3) := by decide +kernel
theorem dX8_copy_42 : decode cX8_copy 42 = .ok (.aload_n 1, 1) := by decide +kernel
theorem dX8_copy_43 : decode cX8_copy 43 = .ok (.aload_n 0, 1) := by decide +kernel
theorem dX8_copy_44 : decode cX8_copy 44 = .ok (.getfield 13, 3) := by decide +kernel
theorem dX8_copy_47 : decode cX8_copy 47 = .ok (.putfield 13, 3) := by decide +kernel
theorem dX8_copy_50 : decode cX8_copy 50 = .ok (.aload_n 1, 1) := by decide +kernel
theorem dX8_copy_51 : decode cX8_copy 51 = .ok (.aload_n 0, 1) := by decide +kernel
theorem dX8_copy_52 : decode cX8_copy 52 = .ok (.getfield 31, 3) := by decide +kernel
theorem dX8_copy_55 : decode cX8_copy 55 = .ok (.putfield 31, 3) := by decide +kernel
theorem dX8_copy_58 : decode cX8_copy 58 = .ok (.aload_n 1, 1) := by decide +kernel
theorem dX8_copy_59 : decode cX8_copy 59 = .ok (.aload_n 0, 1) := by decide +kernel
theorem dX8_copy_60 : decode cX8_copy 60 = .ok (.getfield 34, 3) := by decide +kernel
theorem dX8_copy_63 : decode cX8_copy 63 = .ok (.putfield 34, 3) := by decide +kernel
theorem dX8_copy_66 : decode cX8_copy 66 = .ok (.aload_n 1, 1) := by decide +kernel
theorem dX8_copy_67 : decode cX8_copy 67 = .ok (.areturn, 1) := by decide +kernel
theorem dX8_placeOf_0 : decode cX8_placeOf 0 = .ok (.iconst 0, 1) := by decide +kernel
theorem dX8_placeOf_1 : decode cX8_placeOf 1 = .ok (.istore_n 1, 1) := by decide +kernel
theorem dX8_placeOf_2 : decode cX8_placeOf 2 = .ok (.iload_n 0, 1) := by decide +kernel
theorem dX8_placeOf_3 : decode cX8_placeOf 3 = .ok (.istore_n 2, 1) := by decide +kernel
theorem dX8_placeOf_4 : decode cX8_placeOf 4 = .ok (.iload_n 2, 1) := by decide +kernel
theorem dX8_placeOf_5 : decode cX8_placeOf 5 = .ok (.bipush 11, 2) := by decide +kernel
theorem dX8_placeOf_7 : decode cX8_placeOf 7 = .ok (.iload_n 1, 1) := by decide +kernel
theorem dX8_placeOf_8 : decode cX8_placeOf 8 = .ok (.iconst 5, 1) := by decide +kernel
theorem dX8_placeOf_9 : decode cX8_placeOf 9 = .ok (.isub, 1) := by decide +kernel
theorem dX8_placeOf_10 : decode cX8_placeOf 10 = .ok (.invokestatic 21, 3) := by decide +kernel
theorem dX8_placeOf_13 : decode cX8_placeOf 13 = .ok (.isub, 1) := by decide +kernel
theorem dX8_placeOf_14 : decode cX8_placeOf 14 = .ok (.if_icmp .lt 21, 3) := by decide +kernel
theorem dX8_placeOf_17 : decode cX8_placeOf 17 = .ok (.iload_n 2, 1) := by decide +kernel
theorem dX8_placeOf_18 : decode cX8_placeOf 18 = .ok (.bipush 11, 2) := by decide +kernel
theorem dX8_placeOf_20 : decode cX8_placeOf 20 = .ok (.iload_n 1, 1) := by decide +kernel
theorem dX8_placeOf_21 : decode cX8_placeOf 21 = .ok (.iconst 5, 1) := by decide +kernel
theorem dX8_placeOf_22 : decode cX8_placeOf 22 = .ok (.isub, 1) := by decide +kernel
theorem dX8_placeOf_23 : decode cX8_placeOf 23 = .ok (.invokestatic 21, 3) := by decide +kernel
theorem dX8_placeOf_26 : decode cX8_placeOf 26 = .ok (.isub, 1) := by decide +kernel
theorem dX8_placeOf_27 : decode cX8_placeOf 27 = .ok (.isub, 1) := by decide +kernel
theorem dX8_placeOf_28 : decode cX8_placeOf 28 = .ok (.istore_n 2, 1) := by decide +kernel
theorem dX8_placeOf_29 : decode cX8_placeOf 29 = .ok (.iinc 1 1, 3) := by decide +kernel
theorem dX8_placeOf_32 : decode cX8_placeOf 32 = .ok (.goto (-28), 3) := by decide +kernel
theorem dX8_placeOf_35 : decode cX8_placeOf 35 = .ok (.iload_n 1, 1) := by decide +kernel
theorem dX8_placeOf_36 : decode cX8_placeOf 36 = .ok (.iconst 5, 1) := by decide +kernel
theorem dX8_placeOf_37 : decode cX8_placeOf 37 = .ok (.isub, 1) := by decide +kernel
theorem dX8_placeOf_38 : decode cX8_placeOf 38 = .ok (.istore_n 3, 1) := by decide +kernel
theorem dX8_placeOf_39 : decode cX8_placeOf 39 = .ok (.bipush 11, 2) := by decide +kernel
theorem dX8_placeOf_41 : decode cX8_placeOf 41 = .ok (.iload_n 1, 1) := by decide +kernel
theorem dX8_placeOf_42 : decode cX8_placeOf 42 = .ok (.imul, 1) := by decide +kernel
theorem dX8_placeOf_43 : decode cX8_placeOf 43 = .ok (.iload_n 2, 1) := by decide +kernel
theorem dX8_placeOf_44 : decode cX8_placeOf 44 = .ok (.iadd, 1) := by decide +kernel
theorem dX8_placeOf_45 : decode cX8_placeOf 45 = .ok (.iload_n 3, 1) := by decide +kernel
theorem dX8_placeOf_46 : decode cX8_placeOf 46 = .ok (.ifCond .ge 7, 3) := by decide +kernel
theorem dX8_placeOf_49 : decode cX8_placeOf 49 = .ok (.iload_n 3, 1) := by decide +kernel
theorem dX8_placeOf_50 : decode cX8_placeOf 50 = .ok (.goto 4, 3) := by decide +kernel
theorem dX8_placeOf_53 : decode cX8_placeOf 53 = .ok (.iconst 0, 1) := by decide +kernel
theorem dX8_placeOf_54 : decode cX8_placeOf 54 = .ok (.isub, 1) := by decide +kernel
theorem dX8_placeOf_55 : decode cX8_placeOf 55 = .ok (.ireturn, 1) := by decide +kernel
theorem dX8_cellOf_0 : decode cX8_cellOf 0 = .ok (.iconst 0, 1) := by decide +kernel
theorem dX8_cellOf_1 : decode cX8_cellOf 1 = .ok (.istore_n 1, 1) := by decide +kernel
theorem dX8_cellOf_2 : decode cX8_cellOf 2 = .ok (.iconst 0, 1) := by decide +kernel
theorem dX8_cellOf_3 : decode cX8_cellOf 3 = .ok (.istore_n 2, 1) := by decide +kernel
theorem dX8_cellOf_4 : decode cX8_cellOf 4 = .ok (.iload_n 2, 1) := by decide +kernel
theorem dX8_cellOf_5 : decode cX8_cellOf 5 = .ok (.iload_n 0, 1) := by decide +kernel
theorem dX8_cellOf_6 : decode cX8_cellOf 6 = .ok (.if_icmp .ge 35, 3) := by decide +kernel
theorem dX8_cellOf_9 : decode cX8_cellOf 9 = .ok (.iload_n 1, 1) := by decide +kernel
theorem dX8_cellOf_10 : decode cX8_cellOf 10 = .ok (.iload_n 2, 1) := by decide +kernel
theorem dX8_cellOf_11 : decode cX8_cellOf 11 = .ok (.bipush 11, 2) := by decide +kernel
theorem dX8_cellOf_13 : decode cX8_cellOf 13 = .ok (.idiv, 1) := by decide +kernel
theorem dX8_cellOf_14 : decode cX8_cellOf 14 = .ok (.iconst 5, 1) := by decide +kernel
theorem dX8_cellOf_15 : decode cX8_cellOf 15 = .ok (.isub, 1) := by decide +kernel
theorem dX8_cellOf_16 : decode cX8_cellOf 16 = .ok (.iload_n 2, 1) := by decide +kernel
theorem dX8_cellOf_17 : decode cX8_cellOf 17 = .ok (.bipush 11, 2) := by decide +kernel
theorem dX8_cellOf_19 : decode cX8_cellOf 19 = .ok (.irem, 1) := by decide +kernel
theorem dX8_cellOf_20 : decode cX8_cellOf 20 = .ok (.iconst 5, 1) := by decide +kernel
theorem dX8_cellOf_21 : decode cX8_cellOf 21 = .ok (.isub, 1) := by decide +kernel
theorem dX8_cellOf_22 : decode cX8_cellOf 22 = .ok (.invokestatic 17, 3) := by decide +kernel
theorem dX8_cellOf_25 : decode cX8_cellOf 25 = .ok (.ifCond .eq 7, 3) := by decide +kernel
theorem dX8_cellOf_28 : decode cX8_cellOf 28 = .ok (.iconst 1, 1) := by decide +kernel
theorem dX8_cellOf_29 : decode cX8_cellOf 29 = .ok (.goto 4, 3) := by decide +kernel
theorem dX8_cellOf_32 : decode cX8_cellOf 32 = .ok (.iconst 0, 1) := by decide +kernel
theorem dX8_cellOf_33 : decode cX8_cellOf 33 = .ok (.iadd, 1) := by decide +kernel
theorem dX8_cellOf_34 : decode cX8_cellOf 34 = .ok (.istore_n 1, 1) := by decide +kernel
theorem dX8_cellOf_35 : decode cX8_cellOf 35 = .ok (.iinc 2 1, 3) := by decide +kernel
theorem dX8_cellOf_38 : decode cX8_cellOf 38 = .ok (.goto (-34), 3) := by decide +kernel
theorem dX8_cellOf_41 : decode cX8_cellOf 41 = .ok (.iload_n 1, 1) := by decide +kernel
theorem dX8_cellOf_42 : decode cX8_cellOf 42 = .ok (.ireturn, 1) := by decide +kernel
theorem dX8_isOwn_0 : decode cX8_isOwn 0 = .ok (.aload_n 0, 1) := by decide +kernel
theorem dX8_isOwn_1 : decode cX8_isOwn 1 = .ok (.getfield 7, 3) := by decide +kernel
theorem dX8_isOwn_4 : decode cX8_isOwn 4 = .ok (.iload_n 1, 1) := by decide +kernel
theorem dX8_isOwn_5 : decode cX8_isOwn 5 = .ok (.iaload, 1) := by decide +kernel
theorem dX8_isOwn_6 : decode cX8_isOwn 6 = .ok (.ifCond .eq 44, 3) := by decide +kernel
theorem dX8_isOwn_9 : decode cX8_isOwn 9 = .ok (.aload_n 0, 1) := by decide +kernel
theorem dX8_isOwn_10 : decode cX8_isOwn 10 = .ok (.getfield 7, 3) := by decide +kernel
theorem dX8_isOwn_13 : decode cX8_isOwn 13 = .ok (.iload_n 1, 1) := by decide +kernel
theorem dX8_isOwn_14 : decode cX8_isOwn 14 = .ok (.iaload, 1) := by decide +kernel
theorem dX8_isOwn_15 : decode cX8_isOwn 15 = .ok (.bipush 99, 2) := by decide +kernel
theorem dX8_isOwn_17 : decode cX8_isOwn 17 = .ok (.if_icmp .eq 33, 3) := by decide +kernel
theorem dX8_isOwn_20 : decode cX8_isOwn 20 = .ok (.aload_n 0, 1) := by decide +kernel
theorem dX8_isOwn_21 : decode cX8_isOwn 21 = .ok (.getfield 7, 3) := by decide +kernel
theorem dX8_isOwn_24 : decode cX8_isOwn 24 = .ok (.iload_n 1, 1) := by decide +kernel
theorem dX8_isOwn_25 : decode cX8_isOwn 25 = .ok (.iaload, 1) := by decide +kernel
theorem dX8_isOwn_26 : decode cX8_isOwn 26 = .ok (.ifCond .le 7, 3) := by decide +kernel
theorem dX8_isOwn_29 : decode cX8_isOwn 29 = .ok (.iconst 1, 1) := by decide +kernel
theorem dX8_isOwn_30 : decode cX8_isOwn 30 = .ok (.goto 4, 3) := by decide +kernel
theorem dX8_isOwn_33 : decode cX8_isOwn 33 = .ok (.iconst 0, 1) := by decide +kernel
theorem dX8_isOwn_34 : decode cX8_isOwn 34 = .ok (.iload_n 2, 1) := by decide +kernel
theorem dX8_isOwn_35 : decode cX8_isOwn 35 = .ok (.ifCond .ne 7, 3) := by decide +kernel
theorem dX8_isOwn_38 : decode cX8_isOwn 38 = .ok (.iconst 1, 1) := by decide +kernel
theorem dX8_isOwn_39 : decode cX8_isOwn 39 = .ok (.goto 4, 3) := by decide +kernel
theorem dX8_isOwn_42 : decode cX8_isOwn 42 = .ok (.iconst 0, 1) := by decide +kernel
theorem dX8_isOwn_43 : decode cX8_isOwn 43 = .ok (.if_icmp .ne 7, 3) := by decide +kernel
theorem dX8_isOwn_46 : decode cX8_isOwn 46 = .ok (.iconst 1, 1) := by decide +kernel
theorem dX8_isOwn_47 : decode cX8_isOwn 47 = .ok (.goto 4, 3) := by decide +kernel
theorem dX8_isOwn_50 : decode cX8_isOwn 50 = .ok (.iconst 0, 1) := by decide +kernel
theorem dX8_isOwn_51 : decode cX8_isOwn 51 = .ok (.ireturn, 1) := by decide +kernel
theorem dX8_isFree_0 : decode cX8_isFree 0 = .ok (.iconst 1, 1) := by decide +kernel
theorem dX8_isFree_1 : decode cX8_isFree 1 = .ok (.istore 4, 2) := by decide +kernel
theorem dX8_isFree_3 : decode cX8_isFree 3 = .ok (.iload 4, 2) := by decide +kernel
theorem dX8_isFree_5 : decode cX8_isFree 5 = .ok (.iload_n 3, 1) := by decide +kernel
theorem dX8_isFree_6 : decode cX8_isFree 6 = .ok (.if_icmp .ge 25, 3) := by decide +kernel
theorem dX8_isFree_9 : decode cX8_isFree 9 = .ok (.aload_n 0, 1) := by decide +kernel
theorem dX8_isFree_10 : decode cX8_isFree 10 = .ok (.getfield 7, 3) := by decide +kernel
theorem dX8_isFree_13 : decode cX8_isFree 13 = .ok (.iload_n 1, 1) := by decide +kernel
theorem dX8_isFree_14 : decode cX8_isFree 14 = .ok (.iload 4, 2) := by decide +kernel
theorem dX8_isFree_16 : decode cX8_isFree 16 = .ok (.iload_n 2, 1) := by decide +kernel
theorem dX8_isFree_17 : decode cX8_isFree 17 = .ok (.imul, 1) := by decide +kernel
theorem dX8_isFree_18 : decode cX8_isFree 18 = .ok (.iadd, 1) := by decide +kernel
theorem dX8_isFree_19 : decode cX8_isFree 19 = .ok (.iaload, 1) := by decide +kernel
theorem dX8_isFree_20 : decode cX8_isFree 20 = .ok (.ifCond .eq 5, 3) := by decide +kernel
theorem dX8_isFree_23 : decode cX8_isFree 23 = .ok (.iconst 0, 1) := by decide +kernel
theorem dX8_isFree_24 : decode cX8_isFree 24 = .ok (.ireturn, 1) := by decide +kernel
theorem dX8_isFree_25 : decode cX8_isFree 25 = .ok (.iinc 4 1, 3) := by decide +kernel
theorem dX8_isFree_28 : decode cX8_isFree 28 = .ok (.goto (-25), 3) := by decide +kernel
theorem dX8_isFree_31 : decode cX8_isFree 31 = .ok (.iconst 1, 1) := by decide +kernel
theorem dX8_isFree_32 : decode cX8_isFree 32 = .ok (.ireturn, 1) := by decide +kernel
theorem dX8_attacks_0 : decode cX8_attacks 0 = .ok (.iload_n 2, 1) := by decide +kernel
theorem dX8_attacks_1 : decode cX8_attacks 1 = .ok (.bipush 11, 2) := by decide +kernel
theorem dX8_attacks_3 : decode cX8_attacks 3 = .ok (.idiv, 1) := by decide +kernel
theorem dX8_attacks_4 : decode cX8_attacks 4 = .ok (.iload_n 1, 1) := by decide +kernel
theorem dX8_attacks_5 : decode cX8_attacks 5 = .ok (.bipush 11, 2) := by decide +kernel
theorem dX8_attacks_7 : decode cX8_attacks 7 = .ok (.idiv, 1) := by decide +kernel
theorem dX8_attacks_8 : decode cX8_attacks 8 = .ok (.isub, 1) := by decide +kernel
theorem dX8_attacks_9 : decode cX8_attacks 9 = .ok (.istore_n 3, 1) := by decide +kernel
theorem dX8_attacks_10 : decode cX8_attacks 10 = .ok (.iload_n 2, 1) := by decide +kernel
theorem dX8_attacks_11 : decode cX8_attacks 11 = .ok (.bipush 11, 2) := by decide +kernel
theorem dX8_attacks_13 : decode cX8_attacks 13 = .ok (.irem, 1) := by decide +kernel
theorem dX8_attacks_14 : decode cX8_attacks 14 = .ok (.iload_n 1, 1) := by decide +kernel
theorem dX8_attacks_15 : decode cX8_attacks 15 = .ok (.bipush 11, 2) := by decide +kernel
theorem dX8_attacks_17 : decode cX8_attacks 17 = .ok (.irem, 1) := by decide +kernel
theorem dX8_attacks_18 : decode cX8_attacks 18 = .ok (.isub, 1) := by decide +kernel
theorem dX8_attacks_19 : decode cX8_attacks 19 = .ok (.istore 4, 2) := by decide +kernel
theorem dX8_attacks_21 : decode cX8_attacks 21 = .ok (.aload_n 0, 1) := by decide +kernel
theorem dX8_attacks_22 : decode cX8_attacks 22 = .ok (.getfield 7, 3) := by decide +kernel
theorem dX8_attacks_25 : decode cX8_attacks 25 = .ok (.iload_n 1, 1) := by decide +kernel
theorem dX8_attacks_26 : decode cX8_attacks 26 = .ok (.iaload, 1) := by decide +kernel
theorem dX8_attacks_27 : decode cX8_attacks 27 = .ok (.invokestatic 21, 3) := by decide +kernel
theorem dX8_attacks_30 : decode cX8_attacks 30 = .ok (.istore 5, 2) := by decide +kernel
theorem dX8_attacks_32 : decode cX8_attacks 32 = .ok (.iload_n 3, 1) := by decide +kernel
theorem dX8_attacks_33 : decode cX8_attacks 33 = .ok (.invokestatic 21, 3) := by decide +kernel
theorem dX8_attacks_36 : decode cX8_attacks 36 = .ok (.iload 4, 2) := by decide +kernel
theorem dX8_attacks_38 : decode cX8_attacks 38 = .ok (.invokestatic 21, 3) := by decide +kernel
theorem dX8_attacks_41 : decode cX8_attacks 41 = .ok (.invokestatic 37, 3) := by decide +kernel
theorem dX8_attacks_44 : decode cX8_attacks 44 = .ok (.iload_n 3, 1) := by decide +kernel
theorem dX8_attacks_45 : decode cX8_attacks 45 = .ok (.iload 4, 2) := by decide +kernel
theorem dX8_attacks_47 : decode cX8_attacks 47 = .ok (.iadd, 1) := by decide +kernel
theorem dX8_attacks_48 : decode cX8_attacks 48 = .ok (.invokestatic 21, 3) := by decide +kernel
theorem dX8_attacks_51 : decode cX8_attacks 51 = .ok (.invokestatic 37, 3) := by decide +kernel
theorem dX8_attacks_54 : decode cX8_attacks 54 = .ok (.istore 6, 2) := by decide +kernel
theorem dX8_attacks_56 : decode cX8_attacks 56 = .ok (.iload_n 3, 1) := by decide +kernel
theorem dX8_attacks_57 : decode cX8_attacks 57 = .ok (.invokestatic 21, 3) := by decide +kernel
theorem dX8_attacks_60 : decode cX8_attacks 60 = .ok (.iload 4, 2) := by decide +kernel
theorem dX8_attacks_62 : decode cX8_attacks 62 = .ok (.invokestatic 21, 3) := by decide +kernel
theorem dX8_attacks_65 : decode cX8_attacks 65 = .ok (.invokestatic 41, 3) := by decide +kernel
theorem dX8_attacks_68 : decode cX8_attacks 68 = .ok (.iload_n 3, 1) := by decide +kernel
theorem dX8_attacks_69 : decode cX8_attacks 69 = .ok (.iload 4, 2) := by decide +kernel
theorem dX8_attacks_71 : decode cX8_attacks 71 = .ok (.iadd, 1) := by decide +kernel
theorem dX8_attacks_72 : decode cX8_attacks 72 = .ok (.invokestatic 21, 3) := by decide +kernel
theorem dX8_attacks_75 : decode cX8_attacks 75 = .ok (.invokestatic 41, 3) := by decide +kernel
theorem dX8_attacks_78 : decode cX8_attacks 78 = .ok (.istore 7, 2) := by decide +kernel
theorem dX8_attacks_80 : decode cX8_attacks 80 = .ok (.iload 6, 2) := by decide +kernel
theorem dX8_attacks_82 : decode cX8_attacks 82 = .ok (.ifCond .ne 5, 3) := by decide +kernel
theorem dX8_attacks_85 : decode cX8_attacks 85 = .ok (.iconst 0, 1) := by decide +kernel
theorem dX8_attacks_86 : decode cX8_attacks 86 = .ok (.ireturn, 1) := by decide +kernel
theorem dX8_attacks_87 : decode cX8_attacks 87 = .ok (.iload 5, 2) := by decide +kernel
theorem dX8_attacks_89 : decode cX8_attacks 89 = .ok (.bipush 6, 2) := by decide +kernel
theorem dX8_attacks_91 : decode cX8_attacks 91 = .ok (.if_icmp .ne 68, 3) := by decide +kernel
theorem dX8_attacks_94 : decode cX8_attacks 94 = .ok (.aload_n 0, 1) := by decide +kernel
theorem dX8_attacks_95 : decode cX8_attacks 95 = .ok (.getfield 7, 3) := by decide +kernel
theorem dX8_attacks_98 : decode cX8_attacks 98 = .ok (.iload_n 1, 1) := by decide +kernel
theorem dX8_attacks_99 : decode cX8_attacks 99 = .ok (.iaload, 1) := by decide +kernel
theorem dX8_attacks_100 : decode cX8_attacks 100 = .ok (.ifCond .le 32, 3) := by decide +kernel
theorem dX8_attacks_103 : decode cX8_attacks 103 = .ok (.iload_n 3, 1) := by decide +kernel
theorem dX8_attacks_104 : decode cX8_attacks 104 = .ok (.iconst 1, 1) := by decide +kernel
theorem dX8_attacks_105 : decode cX8_attacks 105 = .ok (.if_icmp .ne 8, 3) := by decide +kernel
theorem dX8_attacks_108 : decode cX8_attacks 108 = .ok (.iload 4, 2) := by decide +kernel
theorem dX8_attacks_110 : decode cX8_attacks 110 = .ok (.ifCond .eq 14, 3) := by decide +kernel
theorem dX8_attacks_113 : decode cX8_attacks 113 = .ok (.iload_n 3, 1) := by decide +kernel
theorem dX8_attacks_114 : decode cX8_attacks 114 = .ok (.iconst (-1), 1) := by decide +kernel
theorem dX8_attacks_115 : decode cX8_attacks 115 = .ok (.if_icmp .ne 13, 3) := by decide +kernel
theorem dX8_attacks_118 : decode cX8_attacks 118 = .ok (.iload 4, 2) := by decide +kernel
theorem dX8_attacks_120 : decode cX8_attacks 120 = .ok (.iconst 1, 1) := by decide +kernel
theorem dX8_attacks_121 : decode cX8_attacks 121 = .ok (.if_icmp .ne 7, 3) := by decide +kernel
theorem dX8_attacks_124 : decode cX8_attacks 124 = .ok (.iconst 1, 1) := by decide +kernel
theorem dX8_attacks_125 : decode cX8_attacks 125 = .ok (.goto 33, 3) := by decide +kernel
theorem dX8_attacks_128 : decode cX8_attacks 128 = .ok (.iconst 0, 1) := by decide +kernel
theorem dX8_attacks_129 : decode cX8_attacks 129 = .ok (.goto 29, 3) := by decide +kernel
theorem dX8_attacks_132 : decode cX8_attacks 132 = .ok (.iload_n 3, 1) := by decide +kernel
theorem dX8_attacks_133 : decode cX8_attacks 133 = .ok (.iconst (-1), 1) := by decide +kernel
theorem dX8_attacks_134 : decode cX8_attacks 134 = .ok (.if_icmp .ne 8, 3) := by decide +kernel
theorem dX8_attacks_137 : decode cX8_attacks 137 = .ok (.iload 4, 2) := by decide +kernel
theorem dX8_attacks_139 : decode cX8_attacks 139 = .ok (.ifCond .eq 14, 3) := by decide +kernel
theorem dX8_attacks_142 : decode cX8_attacks 142 = .ok (.iload_n 3, 1) := by decide +kernel
theorem dX8_attacks_143 : decode cX8_attacks 143 = .ok (.iconst 1, 1) := by decide +kernel
theorem dX8_attacks_144 : decode cX8_attacks 144 = .ok (.if_icmp .ne 13, 3) := by decide +kernel
theorem dX8_attacks_147 : decode cX8_attacks 147 = .ok (.iload 4, 2) := by decide +kernel
theorem dX8_attacks_149 : decode cX8_attacks 149 = .ok (.iconst (-1), 1) := by decide +kernel
theorem dX8_attacks_150 : decode cX8_attacks 150 = .ok (.if_icmp .ne 7, 3) := by decide +kernel
theorem dX8_attacks_153 : decode cX8_attacks 153 = .ok (.iconst 1, 1) := by decide +kernel
theorem dX8_attacks_154 : decode cX8_attacks 154 = .ok (.goto 4, 3) := by decide +kernel
theorem dX8_attacks_157 : decode cX8_attacks 157 = .ok (.iconst 0, 1) := by decide +kernel
theorem dX8_attacks_158 : decode cX8_attacks 158 = .ok (.ireturn, 1) := by decide +kernel
theorem dX8_attacks_159 : decode cX8_attacks 159 = .ok (.iload 5, 2) := by decide +kernel
theorem dX8_attacks_161 : decode cX8_attacks 161 = .ok (.iconst 5, 1) := by decide +kernel
theorem dX8_attacks_162 : decode cX8_attacks 162 = .ok (.if_icmp .ne 21, 3) := by decide +kernel
theorem dX8_attacks_165 : decode cX8_attacks 165 = .ok (.iload 6, 2) := by decide +kernel
theorem dX8_attacks_167 : decode cX8_attacks 167 = .ok (.iconst 3, 1) := by decide +kernel
theorem dX8_attacks_168 : decode cX8_attacks 168 = .ok (.if_icmp .ne 13, 3) := by decide +kernel
theorem dX8_attacks_171 : decode cX8_attacks 171 = .ok (.iload 7, 2) := by decide +kernel
theorem dX8_attacks_173 : decode cX8_attacks 173 = .ok (.iconst 1, 1) := by decide +kernel
theorem dX8_attacks_174 : decode cX8_attacks 174 = .ok (.if_icmp .ne 7, 3) := by decide +kernel
theorem dX8_attacks_177 : decode cX8_attacks 177 = .ok (.iconst 1, 1) := by decide +kernel
theorem dX8_attacks_178 : decode cX8_attacks 178 = .ok (.goto 4, 3) := by decide +kernel
theorem dX8_attacks_181 : decode cX8_attacks 181 = .ok (.iconst 0, 1) := by decide +kernel
theorem dX8_attacks_182 : decode cX8_attacks 182 = .ok (.ireturn, 1) := by decide +kernel
theorem dX8_attacks_183 : decode cX8_attacks 183 = .ok (.iload 7, 2) := by decide +kernel
theorem dX8_attacks_185 : decode cX8_attacks 185 = .ok (.ifCond .ne 7, 3) := by decide +kernel
theorem dX8_attacks_188 : decode cX8_attacks 188 = .ok (.iconst 1, 1) := by decide +kernel
theorem dX8_attacks_189 : decode cX8_attacks 189 = .ok (.goto 4, 3) := by decide +kernel
theorem dX8_attacks_192 : decode cX8_attacks 192 = .ok (.iconst 0, 1) := by decide +kernel
theorem dX8_attacks_193 : decode cX8_attacks 193 = .ok (.istore 8, 2) := by decide +kernel
theorem dX8_attacks_195 : decode cX8_attacks 195 = .ok (.iload 6, 2) := by decide +kernel
theorem dX8_attacks_197 : decode cX8_attacks 197 = .ok (.iconst 2, 1) := by decide +kernel
theorem dX8_attacks_198 : decode cX8_attacks 198 = .ok (.iload 7, 2) := by decide +kernel
theorem dX8_attacks_200 : decode cX8_attacks 200 = .ok (.imul, 1) := by decide +kernel
theorem dX8_attacks_201 : decode cX8_attacks 201 = .ok (.if_icmp .ne 7, 3) := by decide +kernel
theorem dX8_attacks_204 : decode cX8_attacks 204 = .ok (.iconst 1, 1) := by decide +kernel
theorem dX8_attacks_205 : decode cX8_attacks 205 = .ok (.goto 4, 3) := by decide +kernel
theorem dX8_attacks_208 : decode cX8_attacks 208 = .ok (.iconst 0, 1) := by decide +kernel
theorem dX8_attacks_209 : decode cX8_attacks 209 = .ok (.istore 9, 2) := by decide +kernel
theorem dX8_attacks_211 : decode cX8_attacks 211 = .ok (.iload 5, 2) := by decide +kernel
theorem dX8_attacks_213 : decode cX8_attacks 213 = .ok (.iconst 1, 1) := by decide +kernel
theorem dX8_attacks_214 : decode cX8_attacks 214 = .ok (.if_icmp .ne 31, 3) := by decide +kernel
theorem dX8_attacks_217 : decode cX8_attacks 217 = .ok (.iload 8, 2) := by decide +kernel
theorem dX8_attacks_219 : decode cX8_attacks 219 = .ok (.ifCond .eq 9, 3) := by decide +kernel
theorem dX8_attacks_222 : decode cX8_attacks 222 = .ok (.iload 6, 2) := by decide +kernel
theorem dX8_attacks_224 : decode cX8_attacks 224 = .ok (.iconst 1, 1) := by decide +kernel
theorem dX8_attacks_225 : decode cX8_attacks 225 = .ok (.if_icmp .eq 14, 3) := by decide +kernel
theorem dX8_attacks_228 : decode cX8_attacks 228 = .ok (.iload 9, 2) := by decide +kernel
theorem dX8_attacks_230 : decode cX8_attacks 230 = .ok (.ifCond .eq 13, 3) := by decide +kernel
theorem dX8_attacks_233 : decode cX8_attacks 233 = .ok (.iload 6, 2) := by decide +kernel
theorem dX8_attacks_235 : decode cX8_attacks 235 = .ok (.iconst 2, 1) := by decide +kernel
theorem dX8_attacks_236 : decode cX8_attacks 236 = .ok (.if_icmp .ne 7, 3) := by decide +kernel
theorem dX8_attacks_239 : decode cX8_attacks 239 = .ok (.iconst 1, 1) := by decide +kernel
theorem dX8_attacks_240 : decode cX8_attacks 240 = .ok (.goto 4, 3) := by decide +kernel
theorem dX8_attacks_243 : decode cX8_attacks 243 = .ok (.iconst 0, 1) := by decide +kernel
theorem dX8_attacks_244 : decode cX8_attacks 244 = .ok (.ireturn, 1) := by decide +kernel
theorem dX8_attacks_245 : decode cX8_attacks 245 = .ok (.iload 8, 2) := by decide +kernel
theorem dX8_attacks_247 : decode cX8_attacks 247 = .ok (.ifCond .eq 29, 3) := by decide +kernel
theorem dX8_attacks_250 : decode cX8_attacks 250 = .ok (.iload 5, 2) := by decide +kernel
theorem dX8_attacks_252 : decode cX8_attacks 252 = .ok (.iconst 2, 1) := by decide +kernel
theorem dX8_attacks_253 : decode cX8_attacks 253 = .ok (.if_icmp .eq 9, 3) := by decide +kernel
theorem dX8_attacks_256 : decode cX8_attacks 256 = .ok (.iload 5, 2) := by decide +kernel
theorem dX8_attacks_258 : decode cX8_attacks 258 = .ok (.iconst 3, 1) := by decide +kernel
theorem dX8_attacks_259 : decode cX8_attacks 259 = .ok (.if_icmp .ne 17, 3) := by decide +kernel
theorem dX8_attacks_262 : decode cX8_attacks 262 = .ok (.aload_n 0, 1) := by decide +kernel
theorem dX8_attacks_263 : decode cX8_attacks 263 = .ok (.iload_n 1, 1) := by decide +kernel
theorem dX8_attacks_264 : decode cX8_attacks 264 = .ok (.iload_n 2, 1) := by decide +kernel
theorem dX8_attacks_265 : decode cX8_attacks 265 = .ok (.iload_n 1, 1) := by decide +kernel
theorem dX8_attacks_266 : decode cX8_attacks 266 = .ok (.isub, 1) := by decide +kernel
theorem dX8_attacks_267 : decode cX8_attacks 267 = .ok (.iload 6, 2) := by decide +kernel
theorem dX8_attacks_269 : decode cX8_attacks 269 = .ok (.idiv, 1) := by decide +kernel
theorem dX8_attacks_270 : decode cX8_attacks 270 = .ok (.iload 6, 2) := by decide +kernel
theorem dX8_attacks_272 : decode cX8_attacks 272 = .ok (.invokevirtual 44, 3) := by decide +kernel
theorem dX8_attacks_275 : decode cX8_attacks 275 = .ok (.ireturn, 1) := by decide +kernel
theorem dX8_attacks_276 : decode cX8_attacks 276 = .ok (.iload 9, 2) := by decide +kernel
theorem dX8_attacks_278 : decode cX8_attacks 278 = .ok (.ifCond .eq 35, 3) := by decide +kernel
theorem dX8_attacks_281 : decode cX8_attacks 281 = .ok (.iload 5, 2) := by decide +kernel
theorem dX8_attacks_283 : decode cX8_attacks 283 = .ok (.iconst 2, 1) := by decide +kernel
theorem dX8_attacks_284 : decode cX8_attacks 284 = .ok (.if_icmp .eq 9, 3) := by decide +kernel
theorem dX8_attacks_287 : decode cX8_attacks 287 = .ok (.iload 5, 2) := by decide +kernel
theorem dX8_attacks_289 : decode cX8_attacks 289 = .ok (.iconst 4, 1) := by decide +kernel
theorem dX8_attacks_290 : decode cX8_attacks 290 = .ok (.if_icmp .ne 23, 3) := by decide +kernel
theorem dX8_attacks_293 : decode cX8_attacks 293 = .ok (.aload_n 0, 1) := by decide +kernel
theorem dX8_attacks_294 : decode cX8_attacks 294 = .ok (.iload_n 1, 1) := by decide +kernel
theorem dX8_attacks_295 : decode cX8_attacks 295 = .ok (.iload_n 2, 1) := by decide +kernel
theorem dX8_attacks_296 : decode cX8_attacks 296 = .ok (.iload_n 1, 1) := by decide +kernel
theorem dX8_attacks_297 : decode cX8_attacks 297 = .ok (.isub, 1) := by decide +kernel
theorem dX8_attacks_298 : decode cX8_attacks 298 = .ok (.iload 7, 2) := by decide +kernel
theorem dX8_attacks_300 : decode cX8_attacks 300 = .ok (.idiv, 1) := by decide +kernel
theorem dX8_attacks_301 : decode cX8_attacks 301 = .ok (.iload 7, 2) := by decide +kernel
theorem dX8_attacks_303 : decode cX8_attacks 303 = .ok (.invokevirtual 44, 3) := by decide +kernel
theorem dX8_attacks_306 : decode cX8_attacks 306 = .ok (.ifCond .eq 7, 3) := by decide +kernel
theorem dX8_attacks_309 : decode cX8_attacks 309 = .ok (.iconst 1, 1) := by decide +kernel
theorem dX8_attacks_310 : decode cX8_attacks 310 = .ok (.goto 4, 3) := by decide +kernel
theorem dX8_attacks_313 : decode cX8_attacks 313 = .ok (.iconst 0, 1) := by decide +kernel
theorem dX8_attacks_314 : decode cX8_attacks 314 = .ok (.ireturn, 1) := by decide +kernel
theorem dX8_attackers_0 : decode cX8_attackers 0 = .ok (.iconst 0, 1) := by decide +kernel
theorem dX8_attackers_1 : decode cX8_attackers 1 = .ok (.istore_n 3, 1) := by decide +kernel
theorem dX8_attackers_2 : decode cX8_attackers 2 = .ok (.iconst 0, 1) := by decide +kernel
theorem dX8_attackers_3 : decode cX8_attackers 3 = .ok (.istore 4, 2) := by decide +kernel
theorem dX8_attackers_5 : decode cX8_attackers 5 = .ok (.iload 4, 2) := by decide +kernel
theorem dX8_attackers_7 : decode cX8_attackers 7 = .ok (.bipush 121, 2) := by decide +kernel
theorem dX8_attackers_9 : decode cX8_attackers 9 = .ok (.if_icmp .ge 37, 3) := by decide +kernel
theorem dX8_attackers_12 : decode cX8_attackers 12 = .ok (.iload_n 3, 1) := by decide +kernel
theorem dX8_attackers_13 : decode cX8_attackers 13 = .ok (.aload_n 0, 1) := by decide +kernel
theorem dX8_attackers_14 : decode cX8_attackers 14 = .ok (.iload 4, 2) := by decide +kernel
theorem dX8_attackers_16 : decode cX8_attackers 16 = .ok (.iload_n 2, 1) := by decide +kernel
theorem dX8_attackers_17 : decode cX8_attackers 17 = .ok (.invokevirtual 48, 3) := by decide +kernel
theorem dX8_attackers_20 : decode cX8_attackers 20 = .ok (.ifCond .eq 17, 3) := by decide +kernel
theorem dX8_attackers_23 : decode cX8_attackers 23 = .ok (.aload_n 0, 1) := by decide +kernel
theorem dX8_attackers_24 : decode cX8_attackers 24 = .ok (.iload 4, 2) := by decide +kernel
theorem dX8_attackers_26 : decode cX8_attackers 26 = .ok (.iload_n 1, 1) := by decide +kernel
theorem dX8_attackers_27 : decode cX8_attackers 27 = .ok (.invokevirtual 51, 3) := by decide +kernel
theorem dX8_attackers_30 : decode cX8_attackers 30 = .ok (.ifCond .eq 7, 3) := by decide +kernel
theorem dX8_attackers_33 : decode cX8_attackers 33 = .ok (.iconst 1, 1) := by decide +kernel
theorem dX8_attackers_34 : decode cX8_attackers 34 = .ok (.goto 4, 3) := by decide +kernel
theorem dX8_attackers_37 : decode cX8_attackers 37 = .ok (.iconst 0, 1) := by decide +kernel
theorem dX8_attackers_38 : decode cX8_attackers 38 = .ok (.iadd, 1) := by decide +kernel
theorem dX8_attackers_39 : decode cX8_attackers 39 = .ok (.istore_n 3, 1) := by decide +kernel
theorem dX8_attackers_40 : decode cX8_attackers 40 = .ok (.iinc 4 1, 3) := by decide +kernel
theorem dX8_attackers_43 : decode cX8_attackers 43 = .ok (.goto (-38), 3) := by decide +kernel
theorem dX8_attackers_46 : decode cX8_attackers 46 = .ok (.iload_n 3, 1) := by decide +kernel
theorem dX8_attackers_47 : decode cX8_attackers 47 = .ok (.ireturn, 1) := by decide +kernel
theorem dX8_king_0 : decode cX8_king 0 = .ok (.iconst 0, 1) := by decide +kernel
theorem dX8_king_1 : decode cX8_king 1 = .ok (.istore_n 2, 1) := by decide +kernel
theorem dX8_king_2 : decode cX8_king 2 = .ok (.iload_n 2, 1) := by decide +kernel
theorem dX8_king_3 : decode cX8_king 3 = .ok (.bipush 121, 2) := by decide +kernel
theorem dX8_king_5 : decode cX8_king 5 = .ok (.if_icmp .ge 29, 3) := by decide +kernel
theorem dX8_king_8 : decode cX8_king 8 = .ok (.aload_n 0, 1) := by decide +kernel
theorem dX8_king_9 : decode cX8_king 9 = .ok (.getfield 7, 3) := by decide +kernel
theorem dX8_king_12 : decode cX8_king 12 = .ok (.iload_n 2, 1) := by decide +kernel
theorem dX8_king_13 : decode cX8_king 13 = .ok (.iaload, 1) := by decide +kernel
theorem dX8_king_14 : decode cX8_king 14 = .ok (.iload_n 1, 1) := by decide +kernel
theorem dX8_king_15 : decode cX8_king 15 = .ok (.ifCond .ne 7, 3) := by decide +kernel
theorem dX8_king_18 : decode cX8_king 18 = .ok (.iconst 1, 1) := by decide +kernel
theorem dX8_king_19 : decode cX8_king 19 = .ok (.goto 4, 3) := by decide +kernel
theorem dX8_king_22 : decode cX8_king 22 = .ok (.iconst (-1), 1) := by decide +kernel
theorem dX8_king_23 : decode cX8_king 23 = .ok (.if_icmp .ne 5, 3) := by decide +kernel
theorem dX8_king_26 : decode cX8_king 26 = .ok (.iload_n 2, 1) := by decide +kernel
theorem dX8_king_27 : decode cX8_king 27 = .ok (.ireturn, 1) := by decide +kernel
theorem dX8_king_28 : decode cX8_king 28 = .ok (.iinc 2 1, 3) := by decide +kernel
theorem dX8_king_31 : decode cX8_king 31 = .ok (.goto (-29), 3) := by decide +kernel
theorem dX8_king_34 : decode cX8_king 34 = .ok (.iconst (-1), 1) := by decide +kernel
theorem dX8_king_35 : decode cX8_king 35 = .ok (.ireturn, 1) := by decide +kernel
theorem dX8_isPlayed_0 : decode cX8_isPlayed 0 = .ok (.aload_n 0, 1) := by decide +kernel
theorem dX8_isPlayed_1 : decode cX8_isPlayed 1 = .ok (.iconst 0, 1) := by decide +kernel
theorem dX8_isPlayed_2 : decode cX8_isPlayed 2 = .ok (.invokevirtual 54, 3) := by decide +kernel
theorem dX8_isPlayed_5 : decode cX8_isPlayed 5 = .ok (.ifCond .lt 36, 3) := by decide +kernel
theorem dX8_isPlayed_8 : decode cX8_isPlayed 8 = .ok (.aload_n 0, 1) := by decide +kernel
theorem dX8_isPlayed_9 : decode cX8_isPlayed 9 = .ok (.iconst 1, 1) := by decide +kernel
theorem dX8_isPlayed_10 : decode cX8_isPlayed 10 = .ok (.invokevirtual 54, 3) := by decide +kernel
theorem dX8_isPlayed_13 : decode cX8_isPlayed 13 = .ok (.ifCond .lt 28, 3) := by decide +kernel
theorem dX8_isPlayed_16 : decode cX8_isPlayed 16 = .ok (.aload_n 0, 1) := by decide +kernel
theorem dX8_isPlayed_17 : decode cX8_isPlayed 17 = .ok (.aload_n 0, 1) := by decide +kernel
theorem dX8_isPlayed_18 : decode cX8_isPlayed 18 = .ok (.iconst 1, 1) := by decide +kernel
theorem dX8_isPlayed_19 : decode cX8_isPlayed 19 = .ok (.aload_n 0, 1) := by decide +kernel
theorem dX8_isPlayed_20 : decode cX8_isPlayed 20 = .ok (.getfield 28, 3) := by decide +kernel
theorem dX8_isPlayed_23 : decode cX8_isPlayed 23 = .ok (.isub, 1) := by decide +kernel
theorem dX8_isPlayed_24 : decode cX8_isPlayed 24 = .ok (.invokevirtual 54, 3) := by decide +kernel
theorem dX8_isPlayed_27 : decode cX8_isPlayed 27 = .ok (.aload_n 0, 1) := by decide +kernel
theorem dX8_isPlayed_28 : decode cX8_isPlayed 28 = .ok (.getfield 28, 3) := by decide +kernel
theorem dX8_isPlayed_31 : decode cX8_isPlayed 31 = .ok (.invokevirtual 57, 3) := by decide +kernel
theorem dX8_isPlayed_34 : decode cX8_isPlayed 34 = .ok (.ifCond .ne 7, 3) := by decide +kernel
theorem dX8_isPlayed_37 : decode cX8_isPlayed 37 = .ok (.iconst 1, 1) := by decide +kernel
theorem dX8_isPlayed_38 : decode cX8_isPlayed 38 = .ok (.goto 4, 3) := by decide +kernel
theorem dX8_isPlayed_41 : decode cX8_isPlayed 41 = .ok (.iconst 0, 1) := by decide +kernel
theorem dX8_isPlayed_42 : decode cX8_isPlayed 42 = .ok (.ireturn, 1) := by decide +kernel
theorem dX8_isFirst_0 : decode cX8_isFirst 0 = .ok (.iload_n 0, 1) := by decide +kernel
theorem dX8_isFirst_1 : decode cX8_isFirst 1 = .ok (.bipush 11, 2) := by decide +kernel
theorem dX8_isFirst_3 : decode cX8_isFirst 3 = .ok (.idiv, 1) := by decide +kernel
theorem dX8_isFirst_4 : decode cX8_isFirst 4 = .ok (.iconst 5, 1) := by decide +kernel
theorem dX8_isFirst_5 : decode cX8_isFirst 5 = .ok (.isub, 1) := by decide +kernel
theorem dX8_isFirst_6 : decode cX8_isFirst 6 = .ok (.istore_n 2, 1) := by decide +kernel
theorem dX8_isFirst_7 : decode cX8_isFirst 7 = .ok (.iload_n 0, 1) := by decide +kernel
theorem dX8_isFirst_8 : decode cX8_isFirst 8 = .ok (.bipush 11, 2) := by decide +kernel
theorem dX8_isFirst_10 : decode cX8_isFirst 10 = .ok (.irem, 1) := by decide +kernel
theorem dX8_isFirst_11 : decode cX8_isFirst 11 = .ok (.iconst 5, 1) := by decide +kernel
theorem dX8_isFirst_12 : decode cX8_isFirst 12 = .ok (.isub, 1) := by decide +kernel
theorem dX8_isFirst_13 : decode cX8_isFirst 13 = .ok (.istore_n 3, 1) := by decide +kernel
theorem dX8_isFirst_14 : decode cX8_isFirst 14 = .ok (.iload_n 2, 1) := by decide +kernel
theorem dX8_isFirst_15 : decode cX8_isFirst 15 = .ok (.invokestatic 21, 3) := by decide +kernel
theorem dX8_isFirst_18 : decode cX8_isFirst 18 = .ok (.iconst 5, 1) := by decide +kernel
theorem dX8_isFirst_19 : decode cX8_isFirst 19 = .ok (.if_icmp .ge 44, 3) := by decide +kernel
theorem dX8_isFirst_22 : decode cX8_isFirst 22 = .ok (.iload_n 1, 1) := by decide +kernel
theorem dX8_isFirst_23 : decode cX8_isFirst 23 = .ok (.ifCond .ne 21, 3) := by decide +kernel
theorem dX8_isFirst_26 : decode cX8_isFirst 26 = .ok (.iload_n 3, 1) := by decide +kernel
theorem dX8_isFirst_27 : decode cX8_isFirst 27 = .ok (.iload_n 2, 1) := by decide +kernel
theorem dX8_isFirst_28 : decode cX8_isFirst 28 = .ok (.ifCond .le 9, 3) := by decide +kernel
theorem dX8_isFirst_31 : decode cX8_isFirst 31 = .ok (.iconst (-1), 1) := by decide +kernel
theorem dX8_isFirst_32 : decode cX8_isFirst 32 = .ok (.iload_n 2, 1) := by decide +kernel
theorem dX8_isFirst_33 : decode cX8_isFirst 33 = .ok (.isub, 1) := by decide +kernel
theorem dX8_isFirst_34 : decode cX8_isFirst 34 = .ok (.goto 4, 3) := by decide +kernel
theorem dX8_isFirst_37 : decode cX8_isFirst 37 = .ok (.iconst (-1), 1) := by decide +kernel
theorem dX8_isFirst_38 : decode cX8_isFirst 38 = .ok (.if_icmp .ne 25, 3) := by decide +kernel
theorem dX8_isFirst_41 : decode cX8_isFirst 41 = .ok (.goto 18, 3) := by decide +kernel
theorem dX8_isFirst_44 : decode cX8_isFirst 44 = .ok (.iload_n 3, 1) := by decide +kernel
theorem dX8_isFirst_45 : decode cX8_isFirst 45 = .ok (.iload_n 2, 1) := by decide +kernel
theorem dX8_isFirst_46 : decode cX8_isFirst 46 = .ok (.ifCond .ge 9, 3) := by decide +kernel
theorem dX8_isFirst_49 : decode cX8_isFirst 49 = .ok (.iconst 1, 1) := by decide +kernel
theorem dX8_isFirst_50 : decode cX8_isFirst 50 = .ok (.iload_n 2, 1) := by decide +kernel
theorem dX8_isFirst_51 : decode cX8_isFirst 51 = .ok (.isub, 1) := by decide +kernel
theorem dX8_isFirst_52 : decode cX8_isFirst 52 = .ok (.goto 4, 3) := by decide +kernel
theorem dX8_isFirst_55 : decode cX8_isFirst 55 = .ok (.iconst 1, 1) := by decide +kernel
theorem dX8_isFirst_56 : decode cX8_isFirst 56 = .ok (.if_icmp .ne 7, 3) := by decide +kernel
theorem dX8_isFirst_59 : decode cX8_isFirst 59 = .ok (.iconst 1, 1) := by decide +kernel
theorem dX8_isFirst_60 : decode cX8_isFirst 60 = .ok (.goto 4, 3) := by decide +kernel
theorem dX8_isFirst_63 : decode cX8_isFirst 63 = .ok (.iconst 0, 1) := by decide +kernel
theorem dX8_isFirst_64 : decode cX8_isFirst 64 = .ok (.ireturn, 1) := by decide +kernel
theorem dX8_isLast_0 : decode cX8_isLast 0 = .ok (.iload_n 1, 1) := by decide +kernel
theorem dX8_isLast_1 : decode cX8_isLast 1 = .ok (.bipush 11, 2) := by decide +kernel
theorem dX8_isLast_3 : decode cX8_isLast 3 = .ok (.idiv, 1) := by decide +kernel
theorem dX8_isLast_4 : decode cX8_isLast 4 = .ok (.iconst 5, 1) := by decide +kernel
theorem dX8_isLast_5 : decode cX8_isLast 5 = .ok (.isub, 1) := by decide +kernel
theorem dX8_isLast_6 : decode cX8_isLast 6 = .ok (.iload_n 1, 1) := by decide +kernel
theorem dX8_isLast_7 : decode cX8_isLast 7 = .ok (.bipush 11, 2) := by decide +kernel
theorem dX8_isLast_9 : decode cX8_isLast 9 = .ok (.irem, 1) := by decide +kernel
theorem dX8_isLast_10 : decode cX8_isLast 10 = .ok (.iconst 5, 1) := by decide +kernel
theorem dX8_isLast_11 : decode cX8_isLast 11 = .ok (.isub, 1) := by decide +kernel
theorem dX8_isLast_12 : decode cX8_isLast 12 = .ok (.iload_n 2, 1) := by decide +kernel
theorem dX8_isLast_13 : decode cX8_isLast 13 = .ok (.ifCond .ne 7, 3) := by decide +kernel
theorem dX8_isLast_16 : decode cX8_isLast 16 = .ok (.iconst 1, 1) := by decide +kernel
theorem dX8_isLast_17 : decode cX8_isLast 17 = .ok (.goto 4, 3) := by decide +kernel
theorem dX8_isLast_20 : decode cX8_isLast 20 = .ok (.iconst (-1), 1) := by decide +kernel
theorem dX8_isLast_21 : decode cX8_isLast 21 = .ok (.iadd, 1) := by decide +kernel
theorem dX8_isLast_22 : decode cX8_isLast 22 = .ok (.invokestatic 17, 3) := by decide +kernel
theorem dX8_isLast_25 : decode cX8_isLast 25 = .ok (.ifCond .ne 7, 3) := by decide +kernel
theorem dX8_isLast_28 : decode cX8_isLast 28 = .ok (.iconst 1, 1) := by decide +kernel
theorem dX8_isLast_29 : decode cX8_isLast 29 = .ok (.goto 4, 3) := by decide +kernel
theorem dX8_isLast_32 : decode cX8_isLast 32 = .ok (.iconst 0, 1) := by decide +kernel
theorem dX8_isLast_33 : decode cX8_isLast 33 = .ok (.ireturn, 1) := by decide +kernel
theorem dX8_could_0 : decode cX8_could 0 = .ok (.aload_n 0, 1) := by decide +kernel
theorem dX8_could_1 : decode cX8_could 1 = .ok (.iload_n 2, 1) := by decide +kernel
theorem dX8_could_2 : decode cX8_could 2 = .ok (.aload_n 0, 1) := by decide +kernel
theorem dX8_could_3 : decode cX8_could 3 = .ok (.getfield 28, 3) := by decide +kernel
theorem dX8_could_6 : decode cX8_could 6 = .ok (.invokevirtual 48, 3) := by decide +kernel
theorem dX8_could_9 : decode cX8_could 9 = .ok (.ifCond .eq 5, 3) := by decide +kernel
theorem dX8_could_12 : decode cX8_could 12 = .ok (.iconst 0, 1) := by decide +kernel
theorem dX8_could_13 : decode cX8_could 13 = .ok (.ireturn, 1) := by decide +kernel
theorem dX8_could_14 : decode cX8_could 14 = .ok (.aload_n 0, 1) := by decide +kernel
theorem dX8_could_15 : decode cX8_could 15 = .ok (.getfield 7, 3) := by decide +kernel
theorem dX8_could_18 : decode cX8_could 18 = .ok (.iload_n 1, 1) := by decide +kernel
theorem dX8_could_19 : decode cX8_could 19 = .ok (.iaload, 1) := by decide +kernel
theorem dX8_could_20 : decode cX8_could 20 = .ok (.invokestatic 21, 3) := by decide +kernel
theorem dX8_could_23 : decode cX8_could 23 = .ok (.bipush 6, 2) := by decide +kernel
theorem dX8_could_25 : decode cX8_could 25 = .ok (.if_icmp .eq 10, 3) := by decide +kernel
theorem dX8_could_28 : decode cX8_could 28 = .ok (.aload_n 0, 1) := by decide +kernel
theorem dX8_could_29 : decode cX8_could 29 = .ok (.iload_n 1, 1) := by decide +kernel
theorem dX8_could_30 : decode cX8_could 30 = .ok (.iload_n 2, 1) := by decide +kernel
theorem dX8_could_31 : decode cX8_could 31 = .ok (.invokevirtual 51, 3) := by decide +kernel
theorem dX8_could_34 : decode cX8_could 34 = .ok (.ireturn, 1) := by decide +kernel
theorem dX8_could_35 : decode cX8_could 35 = .ok (.aload_n 0, 1) := by decide +kernel
theorem dX8_could_36 : decode cX8_could 36 = .ok (.getfield 28, 3) := by decide +kernel
theorem dX8_could_39 : decode cX8_could 39 = .ok (.ifCond .ne 7, 3) := by decide +kernel
theorem dX8_could_42 : decode cX8_could 42 = .ok (.iconst 1, 1) := by decide +kernel
theorem dX8_could_43 : decode cX8_could 43 = .ok (.goto 4, 3) := by decide +kernel
theorem dX8_could_46 : decode cX8_could 46 = .ok (.iconst (-1), 1) := by decide +kernel
theorem dX8_could_47 : decode cX8_could 47 = .ok (.istore_n 3, 1) := by decide +kernel
theorem dX8_could_48 : decode cX8_could 48 = .ok (.iload_n 2, 1) := by decide +kernel
theorem dX8_could_49 : decode cX8_could 49 = .ok (.iload_n 1, 1) := by decide +kernel
theorem dX8_could_50 : decode cX8_could 50 = .ok (.iload_n 3, 1) := by decide +kernel
theorem dX8_could_51 : decode cX8_could 51 = .ok (.iadd, 1) := by decide +kernel
theorem dX8_could_52 : decode cX8_could 52 = .ok (.if_icmp .ne 29, 3) := by decide +kernel
theorem dX8_could_55 : decode cX8_could 55 = .ok (.iload_n 2, 1) := by decide +kernel
theorem dX8_could_56 : decode cX8_could 56 = .ok (.bipush 11, 2) := by decide +kernel
theorem dX8_could_58 : decode cX8_could 58 = .ok (.idiv, 1) := by decide +kernel
theorem dX8_could_59 : decode cX8_could 59 = .ok (.iload_n 1, 1) := by decide +kernel
theorem dX8_could_60 : decode cX8_could 60 = .ok (.bipush 11, 2) := by decide +kernel
theorem dX8_could_62 : decode cX8_could 62 = .ok (.idiv, 1) := by decide +kernel
theorem dX8_could_63 : decode cX8_could 63 = .ok (.if_icmp .ne 18, 3) := by decide +kernel
theorem dX8_could_66 : decode cX8_could 66 = .ok (.aload_n 0, 1) := by decide +kernel
theorem dX8_could_67 : decode cX8_could 67 = .ok (.getfield 7, 3) := by decide +kernel
theorem dX8_could_70 : decode cX8_could 70 = .ok (.iload_n 2, 1) := by decide +kernel
theorem dX8_could_71 : decode cX8_could 71 = .ok (.iaload, 1) := by decide +kernel
theorem dX8_could_72 : decode cX8_could 72 = .ok (.ifCond .ne 7, 3) := by decide +kernel
theorem dX8_could_75 : decode cX8_could 75 = .ok (.iconst 1, 1) := by decide +kernel
theorem dX8_could_76 : decode cX8_could 76 = .ok (.goto 4, 3) := by decide +kernel
theorem dX8_could_79 : decode cX8_could 79 = .ok (.iconst 0, 1) := by decide +kernel
theorem dX8_could_80 : decode cX8_could 80 = .ok (.ireturn, 1) := by decide +kernel
theorem dX8_could_81 : decode cX8_could 81 = .ok (.iload_n 2, 1) := by decide +kernel
theorem dX8_could_82 : decode cX8_could 82 = .ok (.iload_n 1, 1) := by decide +kernel
theorem dX8_could_83 : decode cX8_could 83 = .ok (.iconst 2, 1) := by decide +kernel
theorem dX8_could_84 : decode cX8_could 84 = .ok (.iload_n 3, 1) := by decide +kernel
theorem dX8_could_85 : decode cX8_could 85 = .ok (.imul, 1) := by decide +kernel
theorem dX8_could_86 : decode cX8_could 86 = .ok (.iadd, 1) := by decide +kernel
theorem dX8_could_87 : decode cX8_could 87 = .ok (.if_icmp .ne 51, 3) := by decide +kernel
theorem dX8_could_90 : decode cX8_could 90 = .ok (.iload_n 2, 1) := by decide +kernel
theorem dX8_could_91 : decode cX8_could 91 = .ok (.bipush 11, 2) := by decide +kernel
theorem dX8_could_93 : decode cX8_could 93 = .ok (.idiv, 1) := by decide +kernel
theorem dX8_could_94 : decode cX8_could 94 = .ok (.iload_n 1, 1) := by decide +kernel
theorem dX8_could_95 : decode cX8_could 95 = .ok (.bipush 11, 2) := by decide +kernel
theorem dX8_could_97 : decode cX8_could 97 = .ok (.idiv, 1) := by decide +kernel
theorem dX8_could_98 : decode cX8_could 98 = .ok (.if_icmp .ne 40, 3) := by decide +kernel
theorem dX8_could_101 : decode cX8_could 101 = .ok (.iload_n 1, 1) := by decide +kernel
theorem dX8_could_102 : decode cX8_could 102 = .ok (.aload_n 0, 1) := by decide +kernel
theorem dX8_could_103 : decode cX8_could 103 = .ok (.getfield 28, 3) := by decide +kernel
theorem dX8_could_106 : decode cX8_could 106 = .ok (.invokestatic 60, 3) := by decide +kernel
theorem dX8_could_109 : decode cX8_could 109 = .ok (.ifCond .eq 27, 3) := by decide +kernel
theorem dX8_could_112 : decode cX8_could 112 = .ok (.aload_n 0, 1) := by decide +kernel
theorem dX8_could_113 : decode cX8_could 113 = .ok (.getfield 7, 3) := by decide +kernel
theorem dX8_could_116 : decode cX8_could 116 = .ok (.iload_n 1, 1) := by decide +kernel
theorem dX8_could_117 : decode cX8_could 117 = .ok (.iload_n 3, 1) := by decide +kernel
theorem dX8_could_118 : decode cX8_could 118 = .ok (.iadd, 1) := by decide +kernel
theorem dX8_could_119 : decode cX8_could 119 = .ok (.iaload, 1) := by decide +kernel
theorem dX8_could_120 : decode cX8_could 120 = .ok (.ifCond .ne 16, 3) := by decide +kernel
theorem dX8_could_123 : decode cX8_could 123 = .ok (.aload_n 0, 1) := by decide +kernel
theorem dX8_could_124 : decode cX8_could 124 = .ok (.getfield 7, 3) := by decide +kernel
theorem dX8_could_127 : decode cX8_could 127 = .ok (.iload_n 2, 1) := by decide +kernel
theorem dX8_could_128 : decode cX8_could 128 = .ok (.iaload, 1) := by decide +kernel
theorem dX8_could_129 : decode cX8_could 129 = .ok (.ifCond .ne 7, 3) := by decide +kernel
theorem dX8_could_132 : decode cX8_could 132 = .ok (.iconst 1, 1) := by decide +kernel
theorem dX8_could_133 : decode cX8_could 133 = .ok (.goto 4, 3) := by decide +kernel
theorem dX8_could_136 : decode cX8_could 136 = .ok (.iconst 0, 1) := by decide +kernel
theorem dX8_could_137 : decode cX8_could 137 = .ok (.ireturn, 1) := by decide +kernel
theorem dX8_could_138 : decode cX8_could 138 = .ok (.aload_n 0, 1) := by decide +kernel
theorem dX8_could_139 : decode cX8_could 139 = .ok (.iload_n 1, 1) := by decide +kernel
theorem dX8_could_140 : decode cX8_could 140 = .ok (.iload_n 2, 1) := by decide +kernel
theorem dX8_could_141 : decode cX8_could 141 = .ok (.invokevirtual 51, 3) := by decide +kernel
theorem dX8_could_144 : decode cX8_could 144 = .ok (.ifCond .eq 24, 3) := by decide +kernel
theorem dX8_could_147 : decode cX8_could 147 = .ok (.aload_n 0, 1) := by decide +kernel
theorem dX8_could_148 : decode cX8_could 148 = .ok (.getfield 7, 3) := by decide +kernel
theorem dX8_could_151 : decode cX8_could 151 = .ok (.iload_n 2, 1) := by decide +kernel
theorem dX8_could_152 : decode cX8_could 152 = .ok (.iaload, 1) := by decide +kernel
theorem dX8_could_153 : decode cX8_could 153 = .ok (.ifCond .ne 11, 3) := by decide +kernel
theorem dX8_could_156 : decode cX8_could 156 = .ok (.iload_n 2, 1) := by decide +kernel
theorem dX8_could_157 : decode cX8_could 157 = .ok (.aload_n 0, 1) := by decide +kernel
theorem dX8_could_158 : decode cX8_could 158 = .ok (.getfield 13, 3) := by decide +kernel
theorem dX8_could_161 : decode cX8_could 161 = .ok (.if_icmp .ne 7, 3) := by decide +kernel
theorem dX8_could_164 : decode cX8_could 164 = .ok (.iconst 1, 1) := by decide +kernel
theorem dX8_could_165 : decode cX8_could 165 = .ok (.goto 4, 3) := by decide +kernel
theorem dX8_could_168 : decode cX8_could 168 = .ok (.iconst 0, 1) := by decide +kernel
theorem dX8_could_169 : decode cX8_could 169 = .ok (.ireturn, 1) := by decide +kernel
theorem dX8_go_0 : decode cX8_go 0 = .ok (.aload_n 0, 1) := by decide +kernel
theorem dX8_go_1 : decode cX8_go 1 = .ok (.getfield 7, 3) := by decide +kernel
theorem dX8_go_4 : decode cX8_go 4 = .ok (.iload_n 1, 1) := by decide +kernel
theorem dX8_go_5 : decode cX8_go 5 = .ok (.iaload, 1) := by decide +kernel
theorem dX8_go_6 : decode cX8_go 6 = .ok (.invokestatic 21, 3) := by decide +kernel
theorem dX8_go_9 : decode cX8_go 9 = .ok (.istore 4, 2) := by decide +kernel
theorem dX8_go_11 : decode cX8_go 11 = .ok (.aload_n 0, 1) := by decide +kernel
theorem dX8_go_12 : decode cX8_go 12 = .ok (.getfield 28, 3) := by decide +kernel
theorem dX8_go_15 : decode cX8_go 15 = .ok (.ifCond .ne 7, 3) := by decide +kernel
theorem dX8_go_18 : decode cX8_go 18 = .ok (.iconst 1, 1) := by decide +kernel
theorem dX8_go_19 : decode cX8_go 19 = .ok (.goto 4, 3) := by decide +kernel
theorem dX8_go_22 : decode cX8_go 22 = .ok (.iconst (-1), 1) := by decide +kernel
theorem dX8_go_23 : decode cX8_go 23 = .ok (.istore 5, 2) := by decide +kernel
theorem dX8_go_25 : decode cX8_go 25 = .ok (.iload 4, 2) := by decide +kernel
theorem dX8_go_27 : decode cX8_go 27 = .ok (.bipush 6, 2) := by decide +kernel
theorem dX8_go_29 : decode cX8_go 29 = .ok (.if_icmp .ne 29, 3) := by decide +kernel
theorem dX8_go_32 : decode cX8_go 32 = .ok (.iload_n 2, 1) := by decide +kernel
theorem dX8_go_33 : decode cX8_go 33 = .ok (.aload_n 0, 1) := by decide +kernel
theorem dX8_go_34 : decode cX8_go 34 = .ok (.getfield 13, 3) := by decide +kernel
theorem dX8_go_37 : decode cX8_go 37 = .ok (.if_icmp .ne 21, 3) := by decide +kernel
theorem dX8_go_40 : decode cX8_go 40 = .ok (.iload_n 1, 1) := by decide +kernel
theorem dX8_go_41 : decode cX8_go 41 = .ok (.bipush 11, 2) := by decide +kernel
theorem dX8_go_43 : decode cX8_go 43 = .ok (.idiv, 1) := by decide +kernel
theorem dX8_go_44 : decode cX8_go 44 = .ok (.iload_n 2, 1) := by decide +kernel
theorem dX8_go_45 : decode cX8_go 45 = .ok (.bipush 11, 2) := by decide +kernel
theorem dX8_go_47 : decode cX8_go 47 = .ok (.idiv, 1) := by decide +kernel
theorem dX8_go_48 : decode cX8_go 48 = .ok (.if_icmp .eq 10, 3) := by decide +kernel
theorem dX8_go_51 : decode cX8_go 51 = .ok (.iload_n 2, 1) := by decide +kernel
theorem dX8_go_52 : decode cX8_go 52 = .ok (.iload 5, 2) := by decide +kernel
theorem dX8_go_54 : decode cX8_go 54 = .ok (.isub, 1) := by decide +kernel
theorem dX8_go_55 : decode cX8_go 55 = .ok (.goto 4, 3) := by decide +kernel
theorem dX8_go_58 : decode cX8_go 58 = .ok (.iload_n 2, 1) := by decide +kernel
theorem dX8_go_59 : decode cX8_go 59 = .ok (.istore 6, 2) := by decide +kernel
theorem dX8_go_61 : decode cX8_go 61 = .ok (.aload_n 0, 1) := by decide +kernel
theorem dX8_go_62 : decode cX8_go 62 = .ok (.getfield 7, 3) := by decide +kernel
theorem dX8_go_65 : decode cX8_go 65 = .ok (.iload 6, 2) := by decide +kernel
theorem dX8_go_67 : decode cX8_go 67 = .ok (.iaload, 1) := by decide +kernel
theorem dX8_go_68 : decode cX8_go 68 = .ok (.invokestatic 21, 3) := by decide +kernel
theorem dX8_go_71 : decode cX8_go 71 = .ok (.istore 7, 2) := by decide +kernel
theorem dX8_go_73 : decode cX8_go 73 = .ok (.aload_n 0, 1) := by decide +kernel
theorem dX8_go_74 : decode cX8_go 74 = .ok (.getfield 7, 3) := by decide +kernel
theorem dX8_go_77 : decode cX8_go 77 = .ok (.iload 6, 2) := by decide +kernel
theorem dX8_go_79 : decode cX8_go 79 = .ok (.iconst 0, 1) := by decide +kernel
theorem dX8_go_80 : decode cX8_go 80 = .ok (.iastore, 1) := by decide +kernel
theorem dX8_go_81 : decode cX8_go 81 = .ok (.aload_n 0, 1) := by decide +kernel
theorem dX8_go_82 : decode cX8_go 82 = .ok (.getfield 7, 3) := by decide +kernel
theorem dX8_go_85 : decode cX8_go 85 = .ok (.iload_n 2, 1) := by decide +kernel
theorem dX8_go_86 : decode cX8_go 86 = .ok (.iload 4, 2) := by decide +kernel
theorem dX8_go_88 : decode cX8_go 88 = .ok (.bipush 6, 2) := by decide +kernel
theorem dX8_go_90 : decode cX8_go 90 = .ok (.if_icmp .ne 22, 3) := by decide +kernel
theorem dX8_go_93 : decode cX8_go 93 = .ok (.aload_n 0, 1) := by decide +kernel
theorem dX8_go_94 : decode cX8_go 94 = .ok (.iload_n 2, 1) := by decide +kernel
theorem dX8_go_95 : decode cX8_go 95 = .ok (.aload_n 0, 1) := by decide +kernel
theorem dX8_go_96 : decode cX8_go 96 = .ok (.getfield 28, 3) := by decide +kernel
theorem dX8_go_99 : decode cX8_go 99 = .ok (.invokevirtual 63, 3) := by decide +kernel
theorem dX8_go_102 : decode cX8_go 102 = .ok (.ifCond .eq 10, 3) := by decide +kernel
theorem dX8_go_105 : decode cX8_go 105 = .ok (.iload_n 3, 1) := by decide +kernel
theorem dX8_go_106 : decode cX8_go 106 = .ok (.iload 5, 2) := by decide +kernel
theorem dX8_go_108 : decode cX8_go 108 = .ok (.imul, 1) := by decide +kernel
theorem dX8_go_109 : decode cX8_go 109 = .ok (.goto 9, 3) := by decide +kernel
theorem dX8_go_112 : decode cX8_go 112 = .ok (.aload_n 0, 1) := by decide +kernel
theorem dX8_go_113 : decode cX8_go 113 = .ok (.getfield 7, 3) := by decide +kernel
theorem dX8_go_116 : decode cX8_go 116 = .ok (.iload_n 1, 1) := by decide +kernel
theorem dX8_go_117 : decode cX8_go 117 = .ok (.iaload, 1) := by decide +kernel
theorem dX8_go_118 : decode cX8_go 118 = .ok (.iastore, 1) := by decide +kernel
theorem dX8_go_119 : decode cX8_go 119 = .ok (.aload_n 0, 1) := by decide +kernel
theorem dX8_go_120 : decode cX8_go 120 = .ok (.getfield 7, 3) := by decide +kernel
theorem dX8_go_123 : decode cX8_go 123 = .ok (.iload_n 1, 1) := by decide +kernel
theorem dX8_go_124 : decode cX8_go 124 = .ok (.iconst 0, 1) := by decide +kernel
theorem dX8_go_125 : decode cX8_go 125 = .ok (.iastore, 1) := by decide +kernel
theorem dX8_go_126 : decode cX8_go 126 = .ok (.aload_n 0, 1) := by decide +kernel
theorem dX8_go_127 : decode cX8_go 127 = .ok (.iload 4, 2) := by decide +kernel
theorem dX8_go_129 : decode cX8_go 129 = .ok (.bipush 6, 2) := by decide +kernel
theorem dX8_go_131 : decode cX8_go 131 = .ok (.if_icmp .ne 20, 3) := by decide +kernel
theorem dX8_go_134 : decode cX8_go 134 = .ok (.iload_n 2, 1) := by decide +kernel
theorem dX8_go_135 : decode cX8_go 135 = .ok (.iload_n 1, 1) := by decide +kernel
theorem dX8_go_136 : decode cX8_go 136 = .ok (.isub, 1) := by decide +kernel
theorem dX8_go_137 : decode cX8_go 137 = .ok (.iconst 2, 1) := by decide +kernel
theorem dX8_go_138 : decode cX8_go 138 = .ok (.iload 5, 2) := by decide +kernel
theorem dX8_go_140 : decode cX8_go 140 = .ok (.imul, 1) := by decide +kernel
theorem dX8_go_141 : decode cX8_go 141 = .ok (.if_icmp .ne 10, 3) := by decide +kernel
theorem dX8_go_144 : decode cX8_go 144 = .ok (.iload_n 1, 1) := by decide +kernel
theorem dX8_go_145 : decode cX8_go 145 = .ok (.iload 5, 2) := by decide +kernel
theorem dX8_go_147 : decode cX8_go 147 = .ok (.iadd, 1) := by decide +kernel
theorem dX8_go_148 : decode cX8_go 148 = .ok (.goto 4, 3) := by decide +kernel
theorem dX8_go_151 : decode cX8_go 151 = .ok (.iconst (-1), 1) := by decide +kernel
theorem dX8_go_152 : decode cX8_go 152 = .ok (.putfield 13, 3) := by decide +kernel
theorem dX8_go_155 : decode cX8_go 155 = .ok (.aload_n 0, 1) := by decide +kernel
theorem dX8_go_156 : decode cX8_go 156 = .ok (.iload 4, 2) := by decide +kernel
theorem dX8_go_158 : decode cX8_go 158 = .ok (.bipush 6, 2) := by decide +kernel
theorem dX8_go_160 : decode cX8_go 160 = .ok (.if_icmp .eq 8, 3) := by decide +kernel
theorem dX8_go_163 : decode cX8_go 163 = .ok (.iload 7, 2) := by decide +kernel
theorem dX8_go_165 : decode cX8_go 165 = .ok (.ifCond .le 7, 3) := by decide +kernel
theorem dX8_go_168 : decode cX8_go 168 = .ok (.iconst 0, 1) := by decide +kernel
theorem dX8_go_169 : decode cX8_go 169 = .ok (.goto 9, 3) := by decide +kernel
theorem dX8_go_172 : decode cX8_go 172 = .ok (.aload_n 0, 1) := by decide +kernel
theorem dX8_go_173 : decode cX8_go 173 = .ok (.getfield 31, 3) := by decide +kernel
theorem dX8_go_176 : decode cX8_go 176 = .ok (.iconst 1, 1) := by decide +kernel
theorem dX8_go_177 : decode cX8_go 177 = .ok (.iadd, 1) := by decide +kernel
theorem dX8_go_178 : decode cX8_go 178 = .ok (.putfield 31, 3) := by decide +kernel
theorem dX8_go_181 : decode cX8_go 181 = .ok (.aload_n 0, 1) := by decide +kernel
theorem dX8_go_182 : decode cX8_go 182 = .ok (.iconst 1, 1) := by decide +kernel
theorem dX8_go_183 : decode cX8_go 183 = .ok (.aload_n 0, 1) := by decide +kernel
theorem dX8_go_184 : decode cX8_go 184 = .ok (.getfield 28, 3) := by decide +kernel
theorem dX8_go_187 : decode cX8_go 187 = .ok (.isub, 1) := by decide +kernel
theorem dX8_go_188 : decode cX8_go 188 = .ok (.putfield 28, 3) := by decide +kernel
theorem dX8_go_191 : decode cX8_go 191 = .ok (.aload_n 0, 1) := by decide +kernel
theorem dX8_go_192 : decode cX8_go 192 = .ok (.dup, 1) := by decide +kernel
theorem dX8_go_193 : decode cX8_go 193 = .ok (.getfield 34, 3) := by decide +kernel
theorem dX8_go_196 : decode cX8_go 196 = .ok (.iconst 1, 1) := by decide +kernel
theorem dX8_go_197 : decode cX8_go 197 = .ok (.iadd, 1) := by decide +kernel
theorem dX8_go_198 : decode cX8_go 198 = .ok (.putfield 34, 3) := by decide +kernel
theorem dX8_go_201 : decode cX8_go 201 = .ok (.iload 7, 2) := by decide +kernel
theorem dX8_go_203 : decode cX8_go 203 = .ok (.ireturn, 1) := by decide +kernel
theorem dX8_isLegal_0 : decode cX8_isLegal 0 = .ok (.aload_n 0, 1) := by decide +kernel
theorem dX8_isLegal_1 : decode cX8_isLegal 1 = .ok (.getfield 7, 3) := by decide +kernel
theorem dX8_isLegal_4 : decode cX8_isLegal 4 = .ok (.iload_n 2, 1) := by decide +kernel
theorem dX8_isLegal_5 : decode cX8_isLegal 5 = .ok (.iaload, 1) := by decide +kernel
theorem dX8_isLegal_6 : decode cX8_isLegal 6 = .ok (.bipush 99, 2) := by decide +kernel
theorem dX8_isLegal_8 : decode cX8_isLegal 8 = .ok (.if_icmp .eq 12, 3) := by decide +kernel
theorem dX8_isLegal_11 : decode cX8_isLegal 11 = .ok (.aload_n 0, 1) := by decide +kernel
theorem dX8_isLegal_12 : decode cX8_isLegal 12 = .ok (.iload_n 1, 1) := by decide +kernel
theorem dX8_isLegal_13 : decode cX8_isLegal 13 = .ok (.iload_n 2, 1) := by decide +kernel
theorem dX8_isLegal_14 : decode cX8_isLegal 14 = .ok (.invokevirtual 66, 3) := by decide +kernel
theorem dX8_isLegal_17 : decode cX8_isLegal 17 = .ok (.ifCond .ne 5, 3) := by decide +kernel
theorem dX8_isLegal_20 : decode cX8_isLegal 20 = .ok (.iconst 0, 1) := by decide +kernel
theorem dX8_isLegal_21 : decode cX8_isLegal 21 = .ok (.ireturn, 1) := by decide +kernel
theorem dX8_isLegal_22 : decode cX8_isLegal 22 = .ok (.aload_n 0, 1) := by decide +kernel
theorem dX8_isLegal_23 : decode cX8_isLegal 23 = .ok (.invokevirtual 69, 3) := by decide +kernel
theorem dX8_isLegal_26 : decode cX8_isLegal 26 = .ok (.astore_n 3, 1) := by decide +kernel
theorem dX8_isLegal_27 : decode cX8_isLegal 27 = .ok (.aload_n 3, 1) := by decide +kernel
theorem dX8_isLegal_28 : decode cX8_isLegal 28 = .ok (.iload_n 1, 1) := by decide +kernel
theorem dX8_isLegal_29 : decode cX8_isLegal 29 = .ok (.iload_n 2, 1) := by decide +kernel
theorem dX8_isLegal_30 : decode cX8_isLegal 30 = .ok (.iconst 2, 1) := by decide +kernel
theorem dX8_isLegal_31 : decode cX8_isLegal 31 = .ok (.invokevirtual 73, 3) := by decide +kernel
theorem dX8_isLegal_34 : decode cX8_isLegal 34 = .ok (.pop, 1) := by decide +kernel
theorem dX8_isLegal_35 : decode cX8_isLegal 35 = .ok (.aload_n 3, 1) := by decide +kernel
theorem dX8_isLegal_36 : decode cX8_isLegal 36 = .ok (.aload_n 3, 1) := by decide +kernel
theorem dX8_isLegal_37 : decode cX8_isLegal 37 = .ok (.aload_n 0, 1) := by decide +kernel
theorem dX8_isLegal_38 : decode cX8_isLegal 38 = .ok (.getfield 28, 3) := by decide +kernel
theorem dX8_isLegal_41 : decode cX8_isLegal 41 = .ok (.invokevirtual 54, 3) := by decide +kernel
theorem dX8_isLegal_44 : decode cX8_isLegal 44 = .ok (.aload_n 3, 1) := by decide +kernel
theorem dX8_isLegal_45 : decode cX8_isLegal 45 = .ok (.getfield 28, 3) := by decide +kernel
theorem dX8_isLegal_48 : decode cX8_isLegal 48 = .ok (.invokevirtual 57, 3) := by decide +kernel
theorem dX8_isLegal_51 : decode cX8_isLegal 51 = .ok (.ifCond .ne 7, 3) := by decide +kernel
theorem dX8_isLegal_54 : decode cX8_isLegal 54 = .ok (.iconst 1, 1) := by decide +kernel
theorem dX8_isLegal_55 : decode cX8_isLegal 55 = .ok (.goto 4, 3) := by decide +kernel
theorem dX8_isLegal_58 : decode cX8_isLegal 58 = .ok (.iconst 0, 1) := by decide +kernel
theorem dX8_isLegal_59 : decode cX8_isLegal 59 = .ok (.ireturn, 1) := by decide +kernel
theorem dX8_all_0 : decode cX8_all 0 = .ok (.iconst 0, 1) := by decide +kernel
theorem dX8_all_1 : decode cX8_all 1 = .ok (.newarray .int, 2) := by decide +kernel
theorem dX8_all_3 : decode cX8_all 3 = .ok (.astore_n 1, 1) := by decide +kernel
theorem dX8_all_4 : decode cX8_all 4 = .ok (.aload_n 0, 1) := by decide +kernel
theorem dX8_all_5 : decode cX8_all 5 = .ok (.invokevirtual 77, 3) := by decide +kernel
theorem dX8_all_8 : decode cX8_all 8 = .ok (.ifCond .ne 5, 3) := by decide +kernel
theorem dX8_all_11 : decode cX8_all 11 = .ok (.aload_n 1, 1) := by decide +kernel
theorem dX8_all_12 : decode cX8_all 12 = .ok (.areturn, 1) := by decide +kernel
theorem dX8_all_13 : decode cX8_all 13 = .ok (.iconst 0, 1) := by decide +kernel
theorem dX8_all_14 : decode cX8_all 14 = .ok (.istore_n 2, 1) := by decide +kernel
theorem dX8_all_15 : decode cX8_all 15 = .ok (.iload_n 2, 1) := by decide +kernel
theorem dX8_all_16 : decode cX8_all 16 = .ok (.bipush 91, 2) := by decide +kernel
theorem dX8_all_18 : decode cX8_all 18 = .ok (.if_icmp .ge 109, 3) := by decide +kernel
theorem dX8_all_21 : decode cX8_all 21 = .ok (.iload_n 2, 1) := by decide +kernel
theorem dX8_all_22 : decode cX8_all 22 = .ok (.invokestatic 81, 3) := by decide +kernel
theorem dX8_all_25 : decode cX8_all 25 = .ok (.istore_n 3, 1) := by decide +kernel
theorem dX8_all_26 : decode cX8_all 26 = .ok (.aload_n 0, 1) := by decide +kernel
theorem dX8_all_27 : decode cX8_all 27 = .ok (.iload_n 3, 1) := by decide +kernel
theorem dX8_all_28 : decode cX8_all 28 = .ok (.aload_n 0, 1) := by decide +kernel
theorem dX8_all_29 : decode cX8_all 29 = .ok (.getfield 28, 3) := by decide +kernel
theorem dX8_all_32 : decode cX8_all 32 = .ok (.invokevirtual 48, 3) := by decide +kernel
theorem dX8_all_35 : decode cX8_all 35 = .ok (.ifCond .ne 6, 3) := by decide +kernel
theorem dX8_all_38 : decode cX8_all 38 = .ok (.goto 83, 3) := by decide +kernel
theorem dX8_all_41 : decode cX8_all 41 = .ok (.iconst 0, 1) := by decide +kernel
theorem dX8_all_42 : decode cX8_all 42 = .ok (.istore 4, 2) := by decide +kernel
theorem dX8_all_44 : decode cX8_all 44 = .ok (.iload 4, 2) := by decide +kernel
theorem dX8_all_46 : decode cX8_all 46 = .ok (.bipush 91, 2) := by decide +kernel
theorem dX8_all_48 : decode cX8_all 48 = .ok (.if_icmp .ge 73, 3) := by decide +kernel
theorem dX8_all_51 : decode cX8_all 51 = .ok (.aload_n 0, 1) := by decide +kernel
theorem dX8_all_52 : decode cX8_all 52 = .ok (.iload_n 3, 1) := by decide +kernel
theorem dX8_all_53 : decode cX8_all 53 = .ok (.iload 4, 2) := by decide +kernel
theorem dX8_all_55 : decode cX8_all 55 = .ok (.invokestatic 81, 3) := by decide +kernel
theorem dX8_all_58 : decode cX8_all 58 = .ok (.invokevirtual 84, 3) := by decide +kernel
theorem dX8_all_61 : decode cX8_all 61 = .ok (.ifCond .ne 6, 3) := by decide +kernel
theorem dX8_all_64 : decode cX8_all 64 = .ok (.goto 51, 3) := by decide +kernel
theorem dX8_all_67 : decode cX8_all 67 = .ok (.aload_n 1, 1) := by decide +kernel
theorem dX8_all_68 : decode cX8_all 68 = .ok (.arraylength, 1) := by decide +kernel
theorem dX8_all_69 : decode cX8_all 69 = .ok (.iconst 1, 1) := by decide +kernel
theorem dX8_all_70 : decode cX8_all 70 = .ok (.iadd, 1) := by decide +kernel
theorem dX8_all_71 : decode cX8_all 71 = .ok (.newarray .int, 2) := by decide +kernel
theorem dX8_all_73 : decode cX8_all 73 = .ok (.astore 5, 2) := by decide +kernel
theorem dX8_all_75 : decode cX8_all 75 = .ok (.iconst 0, 1) := by decide +kernel
theorem dX8_all_76 : decode cX8_all 76 = .ok (.istore 6, 2) := by decide +kernel
theorem dX8_all_78 : decode cX8_all 78 = .ok (.iload 6, 2) := by decide +kernel
theorem dX8_all_80 : decode cX8_all 80 = .ok (.aload_n 1, 1) := by decide +kernel
theorem dX8_all_81 : decode cX8_all 81 = .ok (.arraylength, 1) := by decide +kernel
theorem dX8_all_82 : decode cX8_all 82 = .ok (.if_icmp .ge 18, 3) := by decide +kernel
theorem dX8_all_85 : decode cX8_all 85 = .ok (.aload 5, 2) := by decide +kernel
theorem dX8_all_87 : decode cX8_all 87 = .ok (.iload 6, 2) := by decide +kernel
theorem dX8_all_89 : decode cX8_all 89 = .ok (.aload_n 1, 1) := by decide +kernel
theorem dX8_all_90 : decode cX8_all 90 = .ok (.iload 6, 2) := by decide +kernel
theorem dX8_all_92 : decode cX8_all 92 = .ok (.iaload, 1) := by decide +kernel
theorem dX8_all_93 : decode cX8_all 93 = .ok (.iastore, 1) := by decide +kernel
theorem dX8_all_94 : decode cX8_all 94 = .ok (.iinc 6 1, 3) := by decide +kernel
theorem dX8_all_97 : decode cX8_all 97 = .ok (.goto (-19), 3) := by decide +kernel
theorem dX8_all_100 : decode cX8_all 100 = .ok (.aload 5, 2) := by decide +kernel
theorem dX8_all_102 : decode cX8_all 102 = .ok (.aload_n 1, 1) := by decide +kernel
theorem dX8_all_103 : decode cX8_all 103 = .ok (.arraylength, 1) := by decide +kernel
theorem dX8_all_104 : decode cX8_all 104 = .ok (.bipush 91, 2) := by decide +kernel
theorem dX8_all_106 : decode cX8_all 106 = .ok (.iload_n 2, 1) := by decide +kernel
theorem dX8_all_107 : decode cX8_all 107 = .ok (.imul, 1) := by decide +kernel
theorem dX8_all_108 : decode cX8_all 108 = .ok (.iload 4, 2) := by decide +kernel
theorem dX8_all_110 : decode cX8_all 110 = .ok (.iadd, 1) := by decide +kernel
theorem dX8_all_111 : decode cX8_all 111 = .ok (.iastore, 1) := by decide +kernel
theorem dX8_all_112 : decode cX8_all 112 = .ok (.aload 5, 2) := by decide +kernel
theorem dX8_all_114 : decode cX8_all 114 = .ok (.astore_n 1, 1) := by decide +kernel
theorem dX8_all_115 : decode cX8_all 115 = .ok (.iinc 4 1, 3) := by decide +kernel
theorem dX8_all_118 : decode cX8_all 118 = .ok (.goto (-74), 3) := by decide +kernel
theorem dX8_all_121 : decode cX8_all 121 = .ok (.iinc 2 1, 3) := by decide +kernel
theorem dX8_all_124 : decode cX8_all 124 = .ok (.goto (-109), 3) := by decide +kernel
theorem dX8_all_127 : decode cX8_all 127 = .ok (.aload_n 1, 1) := by decide +kernel
theorem dX8_all_128 : decode cX8_all 128 = .ok (.areturn, 1) := by decide +kernel
theorem dX8_legal_0 : decode cX8_legal 0 = .ok (.aload_n 0, 1) := by decide +kernel
theorem dX8_legal_1 : decode cX8_legal 1 = .ok (.getfield 31, 3) := by decide +kernel
theorem dX8_legal_4 : decode cX8_legal 4 = .ok (.bipush 60, 2) := by decide +kernel
theorem dX8_legal_6 : decode cX8_legal 6 = .ok (.if_icmp .lt 9, 3) := by decide +kernel
theorem dX8_legal_9 : decode cX8_legal 9 = .ok (.iconst 0, 1) := by decide +kernel
theorem dX8_legal_10 : decode cX8_legal 10 = .ok (.newarray .int, 2) := by decide +kernel
theorem dX8_legal_12 : decode cX8_legal 12 = .ok (.goto 7, 3) := by decide +kernel
theorem dX8_legal_15 : decode cX8_legal 15 = .ok (.aload_n 0, 1) := by decide +kernel
theorem dX8_legal_16 : decode cX8_legal 16 = .ok (.invokevirtual 87, 3) := by decide +kernel
theorem dX8_legal_19 : decode cX8_legal 19 = .ok (.areturn, 1) := by decide +kernel
theorem dX8_how_0 : decode cX8_how 0 = .ok (.aload_n 0, 1) := by decide +kernel
theorem dX8_how_1 : decode cX8_how 1 = .ok (.invokevirtual 77, 3) := by decide +kernel
theorem dX8_how_4 : decode cX8_how 4 = .ok (.ifCond .ne 5, 3) := by decide +kernel
theorem dX8_how_7 : decode cX8_how 7 = .ok (.iconst 5, 1) := by decide +kernel
theorem dX8_how_8 : decode cX8_how 8 = .ok (.ireturn, 1) := by decide +kernel
theorem dX8_how_9 : decode cX8_how 9 = .ok (.aload_n 0, 1) := by decide +kernel
theorem dX8_how_10 : decode cX8_how 10 = .ok (.aload_n 0, 1) := by decide +kernel
theorem dX8_how_11 : decode cX8_how 11 = .ok (.aload_n 0, 1) := by decide +kernel
theorem dX8_how_12 : decode cX8_how 12 = .ok (.getfield 28, 3) := by decide +kernel
theorem dX8_how_15 : decode cX8_how 15 = .ok (.invokevirtual 54, 3) := by decide +kernel
theorem dX8_how_18 : decode cX8_how 18 = .ok (.iconst 1, 1) := by decide +kernel
theorem dX8_how_19 : decode cX8_how 19 = .ok (.aload_n 0, 1) := by decide +kernel
theorem dX8_how_20 : decode cX8_how 20 = .ok (.getfield 28, 3) := by decide +kernel
theorem dX8_how_23 : decode cX8_how 23 = .ok (.isub, 1) := by decide +kernel
theorem dX8_how_24 : decode cX8_how 24 = .ok (.invokevirtual 57, 3) := by decide +kernel
theorem dX8_how_27 : decode cX8_how 27 = .ok (.ifCond .le 7, 3) := by decide +kernel
theorem dX8_how_30 : decode cX8_how 30 = .ok (.iconst 1, 1) := by decide +kernel
theorem dX8_how_31 : decode cX8_how 31 = .ok (.goto 4, 3) := by decide +kernel
theorem dX8_how_34 : decode cX8_how 34 = .ok (.iconst 0, 1) := by decide +kernel
theorem dX8_how_35 : decode cX8_how 35 = .ok (.istore_n 1, 1) := by decide +kernel
theorem dX8_how_36 : decode cX8_how 36 = .ok (.aload_n 0, 1) := by decide +kernel
theorem dX8_how_37 : decode cX8_how 37 = .ok (.invokevirtual 87, 3) := by decide +kernel
theorem dX8_how_40 : decode cX8_how 40 = .ok (.arraylength, 1) := by decide +kernel
theorem dX8_how_41 : decode cX8_how 41 = .ok (.ifCond .ne 13, 3) := by decide +kernel
theorem dX8_how_44 : decode cX8_how 44 = .ok (.iload_n 1, 1) := by decide +kernel
theorem dX8_how_45 : decode cX8_how 45 = .ok (.ifCond .eq 7, 3) := by decide +kernel
theorem dX8_how_48 : decode cX8_how 48 = .ok (.iconst 2, 1) := by decide +kernel
theorem dX8_how_49 : decode cX8_how 49 = .ok (.goto 4, 3) := by decide +kernel
theorem dX8_how_52 : decode cX8_how 52 = .ok (.iconst 3, 1) := by decide +kernel
theorem dX8_how_53 : decode cX8_how 53 = .ok (.ireturn, 1) := by decide +kernel
theorem dX8_how_54 : decode cX8_how 54 = .ok (.aload_n 0, 1) := by decide +kernel
theorem dX8_how_55 : decode cX8_how 55 = .ok (.getfield 31, 3) := by decide +kernel
theorem dX8_how_58 : decode cX8_how 58 = .ok (.bipush 60, 2) := by decide +kernel
theorem dX8_how_60 : decode cX8_how 60 = .ok (.if_icmp .lt 7, 3) := by decide +kernel
theorem dX8_how_63 : decode cX8_how 63 = .ok (.iconst 4, 1) := by decide +kernel
theorem dX8_how_64 : decode cX8_how 64 = .ok (.goto 12, 3) := by decide +kernel
theorem dX8_how_67 : decode cX8_how 67 = .ok (.iload_n 1, 1) := by decide +kernel
theorem dX8_how_68 : decode cX8_how 68 = .ok (.ifCond .eq 7, 3) := by decide +kernel
theorem dX8_how_71 : decode cX8_how 71 = .ok (.iconst 1, 1) := by decide +kernel
theorem dX8_how_72 : decode cX8_how 72 = .ok (.goto 4, 3) := by decide +kernel
theorem dX8_how_75 : decode cX8_how 75 = .ok (.iconst 0, 1) := by decide +kernel
theorem dX8_how_76 : decode cX8_how 76 = .ok (.ireturn, 1) := by decide +kernel
theorem dX8_worth_0 : decode cX8_worth 0 = .ok (.bipush 7, 2) := by decide +kernel
theorem dX8_worth_2 : decode cX8_worth 2 = .ok (.newarray .int, 2) := by decide +kernel
theorem dX8_worth_4 : decode cX8_worth 4 = .ok (.dup, 1) := by decide +kernel
theorem dX8_worth_5 : decode cX8_worth 5 = .ok (.iconst 0, 1) := by decide +kernel
theorem dX8_worth_6 : decode cX8_worth 6 = .ok (.iconst 0, 1) := by decide +kernel
theorem dX8_worth_7 : decode cX8_worth 7 = .ok (.iastore, 1) := by decide +kernel
theorem dX8_worth_8 : decode cX8_worth 8 = .ok (.dup, 1) := by decide +kernel
theorem dX8_worth_9 : decode cX8_worth 9 = .ok (.iconst 1, 1) := by decide +kernel
theorem dX8_worth_10 : decode cX8_worth 10 = .ok (.iconst 0, 1) := by decide +kernel
theorem dX8_worth_11 : decode cX8_worth 11 = .ok (.iastore, 1) := by decide +kernel
theorem dX8_worth_12 : decode cX8_worth 12 = .ok (.dup, 1) := by decide +kernel
theorem dX8_worth_13 : decode cX8_worth 13 = .ok (.iconst 2, 1) := by decide +kernel
theorem dX8_worth_14 : decode cX8_worth 14 = .ok (.bipush 10, 2) := by decide +kernel
theorem dX8_worth_16 : decode cX8_worth 16 = .ok (.iastore, 1) := by decide +kernel
theorem dX8_worth_17 : decode cX8_worth 17 = .ok (.dup, 1) := by decide +kernel
theorem dX8_worth_18 : decode cX8_worth 18 = .ok (.iconst 3, 1) := by decide +kernel
theorem dX8_worth_19 : decode cX8_worth 19 = .ok (.iconst 5, 1) := by decide +kernel
theorem dX8_worth_20 : decode cX8_worth 20 = .ok (.iastore, 1) := by decide +kernel
theorem dX8_worth_21 : decode cX8_worth 21 = .ok (.dup, 1) := by decide +kernel
theorem dX8_worth_22 : decode cX8_worth 22 = .ok (.iconst 4, 1) := by decide +kernel
theorem dX8_worth_23 : decode cX8_worth 23 = .ok (.iconst 3, 1) := by decide +kernel
theorem dX8_worth_24 : decode cX8_worth 24 = .ok (.iastore, 1) := by decide +kernel
theorem dX8_worth_25 : decode cX8_worth 25 = .ok (.dup, 1) := by decide +kernel
theorem dX8_worth_26 : decode cX8_worth 26 = .ok (.iconst 5, 1) := by decide +kernel
theorem dX8_worth_27 : decode cX8_worth 27 = .ok (.iconst 4, 1) := by decide +kernel
theorem dX8_worth_28 : decode cX8_worth 28 = .ok (.iastore, 1) := by decide +kernel
theorem dX8_worth_29 : decode cX8_worth 29 = .ok (.dup, 1) := by decide +kernel
theorem dX8_worth_30 : decode cX8_worth 30 = .ok (.bipush 6, 2) := by decide +kernel
theorem dX8_worth_32 : decode cX8_worth 32 = .ok (.iconst 1, 1) := by decide +kernel
theorem dX8_worth_33 : decode cX8_worth 33 = .ok (.iastore, 1) := by decide +kernel
theorem dX8_worth_34 : decode cX8_worth 34 = .ok (.astore_n 1, 1) := by decide +kernel
theorem dX8_worth_35 : decode cX8_worth 35 = .ok (.aload_n 1, 1) := by decide +kernel
theorem dX8_worth_36 : decode cX8_worth 36 = .ok (.iload_n 0, 1) := by decide +kernel
theorem dX8_worth_37 : decode cX8_worth 37 = .ok (.invokestatic 21, 3) := by decide +kernel
theorem dX8_worth_40 : decode cX8_worth 40 = .ok (.iaload, 1) := by decide +kernel
theorem dX8_worth_41 : decode cX8_worth 41 = .ok (.ireturn, 1) := by decide +kernel
theorem dX8_worths_0 : decode cX8_worths 0 = .ok (.iconst 0, 1) := by decide +kernel
theorem dX8_worths_1 : decode cX8_worths 1 = .ok (.istore_n 2, 1) := by decide +kernel
theorem dX8_worths_2 : decode cX8_worths 2 = .ok (.iconst 0, 1) := by decide +kernel
theorem dX8_worths_3 : decode cX8_worths 3 = .ok (.istore_n 3, 1) := by decide +kernel
theorem dX8_worths_4 : decode cX8_worths 4 = .ok (.iload_n 3, 1) := by decide +kernel
theorem dX8_worths_5 : decode cX8_worths 5 = .ok (.bipush 121, 2) := by decide +kernel
theorem dX8_worths_7 : decode cX8_worths 7 = .ok (.if_icmp .ge 34, 3) := by decide +kernel
theorem dX8_worths_10 : decode cX8_worths 10 = .ok (.iload_n 2, 1) := by decide +kernel
theorem dX8_worths_11 : decode cX8_worths 11 = .ok (.aload_n 0, 1) := by decide +kernel
theorem dX8_worths_12 : decode cX8_worths 12 = .ok (.iload_n 3, 1) := by decide +kernel
theorem dX8_worths_13 : decode cX8_worths 13 = .ok (.iload_n 1, 1) := by decide +kernel
theorem dX8_worths_14 : decode cX8_worths 14 = .ok (.invokevirtual 48, 3) := by decide +kernel
theorem dX8_worths_17 : decode cX8_worths 17 = .ok (.ifCond .eq 15, 3) := by decide +kernel
theorem dX8_worths_20 : decode cX8_worths 20 = .ok (.aload_n 0, 1) := by decide +kernel
theorem dX8_worths_21 : decode cX8_worths 21 = .ok (.getfield 7, 3) := by decide +kernel
theorem dX8_worths_24 : decode cX8_worths 24 = .ok (.iload_n 3, 1) := by decide +kernel
theorem dX8_worths_25 : decode cX8_worths 25 = .ok (.iaload, 1) := by decide +kernel
theorem dX8_worths_26 : decode cX8_worths 26 = .ok (.invokestatic 91, 3) := by decide +kernel
theorem dX8_worths_29 : decode cX8_worths 29 = .ok (.goto 4, 3) := by decide +kernel
theorem dX8_worths_32 : decode cX8_worths 32 = .ok (.iconst 0, 1) := by decide +kernel
theorem dX8_worths_33 : decode cX8_worths 33 = .ok (.iadd, 1) := by decide +kernel
theorem dX8_worths_34 : decode cX8_worths 34 = .ok (.istore_n 2, 1) := by decide +kernel
theorem dX8_worths_35 : decode cX8_worths 35 = .ok (.iinc 3 1, 3) := by decide +kernel
theorem dX8_worths_38 : decode cX8_worths 38 = .ok (.goto (-34), 3) := by decide +kernel
theorem dX8_worths_41 : decode cX8_worths 41 = .ok (.iload_n 2, 1) := by decide +kernel
theorem dX8_worths_42 : decode cX8_worths 42 = .ok (.ireturn, 1) := by decide +kernel
theorem dX8_pieces_0 : decode cX8_pieces 0 = .ok (.iconst 0, 1) := by decide +kernel
theorem dX8_pieces_1 : decode cX8_pieces 1 = .ok (.istore_n 2, 1) := by decide +kernel
theorem dX8_pieces_2 : decode cX8_pieces 2 = .ok (.iconst 0, 1) := by decide +kernel
theorem dX8_pieces_3 : decode cX8_pieces 3 = .ok (.istore_n 3, 1) := by decide +kernel
theorem dX8_pieces_4 : decode cX8_pieces 4 = .ok (.iload_n 3, 1) := by decide +kernel
theorem dX8_pieces_5 : decode cX8_pieces 5 = .ok (.bipush 121, 2) := by decide +kernel
theorem dX8_pieces_7 : decode cX8_pieces 7 = .ok (.if_icmp .ge 26, 3) := by decide +kernel
theorem dX8_pieces_10 : decode cX8_pieces 10 = .ok (.iload_n 2, 1) := by decide +kernel
theorem dX8_pieces_11 : decode cX8_pieces 11 = .ok (.aload_n 0, 1) := by decide +kernel
theorem dX8_pieces_12 : decode cX8_pieces 12 = .ok (.iload_n 3, 1) := by decide +kernel
theorem dX8_pieces_13 : decode cX8_pieces 13 = .ok (.iload_n 1, 1) := by decide +kernel
theorem dX8_pieces_14 : decode cX8_pieces 14 = .ok (.invokevirtual 48, 3) := by decide +kernel
theorem dX8_pieces_17 : decode cX8_pieces 17 = .ok (.ifCond .eq 7, 3) := by decide +kernel
theorem dX8_pieces_20 : decode cX8_pieces 20 = .ok (.iconst 1, 1) := by decide +kernel
theorem dX8_pieces_21 : decode cX8_pieces 21 = .ok (.goto 4, 3) := by decide +kernel
theorem dX8_pieces_24 : decode cX8_pieces 24 = .ok (.iconst 0, 1) := by decide +kernel
theorem dX8_pieces_25 : decode cX8_pieces 25 = .ok (.iadd, 1) := by decide +kernel
theorem dX8_pieces_26 : decode cX8_pieces 26 = .ok (.istore_n 2, 1) := by decide +kernel
theorem dX8_pieces_27 : decode cX8_pieces 27 = .ok (.iinc 3 1, 3) := by decide +kernel
theorem dX8_pieces_30 : decode cX8_pieces 30 = .ok (.goto (-26), 3) := by decide +kernel
theorem dX8_pieces_33 : decode cX8_pieces 33 = .ok (.iload_n 2, 1) := by decide +kernel
theorem dX8_pieces_34 : decode cX8_pieces 34 = .ok (.ireturn, 1) := by decide +kernel
theorem dX8_points_0 : decode cX8_points 0 = .ok (.iload_n 2, 1) := by decide +kernel
theorem dX8_points_1 : decode cX8_points 1 = .ok (.iconst 2, 1) := by decide +kernel
theorem dX8_points_2 : decode cX8_points 2 = .ok (.if_icmp .ne 19, 3) := by decide +kernel
theorem dX8_points_5 : decode cX8_points 5 = .ok (.iload_n 1, 1) := by decide +kernel
theorem dX8_points_6 : decode cX8_points 6 = .ok (.aload_n 0, 1) := by decide +kernel
theorem dX8_points_7 : decode cX8_points 7 = .ok (.getfield 28, 3) := by decide +kernel
theorem dX8_points_10 : decode cX8_points 10 = .ok (.if_icmp .ne 7, 3) := by decide +kernel
theorem dX8_points_13 : decode cX8_points 13 = .ok (.iconst 0, 1) := by decide +kernel
theorem dX8_points_14 : decode cX8_points 14 = .ok (.goto 38, 3) := by decide +kernel
theorem dX8_points_17 : decode cX8_points 17 = .ok (.iconst 4, 1) := by decide +kernel
theorem dX8_points_18 : decode cX8_points 18 = .ok (.goto 34, 3) := by decide +kernel
theorem dX8_points_21 : decode cX8_points 21 = .ok (.iload_n 2, 1) := by decide +kernel
theorem dX8_points_22 : decode cX8_points 22 = .ok (.iconst 3, 1) := by decide +kernel
theorem dX8_points_23 : decode cX8_points 23 = .ok (.if_icmp .ne 19, 3) := by decide +kernel
theorem dX8_points_26 : decode cX8_points 26 = .ok (.iload_n 1, 1) := by decide +kernel
theorem dX8_points_27 : decode cX8_points 27 = .ok (.aload_n 0, 1) := by decide +kernel
theorem dX8_points_28 : decode cX8_points 28 = .ok (.getfield 28, 3) := by decide +kernel
theorem dX8_points_31 : decode cX8_points 31 = .ok (.if_icmp .ne 7, 3) := by decide +kernel
theorem dX8_points_34 : decode cX8_points 34 = .ok (.iconst 1, 1) := by decide +kernel
theorem dX8_points_35 : decode cX8_points 35 = .ok (.goto 17, 3) := by decide +kernel
theorem dX8_points_38 : decode cX8_points 38 = .ok (.iconst 3, 1) := by decide +kernel
theorem dX8_points_39 : decode cX8_points 39 = .ok (.goto 13, 3) := by decide +kernel
theorem dX8_points_42 : decode cX8_points 42 = .ok (.iload_n 2, 1) := by decide +kernel
theorem dX8_points_43 : decode cX8_points 43 = .ok (.iconst 4, 1) := by decide +kernel
theorem dX8_points_44 : decode cX8_points 44 = .ok (.if_icmp .ne 7, 3) := by decide +kernel
theorem dX8_points_47 : decode cX8_points 47 = .ok (.iconst 2, 1) := by decide +kernel
theorem dX8_points_48 : decode cX8_points 48 = .ok (.goto 4, 3) := by decide +kernel
theorem dX8_points_51 : decode cX8_points 51 = .ok (.iconst 0, 1) := by decide +kernel
theorem dX8_points_52 : decode cX8_points 52 = .ok (.ireturn, 1) := by decide +kernel
theorem dX8_isSame_0 : decode cX8_isSame 0 = .ok (.aload_n 0, 1) := by decide +kernel
theorem dX8_isSame_1 : decode cX8_isSame 1 = .ok (.invokevirtual 94, 3) := by decide +kernel
theorem dX8_isSame_4 : decode cX8_isSame 4 = .ok (.istore_n 2, 1) := by decide +kernel
theorem dX8_isSame_5 : decode cX8_isSame 5 = .ok (.aload_n 0, 1) := by decide +kernel
theorem dX8_isSame_6 : decode cX8_isSame 6 = .ok (.invokevirtual 98, 3) := by decide +kernel
theorem dX8_isSame_9 : decode cX8_isSame 9 = .ok (.astore_n 3, 1) := by decide +kernel
theorem dX8_isSame_10 : decode cX8_isSame 10 = .ok (.bipush 11, 2) := by decide +kernel
theorem dX8_isSame_12 : decode cX8_isSame 12 = .ok (.newarray .int, 2) := by decide +kernel
theorem dX8_isSame_14 : decode cX8_isSame 14 = .ok (.dup, 1) := by decide +kernel
theorem dX8_isSame_15 : decode cX8_isSame 15 = .ok (.iconst 0, 1) := by decide +kernel
theorem dX8_isSame_16 : decode cX8_isSame 16 = .ok (.aload_n 0, 1) := by decide +kernel
theorem dX8_isSame_17 : decode cX8_isSame 17 = .ok (.getfield 34, 3) := by decide +kernel
theorem dX8_isSame_20 : decode cX8_isSame 20 = .ok (.iastore, 1) := by decide +kernel
theorem dX8_isSame_21 : decode cX8_isSame 21 = .ok (.dup, 1) := by decide +kernel
theorem dX8_isSame_22 : decode cX8_isSame 22 = .ok (.iconst 1, 1) := by decide +kernel
theorem dX8_isSame_23 : decode cX8_isSame 23 = .ok (.aload_n 0, 1) := by decide +kernel
theorem dX8_isSame_24 : decode cX8_isSame 24 = .ok (.getfield 28, 3) := by decide +kernel
theorem dX8_isSame_27 : decode cX8_isSame 27 = .ok (.iastore, 1) := by decide +kernel
theorem dX8_isSame_28 : decode cX8_isSame 28 = .ok (.dup, 1) := by decide +kernel
theorem dX8_isSame_29 : decode cX8_isSame 29 = .ok (.iconst 2, 1) := by decide +kernel
theorem dX8_isSame_30 : decode cX8_isSame 30 = .ok (.iload_n 2, 1) := by decide +kernel
theorem dX8_isSame_31 : decode cX8_isSame 31 = .ok (.iastore, 1) := by decide +kernel
theorem dX8_isSame_32 : decode cX8_isSame 32 = .ok (.dup, 1) := by decide +kernel
theorem dX8_isSame_33 : decode cX8_isSame 33 = .ok (.iconst 3, 1) := by decide +kernel
theorem dX8_isSame_34 : decode cX8_isSame 34 = .ok (.aload_n 3, 1) := by decide +kernel
theorem dX8_isSame_35 : decode cX8_isSame 35 = .ok (.arraylength, 1) := by decide +kernel
theorem dX8_isSame_36 : decode cX8_isSame 36 = .ok (.iastore, 1) := by decide +kernel
theorem dX8_isSame_37 : decode cX8_isSame 37 = .ok (.dup, 1) := by decide +kernel
theorem dX8_isSame_38 : decode cX8_isSame 38 = .ok (.iconst 4, 1) := by decide +kernel
theorem dX8_isSame_39 : decode cX8_isSame 39 = .ok (.aload_n 0, 1) := by decide +kernel
theorem dX8_isSame_40 : decode cX8_isSame 40 = .ok (.iconst 0, 1) := by decide +kernel
theorem dX8_isSame_41 : decode cX8_isSame 41 = .ok (.invokevirtual 101, 3) := by decide +kernel
theorem dX8_isSame_44 : decode cX8_isSame 44 = .ok (.iastore, 1) := by decide +kernel
theorem dX8_isSame_45 : decode cX8_isSame 45 = .ok (.dup, 1) := by decide +kernel
theorem dX8_isSame_46 : decode cX8_isSame 46 = .ok (.iconst 5, 1) := by decide +kernel
theorem dX8_isSame_47 : decode cX8_isSame 47 = .ok (.aload_n 0, 1) := by decide +kernel
theorem dX8_isSame_48 : decode cX8_isSame 48 = .ok (.iconst 1, 1) := by decide +kernel
theorem dX8_isSame_49 : decode cX8_isSame 49 = .ok (.invokevirtual 101, 3) := by decide +kernel
theorem dX8_isSame_52 : decode cX8_isSame 52 = .ok (.iastore, 1) := by decide +kernel
theorem dX8_isSame_53 : decode cX8_isSame 53 = .ok (.dup, 1) := by decide +kernel
theorem dX8_isSame_54 : decode cX8_isSame 54 = .ok (.bipush 6, 2) := by decide +kernel
theorem dX8_isSame_56 : decode cX8_isSame 56 = .ok (.aload_n 0, 1) := by decide +kernel
theorem dX8_isSame_57 : decode cX8_isSame 57 = .ok (.getfield 31, 3) := by decide +kernel
theorem dX8_isSame_60 : decode cX8_isSame 60 = .ok (.iastore, 1) := by decide +kernel
theorem dX8_isSame_61 : decode cX8_isSame 61 = .ok (.dup, 1) := by decide +kernel
theorem dX8_isSame_62 : decode cX8_isSame 62 = .ok (.bipush 7, 2) := by decide +kernel
theorem dX8_isSame_64 : decode cX8_isSame 64 = .ok (.aload_n 0, 1) := by decide +kernel
theorem dX8_isSame_65 : decode cX8_isSame 65 = .ok (.iconst 0, 1) := by decide +kernel
theorem dX8_isSame_66 : decode cX8_isSame 66 = .ok (.iload_n 2, 1) := by decide +kernel
theorem dX8_isSame_67 : decode cX8_isSame 67 = .ok (.invokevirtual 104, 3) := by decide +kernel
theorem dX8_isSame_70 : decode cX8_isSame 70 = .ok (.iastore, 1) := by decide +kernel
theorem dX8_isSame_71 : decode cX8_isSame 71 = .ok (.dup, 1) := by decide +kernel
theorem dX8_isSame_72 : decode cX8_isSame 72 = .ok (.bipush 8, 2) := by decide +kernel
theorem dX8_isSame_74 : decode cX8_isSame 74 = .ok (.aload_n 0, 1) := by decide +kernel
theorem dX8_isSame_75 : decode cX8_isSame 75 = .ok (.iconst 1, 1) := by decide +kernel
theorem dX8_isSame_76 : decode cX8_isSame 76 = .ok (.iload_n 2, 1) := by decide +kernel
theorem dX8_isSame_77 : decode cX8_isSame 77 = .ok (.invokevirtual 104, 3) := by decide +kernel
theorem dX8_isSame_80 : decode cX8_isSame 80 = .ok (.iastore, 1) := by decide +kernel
theorem dX8_isSame_81 : decode cX8_isSame 81 = .ok (.dup, 1) := by decide +kernel
theorem dX8_isSame_82 : decode cX8_isSame 82 = .ok (.bipush 9, 2) := by decide +kernel
theorem dX8_isSame_84 : decode cX8_isSame 84 = .ok (.aload_n 0, 1) := by decide +kernel
theorem dX8_isSame_85 : decode cX8_isSame 85 = .ok (.getfield 13, 3) := by decide +kernel
theorem dX8_isSame_88 : decode cX8_isSame 88 = .ok (.ifCond .ge 7, 3) := by decide +kernel
theorem dX8_isSame_91 : decode cX8_isSame 91 = .ok (.iconst (-1), 1) := by decide +kernel
theorem dX8_isSame_92 : decode cX8_isSame 92 = .ok (.goto 10, 3) := by decide +kernel
theorem dX8_isSame_95 : decode cX8_isSame 95 = .ok (.aload_n 0, 1) := by decide +kernel
theorem dX8_isSame_96 : decode cX8_isSame 96 = .ok (.getfield 13, 3) := by decide +kernel
theorem dX8_isSame_99 : decode cX8_isSame 99 = .ok (.invokestatic 107, 3) := by decide +kernel
theorem dX8_isSame_102 : decode cX8_isSame 102 = .ok (.iastore, 1) := by decide +kernel
theorem dX8_isSame_103 : decode cX8_isSame 103 = .ok (.dup, 1) := by decide +kernel
theorem dX8_isSame_104 : decode cX8_isSame 104 = .ok (.bipush 10, 2) := by decide +kernel
theorem dX8_isSame_106 : decode cX8_isSame 106 = .ok (.iconst 0, 1) := by decide +kernel
theorem dX8_isSame_107 : decode cX8_isSame 107 = .ok (.iastore, 1) := by decide +kernel
theorem dX8_isSame_108 : decode cX8_isSame 108 = .ok (.astore 4, 2) := by decide +kernel
theorem dX8_isSame_110 : decode cX8_isSame 110 = .ok (.iconst 0, 1) := by decide +kernel
theorem dX8_isSame_111 : decode cX8_isSame 111 = .ok (.istore 5, 2) := by decide +kernel
theorem dX8_isSame_113 : decode cX8_isSame 113 = .ok (.iload 5, 2) := by decide +kernel
theorem dX8_isSame_115 : decode cX8_isSame 115 = .ok (.bipush 11, 2) := by decide +kernel
theorem dX8_isSame_117 : decode cX8_isSame 117 = .ok (.if_icmp .ge 25, 3) := by decide +kernel
theorem dX8_isSame_120 : decode cX8_isSame 120 = .ok (.aload_n 1, 1) := by decide +kernel
theorem dX8_isSame_121 : decode cX8_isSame 121 = .ok (.iload 5, 2) := by decide +kernel
theorem dX8_isSame_123 : decode cX8_isSame 123 = .ok (.invokevirtual 110, 3) := by decide +kernel
theorem dX8_isSame_126 : decode cX8_isSame 126 = .ok (.aload 4, 2) := by decide +kernel
theorem dX8_isSame_128 : decode cX8_isSame 128 = .ok (.iload 5, 2) := by decide +kernel
theorem dX8_isSame_130 : decode cX8_isSame 130 = .ok (.iaload, 1) := by decide +kernel
theorem dX8_isSame_131 : decode cX8_isSame 131 = .ok (.if_icmp .eq 5, 3) := by decide +kernel
theorem dX8_isSame_134 : decode cX8_isSame 134 = .ok (.iconst 0, 1) := by decide +kernel
theorem dX8_isSame_135 : decode cX8_isSame 135 = .ok (.ireturn, 1) := by decide +kernel
theorem dX8_isSame_136 : decode cX8_isSame 136 = .ok (.iinc 5 1, 3) := by decide +kernel
theorem dX8_isSame_139 : decode cX8_isSame 139 = .ok (.goto (-26), 3) := by decide +kernel
theorem dX8_isSame_142 : decode cX8_isSame 142 = .ok (.iconst 0, 1) := by decide +kernel
theorem dX8_isSame_143 : decode cX8_isSame 143 = .ok (.istore 5, 2) := by decide +kernel
theorem dX8_isSame_145 : decode cX8_isSame 145 = .ok (.iload 5, 2) := by decide +kernel
theorem dX8_isSame_147 : decode cX8_isSame 147 = .ok (.aload_n 3, 1) := by decide +kernel
theorem dX8_isSame_148 : decode cX8_isSame 148 = .ok (.arraylength, 1) := by decide +kernel
theorem dX8_isSame_149 : decode cX8_isSame 149 = .ok (.if_icmp .ge 24, 3) := by decide +kernel
theorem dX8_isSame_152 : decode cX8_isSame 152 = .ok (.aload_n 1, 1) := by decide +kernel
theorem dX8_isSame_153 : decode cX8_isSame 153 = .ok (.iload 5, 2) := by decide +kernel
theorem dX8_isSame_155 : decode cX8_isSame 155 = .ok (.invokevirtual 115, 3) := by decide +kernel
theorem dX8_isSame_158 : decode cX8_isSame 158 = .ok (.aload_n 3, 1) := by decide +kernel
theorem dX8_isSame_159 : decode cX8_isSame 159 = .ok (.iload 5, 2) := by decide +kernel
theorem dX8_isSame_161 : decode cX8_isSame 161 = .ok (.iaload, 1) := by decide +kernel
theorem dX8_isSame_162 : decode cX8_isSame 162 = .ok (.if_icmp .eq 5, 3) := by decide +kernel
theorem dX8_isSame_165 : decode cX8_isSame 165 = .ok (.iconst 0, 1) := by decide +kernel
theorem dX8_isSame_166 : decode cX8_isSame 166 = .ok (.ireturn, 1) := by decide +kernel
theorem dX8_isSame_167 : decode cX8_isSame 167 = .ok (.iinc 5 1, 3) := by decide +kernel
theorem dX8_isSame_170 : decode cX8_isSame 170 = .ok (.goto (-25), 3) := by decide +kernel
theorem dX8_isSame_173 : decode cX8_isSame 173 = .ok (.iconst 0, 1) := by decide +kernel
theorem dX8_isSame_174 : decode cX8_isSame 174 = .ok (.istore 5, 2) := by decide +kernel
theorem dX8_isSame_176 : decode cX8_isSame 176 = .ok (.iload 5, 2) := by decide +kernel
theorem dX8_isSame_178 : decode cX8_isSame 178 = .ok (.bipush 91, 2) := by decide +kernel
theorem dX8_isSame_180 : decode cX8_isSame 180 = .ok (.if_icmp .ge 107, 3) := by decide +kernel
theorem dX8_isSame_183 : decode cX8_isSame 183 = .ok (.aload_n 0, 1) := by decide +kernel
theorem dX8_isSame_184 : decode cX8_isSame 184 = .ok (.getfield 7, 3) := by decide +kernel
theorem dX8_isSame_187 : decode cX8_isSame 187 = .ok (.iload 5, 2) := by decide +kernel
theorem dX8_isSame_189 : decode cX8_isSame 189 = .ok (.invokestatic 81, 3) := by decide +kernel
theorem dX8_isSame_192 : decode cX8_isSame 192 = .ok (.iaload, 1) := by decide +kernel
theorem dX8_isSame_193 : decode cX8_isSame 193 = .ok (.istore 6, 2) := by decide +kernel
theorem dX8_isSame_195 : decode cX8_isSame 195 = .ok (.aload_n 1, 1) := by decide +kernel
theorem dX8_isSame_196 : decode cX8_isSame 196 = .ok (.iload 5, 2) := by decide +kernel
theorem dX8_isSame_198 : decode cX8_isSame 198 = .ok (.iconst 0, 1) := by decide +kernel
theorem dX8_isSame_199 : decode cX8_isSame 199 = .ok (.invokevirtual 118, 3) := by decide +kernel
theorem dX8_isSame_202 : decode cX8_isSame 202 = .ok (.iload 6, 2) := by decide +kernel
theorem dX8_isSame_204 : decode cX8_isSame 204 = .ok (.invokestatic 21, 3) := by decide +kernel
theorem dX8_isSame_207 : decode cX8_isSame 207 = .ok (.if_icmp .ne 72, 3) := by decide +kernel
theorem dX8_isSame_210 : decode cX8_isSame 210 = .ok (.aload_n 1, 1) := by decide +kernel
theorem dX8_isSame_211 : decode cX8_isSame 211 = .ok (.iload 5, 2) := by decide +kernel
theorem dX8_isSame_213 : decode cX8_isSame 213 = .ok (.iconst 1, 1) := by decide +kernel
theorem dX8_isSame_214 : decode cX8_isSame 214 = .ok (.invokevirtual 118, 3) := by decide +kernel
theorem dX8_isSame_217 : decode cX8_isSame 217 = .ok (.iload 6, 2) := by decide +kernel
theorem dX8_isSame_219 : decode cX8_isSame 219 = .ok (.ifCond .ne 7, 3) := by decide +kernel
theorem dX8_isSame_222 : decode cX8_isSame 222 = .ok (.iconst (-1), 1) := by decide +kernel
theorem dX8_isSame_223 : decode cX8_isSame 223 = .ok (.goto 13, 3) := by decide +kernel
theorem dX8_isSame_226 : decode cX8_isSame 226 = .ok (.iload 6, 2) := by decide +kernel
theorem dX8_isSame_228 : decode cX8_isSame 228 = .ok (.ifCond .le 7, 3) := by decide +kernel
theorem dX8_isSame_231 : decode cX8_isSame 231 = .ok (.iconst 0, 1) := by decide +kernel
theorem dX8_isSame_232 : decode cX8_isSame 232 = .ok (.goto 4, 3) := by decide +kernel
theorem dX8_isSame_235 : decode cX8_isSame 235 = .ok (.iconst 1, 1) := by decide +kernel
theorem dX8_isSame_236 : decode cX8_isSame 236 = .ok (.if_icmp .ne 43, 3) := by decide +kernel
theorem dX8_isSame_239 : decode cX8_isSame 239 = .ok (.aload_n 1, 1) := by decide +kernel
theorem dX8_isSame_240 : decode cX8_isSame 240 = .ok (.iload 5, 2) := by decide +kernel
theorem dX8_isSame_242 : decode cX8_isSame 242 = .ok (.iconst 4, 1) := by decide +kernel
theorem dX8_isSame_243 : decode cX8_isSame 243 = .ok (.invokevirtual 118, 3) := by decide +kernel
theorem dX8_isSame_246 : decode cX8_isSame 246 = .ok (.aload_n 0, 1) := by decide +kernel
theorem dX8_isSame_247 : decode cX8_isSame 247 = .ok (.iload 5, 2) := by decide +kernel
theorem dX8_isSame_249 : decode cX8_isSame 249 = .ok (.invokestatic 81, 3) := by decide +kernel
theorem dX8_isSame_252 : decode cX8_isSame 252 = .ok (.iconst 0, 1) := by decide +kernel
theorem dX8_isSame_253 : decode cX8_isSame 253 = .ok (.invokevirtual 57, 3) := by decide +kernel
theorem dX8_isSame_256 : decode cX8_isSame 256 = .ok (.if_icmp .ne 23, 3) := by decide +kernel
theorem dX8_isSame_259 : decode cX8_isSame 259 = .ok (.aload_n 1, 1) := by decide +kernel
theorem dX8_isSame_260 : decode cX8_isSame 260 = .ok (.iload 5, 2) := by decide +kernel
theorem dX8_isSame_262 : decode cX8_isSame 262 = .ok (.iconst 5, 1) := by decide +kernel
theorem dX8_isSame_263 : decode cX8_isSame 263 = .ok (.invokevirtual 118, 3) := by decide +kernel
theorem dX8_isSame_266 : decode cX8_isSame 266 = .ok (.aload_n 0, 1) := by decide +kernel
theorem dX8_isSame_267 : decode cX8_isSame 267 = .ok (.iload 5, 2) := by decide +kernel
theorem dX8_isSame_269 : decode cX8_isSame 269 = .ok (.invokestatic 81, 3) := by decide +kernel
theorem dX8_isSame_272 : decode cX8_isSame 272 = .ok (.iconst 1, 1) := by decide +kernel
theorem dX8_isSame_273 : decode cX8_isSame 273 = .ok (.invokevirtual 57, 3) := by decide +kernel
theorem dX8_isSame_276 : decode cX8_isSame 276 = .ok (.if_icmp .eq 5, 3) := by decide +kernel
theorem dX8_isSame_279 : decode cX8_isSame 279 = .ok (.iconst 0, 1) := by decide +kernel
theorem dX8_isSame_280 : decode cX8_isSame 280 = .ok (.ireturn, 1) := by decide +kernel
theorem dX8_isSame_281 : decode cX8_isSame 281 = .ok (.iinc 5 1, 3) := by decide +kernel
theorem dX8_isSame_284 : decode cX8_isSame 284 = .ok (.goto (-108), 3) := by decide +kernel
theorem dX8_isSame_287 : decode cX8_isSame 287 = .ok (.aload_n 0, 1) := by decide +kernel
theorem dX8_isSame_288 : decode cX8_isSame 288 = .ok (.aload_n 0, 1) := by decide +kernel
theorem dX8_isSame_289 : decode cX8_isSame 289 = .ok (.getfield 28, 3) := by decide +kernel
theorem dX8_isSame_292 : decode cX8_isSame 292 = .ok (.invokevirtual 121, 3) := by decide +kernel
theorem dX8_isSame_295 : decode cX8_isSame 295 = .ok (.istore 5, 2) := by decide +kernel
theorem dX8_isSame_297 : decode cX8_isSame 297 = .ok (.aload_n 1, 1) := by decide +kernel
theorem dX8_isSame_298 : decode cX8_isSame 298 = .ok (.iconst 1, 1) := by decide +kernel
theorem dX8_isSame_299 : decode cX8_isSame 299 = .ok (.invokevirtual 124, 3) := by decide +kernel
theorem dX8_isSame_302 : decode cX8_isSame 302 = .ok (.aload_n 3, 1) := by decide +kernel
theorem dX8_isSame_303 : decode cX8_isSame 303 = .ok (.arraylength, 1) := by decide +kernel
theorem dX8_isSame_304 : decode cX8_isSame 304 = .ok (.if_icmp .ne 31, 3) := by decide +kernel
theorem dX8_isSame_307 : decode cX8_isSame 307 = .ok (.aload_n 1, 1) := by decide +kernel
theorem dX8_isSame_308 : decode cX8_isSame 308 = .ok (.invokevirtual 127, 3) := by decide +kernel
theorem dX8_isSame_311 : decode cX8_isSame 311 = .ok (.iload 5, 2) := by decide +kernel
theorem dX8_isSame_313 : decode cX8_isSame 313 = .ok (.ifCond .ne 7, 3) := by decide +kernel
theorem dX8_isSame_316 : decode cX8_isSame 316 = .ok (.dconst 0, 1) := by decide +kernel
theorem dX8_isSame_317 : decode cX8_isSame 317 = .ok (.goto 10, 3) := by decide +kernel
theorem dX8_isSame_320 : decode cX8_isSame 320 = .ok (.aload_n 3, 1) := by decide +kernel
theorem dX8_isSame_321 : decode cX8_isSame 321 = .ok (.arraylength, 1) := by decide +kernel
theorem dX8_isSame_322 : decode cX8_isSame 322 = .ok (.i2d, 1) := by decide +kernel
theorem dX8_isSame_323 : decode cX8_isSame 323 = .ok (.iload 5, 2) := by decide +kernel
theorem dX8_isSame_325 : decode cX8_isSame 325 = .ok (.i2d, 1) := by decide +kernel
theorem dX8_isSame_326 : decode cX8_isSame 326 = .ok (.ddiv, 1) := by decide +kernel
theorem dX8_isSame_327 : decode cX8_isSame 327 = .ok (.dcmp .l, 1) := by decide +kernel
theorem dX8_isSame_328 : decode cX8_isSame 328 = .ok (.ifCond .ne 7, 3) := by decide +kernel
theorem dX8_isSame_331 : decode cX8_isSame 331 = .ok (.iconst 1, 1) := by decide +kernel
theorem dX8_isSame_332 : decode cX8_isSame 332 = .ok (.goto 4, 3) := by decide +kernel
theorem dX8_isSame_335 : decode cX8_isSame 335 = .ok (.iconst 0, 1) := by decide +kernel
theorem dX8_isSame_336 : decode cX8_isSame 336 = .ok (.ireturn, 1) := by decide +kernel
theorem dJ5_init_d00df_0 : decode cJ5_init_d00df 0 = .ok (.aload_n 0, 1) := by decide +kernel
theorem dJ5_init_d00df_1 : decode cJ5_init_d00df 1 = .ok (.invokespecial 3, 3) := by decide +kernel
theorem dJ5_init_d00df_4 : decode cJ5_init_d00df 4 = .ok (.getstatic 18, 3) := by decide +kernel
theorem dJ5_init_d00df_7 : decode cJ5_init_d00df 7 = .ok (.ifCond .eq 18, 3) := by decide +kernel
theorem dJ5_init_d00df_10 : decode cJ5_init_d00df 10 = .ok (.aload_n 0, 1) := by decide +kernel
theorem dJ5_init_d00df_11 : decode cJ5_init_d00df 11 = .ok (.iload_n 1, 1) := by decide +kernel
theorem dJ5_init_d00df_12 : decode cJ5_init_d00df 12 = .ok (.newarray .byte, 2) := by decide +kernel
theorem dJ5_init_d00df_14 : decode cJ5_init_d00df 14 = .ok (.putfield 15, 3) := by decide +kernel
theorem dJ5_init_d00df_17 : decode cJ5_init_d00df 17 = .ok (.aload_n 0, 1) := by decide +kernel
theorem dJ5_init_d00df_18 : decode cJ5_init_d00df 18 = .ok (.iconst 0, 1) := by decide +kernel
theorem dJ5_init_d00df_19 : decode cJ5_init_d00df 19 = .ok (.putfield 22, 3) := by decide +kernel
theorem dJ5_init_d00df_22 : decode cJ5_init_d00df 22 = .ok (.goto 16, 3) := by decide +kernel
theorem dJ5_init_d00df_25 : decode cJ5_init_d00df 25 = .ok (.aload_n 0, 1) := by decide +kernel
theorem dJ5_init_d00df_26 : decode cJ5_init_d00df 26 = .ok (.iload_n 1, 1) := by decide +kernel
theorem dJ5_init_d00df_27 : decode cJ5_init_d00df 27 = .ok (.invokestatic 26, 3) := by decide +kernel
theorem dJ5_init_d00df_30 : decode cJ5_init_d00df 30 = .ok (.putfield 15, 3) := by decide +kernel
theorem dJ5_init_d00df_33 : decode cJ5_init_d00df 33 = .ok (.aload_n 0, 1) := by decide +kernel
theorem dJ5_init_d00df_34 : decode cJ5_init_d00df 34 = .ok (.iconst 1, 1) := by decide +kernel
theorem dJ5_init_d00df_35 : decode cJ5_init_d00df 35 = .ok (.putfield 22, 3) := by decide +kernel
theorem dJ5_init_d00df_38 : decode cJ5_init_d00df 38 = .ok (.return_, 1) := by decide +kernel
theorem dJ5_length_8abf5_0 : decode cJ5_length_8abf5 0 = .ok (.aload_n 0, 1) := by decide +kernel
theorem dJ5_length_8abf5_1 : decode cJ5_length_8abf5 1 = .ok (.getfield 79, 3) := by decide +kernel
theorem dJ5_length_8abf5_4 : decode cJ5_length_8abf5 4 = .ok (.ireturn, 1) := by decide +kernel
theorem dJ5_ensureCapacityInternal_d00df_0 : decode cJ5_ensureCapacityInternal_d00df 0 = .ok (.aload_n 0, 1) := by decide +kernel
theorem dJ5_ensureCapacityInternal_d00df_1 : decode cJ5_ensureCapacityInternal_d00df 1 = .ok (.getfield 15, 3) := by decide +kernel
theorem dJ5_ensureCapacityInternal_d00df_4 : decode cJ5_ensureCapacityInternal_d00df 4 = .ok (.arraylength, 1) := by decide +kernel
theorem dJ5_ensureCapacityInternal_d00df_5 : decode cJ5_ensureCapacityInternal_d00df 5 = .ok (.aload_n 0, 1) := by decide +kernel
theorem dJ5_ensureCapacityInternal_d00df_6 : decode cJ5_ensureCapacityInternal_d00df 6 = .ok (.getfield 22, 3) := by decide +kernel
theorem dJ5_ensureCapacityInternal_d00df_9 : decode cJ5_ensureCapacityInternal_d00df 9 = .ok (.ishr, 1) := by decide +kernel
theorem dJ5_ensureCapacityInternal_d00df_10 : decode cJ5_ensureCapacityInternal_d00df 10 = .ok (.istore_n 2, 1) := by decide +kernel
theorem dJ5_ensureCapacityInternal_d00df_11 : decode cJ5_ensureCapacityInternal_d00df 11 = .ok (.iload_n 1, 1) := by decide +kernel
theorem dJ5_ensureCapacityInternal_d00df_12 : decode cJ5_ensureCapacityInternal_d00df 12 = .ok (.iload_n 2, 1) := by decide +kernel
theorem dJ5_ensureCapacityInternal_d00df_13 : decode cJ5_ensureCapacityInternal_d00df 13 = .ok (.isub, 1) := by decide +kernel
theorem dJ5_ensureCapacityInternal_d00df_14 : decode cJ5_ensureCapacityInternal_d00df 14 = .ok (.ifCond .le 24, 3) := by decide +kernel
theorem dJ5_ensureCapacityInternal_d00df_17 : decode cJ5_ensureCapacityInternal_d00df 17 = .ok (.aload_n 0, 1) := by decide +kernel
theorem dJ5_ensureCapacityInternal_d00df_18 : decode cJ5_ensureCapacityInternal_d00df 18 = .ok (.aload_n 0, 1) := by decide +kernel
theorem dJ5_ensureCapacityInternal_d00df_19 : decode cJ5_ensureCapacityInternal_d00df 19 = .ok (.getfield 15, 3) := by decide +kernel
theorem dJ5_ensureCapacityInternal_d00df_22 : decode cJ5_ensureCapacityInternal_d00df 22 = .ok (.aload_n 0, 1) := by decide +kernel
theorem dJ5_ensureCapacityInternal_d00df_23 : decode cJ5_ensureCapacityInternal_d00df 23 = .ok (.iload_n 1, 1) := by decide +kernel
theorem dJ5_ensureCapacityInternal_d00df_24 : decode cJ5_ensureCapacityInternal_d00df 24 = .ok (.invokevirtual 104, 3) := by decide +kernel
theorem dJ5_ensureCapacityInternal_d00df_27 : decode cJ5_ensureCapacityInternal_d00df 27 = .ok (.aload_n 0, 1) := by decide +kernel
theorem dJ5_ensureCapacityInternal_d00df_28 : decode cJ5_ensureCapacityInternal_d00df 28 = .ok (.getfield 22, 3) := by decide +kernel
theorem dJ5_ensureCapacityInternal_d00df_31 : decode cJ5_ensureCapacityInternal_d00df 31 = .ok (.ishl, 1) := by decide +kernel
theorem dJ5_ensureCapacityInternal_d00df_32 : decode cJ5_ensureCapacityInternal_d00df 32 = .ok (.invokestatic 108, 3) := by decide +kernel
theorem dJ5_ensureCapacityInternal_d00df_35 : decode cJ5_ensureCapacityInternal_d00df 35 = .ok (.putfield 15, 3) := by decide +kernel
theorem dJ5_ensureCapacityInternal_d00df_38 : decode cJ5_ensureCapacityInternal_d00df 38 = .ok (.return_, 1) := by decide +kernel
theorem dJ5_newCapacity_0f7a4_0 : decode cJ5_newCapacity_0f7a4 0 = .ok (.aload_n 0, 1) := by decide +kernel
theorem dJ5_newCapacity_0f7a4_1 : decode cJ5_newCapacity_0f7a4 1 = .ok (.getfield 15, 3) := by decide +kernel
theorem dJ5_newCapacity_0f7a4_4 : decode cJ5_newCapacity_0f7a4 4 = .ok (.arraylength, 1) := by decide +kernel
theorem dJ5_newCapacity_0f7a4_5 : decode cJ5_newCapacity_0f7a4 5 = .ok (.istore_n 2, 1) := by decide +kernel
theorem dJ5_newCapacity_0f7a4_6 : decode cJ5_newCapacity_0f7a4 6 = .ok (.iload_n 1, 1) := by decide +kernel
theorem dJ5_newCapacity_0f7a4_7 : decode cJ5_newCapacity_0f7a4 7 = .ok (.aload_n 0, 1) := by decide +kernel
theorem dJ5_newCapacity_0f7a4_8 : decode cJ5_newCapacity_0f7a4 8 = .ok (.getfield 22, 3) := by decide +kernel
theorem dJ5_newCapacity_0f7a4_11 : decode cJ5_newCapacity_0f7a4 11 = .ok (.ishl, 1) := by decide +kernel
theorem dJ5_newCapacity_0f7a4_12 : decode cJ5_newCapacity_0f7a4 12 = .ok (.istore_n 3, 1) := by decide +kernel
theorem dJ5_newCapacity_0f7a4_13 : decode cJ5_newCapacity_0f7a4 13 = .ok (.iload_n 3, 1) := by decide +kernel
theorem dJ5_newCapacity_0f7a4_14 : decode cJ5_newCapacity_0f7a4 14 = .ok (.iload_n 2, 1) := by decide +kernel
theorem dJ5_newCapacity_0f7a4_15 : decode cJ5_newCapacity_0f7a4 15 = .ok (.isub, 1) := by decide +kernel
theorem dJ5_newCapacity_0f7a4_16 : decode cJ5_newCapacity_0f7a4 16 = .ok (.istore 4, 2) := by decide +kernel
theorem dJ5_newCapacity_0f7a4_18 : decode cJ5_newCapacity_0f7a4 18 = .ok (.iload_n 2, 1) := by decide +kernel
theorem dJ5_newCapacity_0f7a4_19 : decode cJ5_newCapacity_0f7a4 19 = .ok (.iload 4, 2) := by decide +kernel
theorem dJ5_newCapacity_0f7a4_21 : decode cJ5_newCapacity_0f7a4 21 = .ok (.iload_n 2, 1) := by decide +kernel
theorem dJ5_newCapacity_0f7a4_22 : decode cJ5_newCapacity_0f7a4 22 = .ok (.iconst 2, 1) := by decide +kernel
theorem dJ5_newCapacity_0f7a4_23 : decode cJ5_newCapacity_0f7a4 23 = .ok (.aload_n 0, 1) := by decide +kernel
theorem dJ5_newCapacity_0f7a4_24 : decode cJ5_newCapacity_0f7a4 24 = .ok (.getfield 22, 3) := by decide +kernel
theorem dJ5_newCapacity_0f7a4_27 : decode cJ5_newCapacity_0f7a4 27 = .ok (.ishl, 1) := by decide +kernel
theorem dJ5_newCapacity_0f7a4_28 : decode cJ5_newCapacity_0f7a4 28 = .ok (.iadd, 1) := by decide +kernel
theorem dJ5_newCapacity_0f7a4_29 : decode cJ5_newCapacity_0f7a4 29 = .ok (.invokestatic 114, 3) := by decide +kernel
theorem dJ5_newCapacity_0f7a4_32 : decode cJ5_newCapacity_0f7a4 32 = .ok (.istore 5, 2) := by decide +kernel
theorem dJ5_newCapacity_0f7a4_34 : decode cJ5_newCapacity_0f7a4 34 = .ok (.iload 5, 2) := by decide +kernel
theorem dJ5_newCapacity_0f7a4_36 : decode cJ5_newCapacity_0f7a4 36 = .ok (.ldc 39, 2) := by decide +kernel
theorem dJ5_newCapacity_0f7a4_38 : decode cJ5_newCapacity_0f7a4 38 = .ok (.if_icmp .ne 13, 3) := by decide +kernel
theorem dJ5_newCapacity_0f7a4_41 : decode cJ5_newCapacity_0f7a4 41 = .ok (.new 120, 3) := by decide +kernel
theorem dJ5_newCapacity_0f7a4_44 : decode cJ5_newCapacity_0f7a4 44 = .ok (.dup, 1) := by decide +kernel
theorem dJ5_newCapacity_0f7a4_45 : decode cJ5_newCapacity_0f7a4 45 = .ok (.ldc 122, 2) := by decide +kernel
theorem dJ5_newCapacity_0f7a4_47 : decode cJ5_newCapacity_0f7a4 47 = .ok (.invokespecial 124, 3) := by decide +kernel
theorem dJ5_newCapacity_0f7a4_50 : decode cJ5_newCapacity_0f7a4 50 = .ok (.athrow, 1) := by decide +kernel
theorem dJ5_newCapacity_0f7a4_51 : decode cJ5_newCapacity_0f7a4 51 = .ok (.iload 5, 2) := by decide +kernel
theorem dJ5_newCapacity_0f7a4_53 : decode cJ5_newCapacity_0f7a4 53 = .ok (.aload_n 0, 1) := by decide +kernel
theorem dJ5_newCapacity_0f7a4_54 : decode cJ5_newCapacity_0f7a4 54 = .ok (.getfield 22, 3) := by decide +kernel
theorem dJ5_newCapacity_0f7a4_57 : decode cJ5_newCapacity_0f7a4 57 = .ok (.ishr, 1) := by decide +kernel
theorem dJ5_newCapacity_0f7a4_58 : decode cJ5_newCapacity_0f7a4 58 = .ok (.ireturn, 1) := by decide +kernel
theorem dJ5_inflate_da8c8_0 : decode cJ5_inflate_da8c8 0 = .ok (.aload_n 0, 1) := by decide +kernel
theorem dJ5_inflate_da8c8_1 : decode cJ5_inflate_da8c8 1 = .ok (.invokevirtual 83, 3) := by decide +kernel
theorem dJ5_inflate_da8c8_4 : decode cJ5_inflate_da8c8 4 = .ok (.ifCond .ne 4, 3) := by decide +kernel
theorem dJ5_inflate_da8c8_7 : decode cJ5_inflate_da8c8 7 = .ok (.return_, 1) := by decide +kernel
theorem dJ5_inflate_da8c8_8 : decode cJ5_inflate_da8c8 8 = .ok (.aload_n 0, 1) := by decide +kernel
theorem dJ5_inflate_da8c8_9 : decode cJ5_inflate_da8c8 9 = .ok (.getfield 15, 3) := by decide +kernel
theorem dJ5_inflate_da8c8_12 : decode cJ5_inflate_da8c8 12 = .ok (.arraylength, 1) := by decide +kernel
theorem dJ5_inflate_da8c8_13 : decode cJ5_inflate_da8c8 13 = .ok (.invokestatic 26, 3) := by decide +kernel
theorem dJ5_inflate_da8c8_16 : decode cJ5_inflate_da8c8 16 = .ok (.astore_n 1, 1) := by decide +kernel
theorem dJ5_inflate_da8c8_17 : decode cJ5_inflate_da8c8 17 = .ok (.aload_n 0, 1) := by decide +kernel
theorem dJ5_inflate_da8c8_18 : decode cJ5_inflate_da8c8 18 = .ok (.getfield 15, 3) := by decide +kernel
theorem dJ5_inflate_da8c8_21 : decode cJ5_inflate_da8c8 21 = .ok (.iconst 0, 1) := by decide +kernel
theorem dJ5_inflate_da8c8_22 : decode cJ5_inflate_da8c8 22 = .ok (.aload_n 1, 1) := by decide +kernel
theorem dJ5_inflate_da8c8_23 : decode cJ5_inflate_da8c8 23 = .ok (.iconst 0, 1) := by decide +kernel
theorem dJ5_inflate_da8c8_24 : decode cJ5_inflate_da8c8 24 = .ok (.aload_n 0, 1) := by decide +kernel
theorem dJ5_inflate_da8c8_25 : decode cJ5_inflate_da8c8 25 = .ok (.getfield 79, 3) := by decide +kernel
theorem dJ5_inflate_da8c8_28 : decode cJ5_inflate_da8c8 28 = .ok (.invokestatic 125, 3) := by decide +kernel
theorem dJ5_inflate_da8c8_31 : decode cJ5_inflate_da8c8 31 = .ok (.aload_n 0, 1) := by decide +kernel
theorem dJ5_inflate_da8c8_32 : decode cJ5_inflate_da8c8 32 = .ok (.aload_n 1, 1) := by decide +kernel
theorem dJ5_inflate_da8c8_33 : decode cJ5_inflate_da8c8 33 = .ok (.putfield 15, 3) := by decide +kernel
theorem dJ5_inflate_da8c8_36 : decode cJ5_inflate_da8c8 36 = .ok (.aload_n 0, 1) := by decide +kernel
theorem dJ5_inflate_da8c8_37 : decode cJ5_inflate_da8c8 37 = .ok (.iconst 1, 1) := by decide +kernel
theorem dJ5_inflate_da8c8_38 : decode cJ5_inflate_da8c8 38 = .ok (.putfield 22, 3) := by decide +kernel
theorem dJ5_inflate_da8c8_41 : decode cJ5_inflate_da8c8 41 = .ok (.return_, 1) := by decide +kernel
theorem dJ5_append_cf1ce_0 : decode cJ5_append_cf1ce 0 = .ok (.aload_n 1, 1) := by decide +kernel
theorem dJ5_append_cf1ce_1 : decode cJ5_append_cf1ce 1 = .ok (.ifnonnull 8, 3) := by decide +kernel
theorem dJ5_append_cf1ce_4 : decode cJ5_append_cf1ce 4 = .ok (.aload_n 0, 1) := by decide +kernel
theorem dJ5_append_cf1ce_5 : decode cJ5_append_cf1ce 5 = .ok (.invokevirtual 204, 3) := by decide +kernel
theorem dJ5_append_cf1ce_8 : decode cJ5_append_cf1ce 8 = .ok (.areturn, 1) := by decide +kernel
theorem dJ5_append_cf1ce_9 : decode cJ5_append_cf1ce 9 = .ok (.aload_n 1, 1) := by decide +kernel
theorem dJ5_append_cf1ce_10 : decode cJ5_append_cf1ce 10 = .ok (.invokevirtual 32, 3) := by decide +kernel
theorem dJ5_append_cf1ce_13 : decode cJ5_append_cf1ce 13 = .ok (.istore_n 2, 1) := by decide +kernel
theorem dJ5_append_cf1ce_14 : decode cJ5_append_cf1ce 14 = .ok (.aload_n 0, 1) := by decide +kernel
theorem dJ5_append_cf1ce_15 : decode cJ5_append_cf1ce 15 = .ok (.aload_n 0, 1) := by decide +kernel
theorem dJ5_append_cf1ce_16 : decode cJ5_append_cf1ce 16 = .ok (.getfield 79, 3) := by decide +kernel
theorem dJ5_append_cf1ce_19 : decode cJ5_append_cf1ce 19 = .ok (.iload_n 2, 1) := by decide +kernel
theorem dJ5_append_cf1ce_20 : decode cJ5_append_cf1ce 20 = .ok (.iadd, 1) := by decide +kernel
theorem dJ5_append_cf1ce_21 : decode cJ5_append_cf1ce 21 = .ok (.invokevirtual 100, 3) := by decide +kernel
theorem dJ5_append_cf1ce_24 : decode cJ5_append_cf1ce 24 = .ok (.aload_n 0, 1) := by decide +kernel
theorem dJ5_append_cf1ce_25 : decode cJ5_append_cf1ce 25 = .ok (.aload_n 0, 1) := by decide +kernel
theorem dJ5_append_cf1ce_26 : decode cJ5_append_cf1ce 26 = .ok (.getfield 79, 3) := by decide +kernel
theorem dJ5_append_cf1ce_29 : decode cJ5_append_cf1ce 29 = .ok (.aload_n 1, 1) := by decide +kernel
theorem dJ5_append_cf1ce_30 : decode cJ5_append_cf1ce 30 = .ok (.invokevirtual 208, 3) := by decide +kernel
theorem dJ5_append_cf1ce_33 : decode cJ5_append_cf1ce 33 = .ok (.aload_n 0, 1) := by decide +kernel
theorem dJ5_append_cf1ce_34 : decode cJ5_append_cf1ce 34 = .ok (.dup, 1) := by decide +kernel
theorem dJ5_append_cf1ce_35 : decode cJ5_append_cf1ce 35 = .ok (.getfield 79, 3) := by decide +kernel
theorem dJ5_append_cf1ce_38 : decode cJ5_append_cf1ce 38 = .ok (.iload_n 2, 1) := by decide +kernel
theorem dJ5_append_cf1ce_39 : decode cJ5_append_cf1ce 39 = .ok (.iadd, 1) := by decide +kernel
theorem dJ5_append_cf1ce_40 : decode cJ5_append_cf1ce 40 = .ok (.putfield 79, 3) := by decide +kernel
theorem dJ5_append_cf1ce_43 : decode cJ5_append_cf1ce 43 = .ok (.aload_n 0, 1) := by decide +kernel
theorem dJ5_append_cf1ce_44 : decode cJ5_append_cf1ce 44 = .ok (.areturn, 1) := by decide +kernel
theorem dJ5_appendNull_278bc_0 : decode cJ5_appendNull_278bc 0 = .ok (.aload_n 0, 1) := by decide +kernel
theorem dJ5_appendNull_278bc_1 : decode cJ5_appendNull_278bc 1 = .ok (.aload_n 0, 1) := by decide +kernel
theorem dJ5_appendNull_278bc_2 : decode cJ5_appendNull_278bc 2 = .ok (.getfield 79, 3) := by decide +kernel
theorem dJ5_appendNull_278bc_5 : decode cJ5_appendNull_278bc 5 = .ok (.iconst 4, 1) := by decide +kernel
theorem dJ5_appendNull_278bc_6 : decode cJ5_appendNull_278bc 6 = .ok (.iadd, 1) := by decide +kernel
theorem dJ5_appendNull_278bc_7 : decode cJ5_appendNull_278bc 7 = .ok (.invokevirtual 100, 3) := by decide +kernel
theorem dJ5_appendNull_278bc_10 : decode cJ5_appendNull_278bc 10 = .ok (.aload_n 0, 1) := by decide +kernel
theorem dJ5_appendNull_278bc_11 : decode cJ5_appendNull_278bc 11 = .ok (.getfield 79, 3) := by decide +kernel
theorem dJ5_appendNull_278bc_14 : decode cJ5_appendNull_278bc 14 = .ok (.istore_n 1, 1) := by decide +kernel
theorem dJ5_appendNull_278bc_15 : decode cJ5_appendNull_278bc 15 = .ok (.aload_n 0, 1) := by decide +kernel
theorem dJ5_appendNull_278bc_16 : decode cJ5_appendNull_278bc 16 = .ok (.getfield 15, 3) := by decide +kernel
theorem dJ5_appendNull_278bc_19 : decode cJ5_appendNull_278bc 19 = .ok (.astore_n 2, 1) := by decide +kernel
theorem dJ5_appendNull_278bc_20 : decode cJ5_appendNull_278bc 20 = .ok (.aload_n 0, 1) := by decide +kernel
theorem dJ5_appendNull_278bc_21 : decode cJ5_appendNull_278bc 21 = .ok (.invokevirtual 83, 3) := by decide +kernel
theorem dJ5_appendNull_278bc_24 : decode cJ5_appendNull_278bc 24 = .ok (.ifCond .eq 38, 3) := by decide +kernel
theorem dJ5_appendNull_278bc_27 : decode cJ5_appendNull_278bc 27 = .ok (.aload_n 2, 1) := by decide +kernel
theorem dJ5_appendNull_278bc_28 : decode cJ5_appendNull_278bc 28 = .ok (.iload_n 1, 1) := by decide +kernel
theorem dJ5_appendNull_278bc_29 : decode cJ5_appendNull_278bc 29 = .ok (.iinc 1 1, 3) := by decide +kernel
theorem dJ5_appendNull_278bc_32 : decode cJ5_appendNull_278bc 32 = .ok (.bipush 110, 2) := by decide +kernel
theorem dJ5_appendNull_278bc_34 : decode cJ5_appendNull_278bc 34 = .ok (.bastore, 1) := by decide +kernel
theorem dJ5_appendNull_278bc_35 : decode cJ5_appendNull_278bc 35 = .ok (.aload_n 2, 1) := by decide +kernel
theorem dJ5_appendNull_278bc_36 : decode cJ5_appendNull_278bc 36 = .ok (.iload_n 1, 1) := by decide +kernel
theorem dJ5_appendNull_278bc_37 : decode cJ5_appendNull_278bc 37 = .ok (.iinc 1 1, 3) := by decide +kernel
theorem dJ5_appendNull_278bc_40 : decode cJ5_appendNull_278bc 40 = .ok (.bipush 117, 2) := by decide +kernel
theorem dJ5_appendNull_278bc_42 : decode cJ5_appendNull_278bc 42 = .ok (.bastore, 1) := by decide +kernel
theorem dJ5_appendNull_278bc_43 : decode cJ5_appendNull_278bc 43 = .ok (.aload_n 2, 1) := by decide +kernel
theorem dJ5_appendNull_278bc_44 : decode cJ5_appendNull_278bc 44 = .ok (.iload_n 1, 1) := by decide +kernel
theorem dJ5_appendNull_278bc_45 : decode cJ5_appendNull_278bc 45 = .ok (.iinc 1 1, 3) := by decide +kernel
theorem dJ5_appendNull_278bc_48 : decode cJ5_appendNull_278bc 48 = .ok (.bipush 108, 2) := by decide +kernel
theorem dJ5_appendNull_278bc_50 : decode cJ5_appendNull_278bc 50 = .ok (.bastore, 1) := by decide +kernel
theorem dJ5_appendNull_278bc_51 : decode cJ5_appendNull_278bc 51 = .ok (.aload_n 2, 1) := by decide +kernel
theorem dJ5_appendNull_278bc_52 : decode cJ5_appendNull_278bc 52 = .ok (.iload_n 1, 1) := by decide +kernel
theorem dJ5_appendNull_278bc_53 : decode cJ5_appendNull_278bc 53 = .ok (.iinc 1 1, 3) := by decide +kernel
theorem dJ5_appendNull_278bc_56 : decode cJ5_appendNull_278bc 56 = .ok (.bipush 108, 2) := by decide +kernel
theorem dJ5_appendNull_278bc_58 : decode cJ5_appendNull_278bc 58 = .ok (.bastore, 1) := by decide +kernel
theorem dJ5_appendNull_278bc_59 : decode cJ5_appendNull_278bc 59 = .ok (.goto 17, 3) := by decide +kernel
theorem dJ5_appendNull_278bc_62 : decode cJ5_appendNull_278bc 62 = .ok (.aload_n 2, 1) := by decide +kernel
theorem dJ5_appendNull_278bc_63 : decode cJ5_appendNull_278bc 63 = .ok (.iload_n 1, 1) := by decide +kernel
theorem dJ5_appendNull_278bc_64 : decode cJ5_appendNull_278bc 64 = .ok (.bipush 110, 2) := by decide +kernel
theorem dJ5_appendNull_278bc_66 : decode cJ5_appendNull_278bc 66 = .ok (.bipush 117, 2) := by decide +kernel
theorem dJ5_appendNull_278bc_68 : decode cJ5_appendNull_278bc 68 = .ok (.bipush 108, 2) := by decide +kernel
theorem dJ5_appendNull_278bc_70 : decode cJ5_appendNull_278bc 70 = .ok (.bipush 108, 2) := by decide +kernel
theorem dJ5_appendNull_278bc_72 : decode cJ5_appendNull_278bc 72 = .ok (.invokestatic 226, 3) := by decide +kernel
theorem dJ5_appendNull_278bc_75 : decode cJ5_appendNull_278bc 75 = .ok (.istore_n 1, 1) := by decide +kernel
theorem dJ5_appendNull_278bc_76 : decode cJ5_appendNull_278bc 76 = .ok (.aload_n 0, 1) := by decide +kernel
theorem dJ5_appendNull_278bc_77 : decode cJ5_appendNull_278bc 77 = .ok (.iload_n 1, 1) := by decide +kernel
theorem dJ5_appendNull_278bc_78 : decode cJ5_appendNull_278bc 78 = .ok (.putfield 79, 3) := by decide +kernel
theorem dJ5_appendNull_278bc_81 : decode cJ5_appendNull_278bc 81 = .ok (.aload_n 0, 1) := by decide +kernel
theorem dJ5_appendNull_278bc_82 : decode cJ5_appendNull_278bc 82 = .ok (.areturn, 1) := by decide +kernel
theorem dJ5_append_3fe6f_0 : decode cJ5_append_3fe6f 0 = .ok (.aload_n 0, 1) := by decide +kernel
theorem dJ5_append_3fe6f_1 : decode cJ5_append_3fe6f 1 = .ok (.aload_n 0, 1) := by decide +kernel
theorem dJ5_append_3fe6f_2 : decode cJ5_append_3fe6f 2 = .ok (.getfield 79, 3) := by decide +kernel
theorem dJ5_append_3fe6f_5 : decode cJ5_append_3fe6f 5 = .ok (.iconst 1, 1) := by decide +kernel
theorem dJ5_append_3fe6f_6 : decode cJ5_append_3fe6f 6 = .ok (.iadd, 1) := by decide +kernel
theorem dJ5_append_3fe6f_7 : decode cJ5_append_3fe6f 7 = .ok (.invokevirtual 100, 3) := by decide +kernel
theorem dJ5_append_3fe6f_10 : decode cJ5_append_3fe6f 10 = .ok (.aload_n 0, 1) := by decide +kernel
theorem dJ5_append_3fe6f_11 : decode cJ5_append_3fe6f 11 = .ok (.invokevirtual 83, 3) := by decide +kernel
theorem dJ5_append_3fe6f_14 : decode cJ5_append_3fe6f 14 = .ok (.ifCond .eq 31, 3) := by decide +kernel
theorem dJ5_append_3fe6f_17 : decode cJ5_append_3fe6f 17 = .ok (.iload_n 1, 1) := by decide +kernel
theorem dJ5_append_3fe6f_18 : decode cJ5_append_3fe6f 18 = .ok (.invokestatic 191, 3) := by decide +kernel
theorem dJ5_append_3fe6f_21 : decode cJ5_append_3fe6f 21 = .ok (.ifCond .eq 24, 3) := by decide +kernel
theorem dJ5_append_3fe6f_24 : decode cJ5_append_3fe6f 24 = .ok (.aload_n 0, 1) := by decide +kernel
theorem dJ5_append_3fe6f_25 : decode cJ5_append_3fe6f 25 = .ok (.getfield 15, 3) := by decide +kernel
theorem dJ5_append_3fe6f_28 : decode cJ5_append_3fe6f 28 = .ok (.aload_n 0, 1) := by decide +kernel
theorem dJ5_append_3fe6f_29 : decode cJ5_append_3fe6f 29 = .ok (.dup, 1) := by decide +kernel
theorem dJ5_append_3fe6f_30 : decode cJ5_append_3fe6f 30 = .ok (.getfield 79, 3) := by decide +kernel
theorem dJ5_append_3fe6f_33 : decode cJ5_append_3fe6f 33 = .ok (.dup_x1, 1) := by decide +kernel
theorem dJ5_append_3fe6f_34 : decode cJ5_append_3fe6f 34 = .ok (.iconst 1, 1) := by decide +kernel
theorem dJ5_append_3fe6f_35 : decode cJ5_append_3fe6f 35 = .ok (.iadd, 1) := by decide +kernel
theorem dJ5_append_3fe6f_36 : decode cJ5_append_3fe6f 36 = .ok (.putfield 79, 3) := by decide +kernel
theorem dJ5_append_3fe6f_39 : decode cJ5_append_3fe6f 39 = .ok (.iload_n 1, 1) := by decide +kernel
theorem dJ5_append_3fe6f_40 : decode cJ5_append_3fe6f 40 = .ok (.i2b, 1) := by decide +kernel
theorem dJ5_append_3fe6f_41 : decode cJ5_append_3fe6f 41 = .ok (.bastore, 1) := by decide +kernel
theorem dJ5_append_3fe6f_42 : decode cJ5_append_3fe6f 42 = .ok (.goto 33, 3) := by decide +kernel
theorem dJ5_append_3fe6f_45 : decode cJ5_append_3fe6f 45 = .ok (.aload_n 0, 1) := by decide +kernel
theorem dJ5_append_3fe6f_46 : decode cJ5_append_3fe6f 46 = .ok (.invokevirtual 83, 3) := by decide +kernel
theorem dJ5_append_3fe6f_49 : decode cJ5_append_3fe6f 49 = .ok (.ifCond .eq 7, 3) := by decide +kernel
theorem dJ5_append_3fe6f_52 : decode cJ5_append_3fe6f 52 = .ok (.aload_n 0, 1) := by decide +kernel
theorem dJ5_append_3fe6f_53 : decode cJ5_append_3fe6f 53 = .ok (.invokevirtual 195, 3) := by decide +kernel
theorem dJ5_append_3fe6f_56 : decode cJ5_append_3fe6f 56 = .ok (.aload_n 0, 1) := by decide +kernel
theorem dJ5_append_3fe6f_57 : decode cJ5_append_3fe6f 57 = .ok (.getfield 15, 3) := by decide +kernel
theorem dJ5_append_3fe6f_60 : decode cJ5_append_3fe6f 60 = .ok (.aload_n 0, 1) := by decide +kernel
theorem dJ5_append_3fe6f_61 : decode cJ5_append_3fe6f 61 = .ok (.dup, 1) := by decide +kernel
theorem dJ5_append_3fe6f_62 : decode cJ5_append_3fe6f 62 = .ok (.getfield 79, 3) := by decide +kernel
theorem dJ5_append_3fe6f_65 : decode cJ5_append_3fe6f 65 = .ok (.dup_x1, 1) := by decide +kernel
theorem dJ5_append_3fe6f_66 : decode cJ5_append_3fe6f 66 = .ok (.iconst 1, 1) := by decide +kernel
theorem dJ5_append_3fe6f_67 : decode cJ5_append_3fe6f 67 = .ok (.iadd, 1) := by decide +kernel
theorem dJ5_append_3fe6f_68 : decode cJ5_append_3fe6f 68 = .ok (.putfield 79, 3) := by decide +kernel
theorem dJ5_append_3fe6f_71 : decode cJ5_append_3fe6f 71 = .ok (.iload_n 1, 1) := by decide +kernel
theorem dJ5_append_3fe6f_72 : decode cJ5_append_3fe6f 72 = .ok (.invokestatic 197, 3) := by decide +kernel
theorem dJ5_append_3fe6f_75 : decode cJ5_append_3fe6f 75 = .ok (.aload_n 0, 1) := by decide +kernel
theorem dJ5_append_3fe6f_76 : decode cJ5_append_3fe6f 76 = .ok (.areturn, 1) := by decide +kernel
theorem dJ5_append_c97b9_0 : decode cJ5_append_c97b9 0 = .ok (.aload_n 0, 1) := by decide +kernel
theorem dJ5_append_c97b9_1 : decode cJ5_append_c97b9 1 = .ok (.getfield 79, 3) := by decide +kernel
theorem dJ5_append_c97b9_4 : decode cJ5_append_c97b9 4 = .ok (.istore_n 2, 1) := by decide +kernel
theorem dJ5_append_c97b9_5 : decode cJ5_append_c97b9 5 = .ok (.iload_n 2, 1) := by decide +kernel
theorem dJ5_append_c97b9_6 : decode cJ5_append_c97b9 6 = .ok (.iload_n 1, 1) := by decide +kernel
theorem dJ5_append_c97b9_7 : decode cJ5_append_c97b9 7 = .ok (.invokestatic 245, 3) := by decide +kernel
theorem dJ5_append_c97b9_10 : decode cJ5_append_c97b9 10 = .ok (.iadd, 1) := by decide +kernel
theorem dJ5_append_c97b9_11 : decode cJ5_append_c97b9 11 = .ok (.istore_n 3, 1) := by decide +kernel
theorem dJ5_append_c97b9_12 : decode cJ5_append_c97b9 12 = .ok (.aload_n 0, 1) := by decide +kernel
theorem dJ5_append_c97b9_13 : decode cJ5_append_c97b9 13 = .ok (.iload_n 3, 1) := by decide +kernel
theorem dJ5_append_c97b9_14 : decode cJ5_append_c97b9 14 = .ok (.invokevirtual 100, 3) := by decide +kernel
theorem dJ5_append_c97b9_17 : decode cJ5_append_c97b9 17 = .ok (.aload_n 0, 1) := by decide +kernel
theorem dJ5_append_c97b9_18 : decode cJ5_append_c97b9 18 = .ok (.invokevirtual 83, 3) := by decide +kernel
theorem dJ5_append_c97b9_21 : decode cJ5_append_c97b9 21 = .ok (.ifCond .eq 16, 3) := by decide +kernel
theorem dJ5_append_c97b9_24 : decode cJ5_append_c97b9 24 = .ok (.iload_n 1, 1) := by decide +kernel
theorem dJ5_append_c97b9_25 : decode cJ5_append_c97b9 25 = .ok (.iload_n 3, 1) := by decide +kernel
theorem dJ5_append_c97b9_26 : decode cJ5_append_c97b9 26 = .ok (.aload_n 0, 1) := by decide +kernel
theorem dJ5_append_c97b9_27 : decode cJ5_append_c97b9 27 = .ok (.getfield 15, 3) := by decide +kernel
theorem dJ5_append_c97b9_30 : decode cJ5_append_c97b9 30 = .ok (.invokestatic 248, 3) := by decide +kernel
theorem dJ5_append_c97b9_33 : decode cJ5_append_c97b9 33 = .ok (.pop, 1) := by decide +kernel
theorem dJ5_append_c97b9_34 : decode cJ5_append_c97b9 34 = .ok (.goto 14, 3) := by decide +kernel
theorem dJ5_append_c97b9_37 : decode cJ5_append_c97b9 37 = .ok (.iload_n 1, 1) := by decide +kernel
theorem dJ5_append_c97b9_38 : decode cJ5_append_c97b9 38 = .ok (.iload_n 2, 1) := by decide +kernel
theorem dJ5_append_c97b9_39 : decode cJ5_append_c97b9 39 = .ok (.iload_n 3, 1) := by decide +kernel
theorem dJ5_append_c97b9_40 : decode cJ5_append_c97b9 40 = .ok (.aload_n 0, 1) := by decide +kernel
theorem dJ5_append_c97b9_41 : decode cJ5_append_c97b9 41 = .ok (.getfield 15, 3) := by decide +kernel
theorem dJ5_append_c97b9_44 : decode cJ5_append_c97b9 44 = .ok (.invokestatic 251, 3) := by decide +kernel
theorem dJ5_append_c97b9_47 : decode cJ5_append_c97b9 47 = .ok (.pop, 1) := by decide +kernel
theorem dJ5_append_c97b9_48 : decode cJ5_append_c97b9 48 = .ok (.aload_n 0, 1) := by decide +kernel
theorem dJ5_append_c97b9_49 : decode cJ5_append_c97b9 49 = .ok (.iload_n 3, 1) := by decide +kernel
theorem dJ5_append_c97b9_50 : decode cJ5_append_c97b9 50 = .ok (.putfield 79, 3) := by decide +kernel
theorem dJ5_append_c97b9_53 : decode cJ5_append_c97b9 53 = .ok (.aload_n 0, 1) := by decide +kernel
theorem dJ5_append_c97b9_54 : decode cJ5_append_c97b9 54 = .ok (.areturn, 1) := by decide +kernel
theorem dJ5_getValue_6d5f1_0 : decode cJ5_getValue_6d5f1 0 = .ok (.aload_n 0, 1) := by decide +kernel
theorem dJ5_getValue_6d5f1_1 : decode cJ5_getValue_6d5f1 1 = .ok (.getfield 15, 3) := by decide +kernel
theorem dJ5_getValue_6d5f1_4 : decode cJ5_getValue_6d5f1 4 = .ok (.areturn, 1) := by decide +kernel
theorem dJ5_isLatin1_aae02_0 : decode cJ5_isLatin1_aae02 0 = .ok (.getstatic 18, 3) := by decide +kernel
theorem dJ5_isLatin1_aae02_3 : decode cJ5_isLatin1_aae02 3 = .ok (.ifCond .eq 14, 3) := by decide +kernel
theorem dJ5_isLatin1_aae02_6 : decode cJ5_isLatin1_aae02 6 = .ok (.aload_n 0, 1) := by decide +kernel
theorem dJ5_isLatin1_aae02_7 : decode cJ5_isLatin1_aae02 7 = .ok (.getfield 22, 3) := by decide +kernel
theorem dJ5_isLatin1_aae02_10 : decode cJ5_isLatin1_aae02 10 = .ok (.ifCond .ne 7, 3) := by decide +kernel
theorem dJ5_isLatin1_aae02_13 : decode cJ5_isLatin1_aae02 13 = .ok (.iconst 1, 1) := by decide +kernel
theorem dJ5_isLatin1_aae02_14 : decode cJ5_isLatin1_aae02 14 = .ok (.goto 4, 3) := by decide +kernel
theorem dJ5_isLatin1_aae02_17 : decode cJ5_isLatin1_aae02 17 = .ok (.iconst 0, 1) := by decide +kernel
theorem dJ5_isLatin1_aae02_18 : decode cJ5_isLatin1_aae02 18 = .ok (.ireturn, 1) := by decide +kernel
theorem dJ5_inflateIfNeededFor_a7421_0 : decode cJ5_inflateIfNeededFor_a7421 0 = .ok (.getstatic 18, 3) := by decide +kernel
theorem dJ5_inflateIfNeededFor_a7421_3 : decode cJ5_inflateIfNeededFor_a7421 3 = .ok (.ifCond .eq 18, 3) := by decide +kernel
theorem dJ5_inflateIfNeededFor_a7421_6 : decode cJ5_inflateIfNeededFor_a7421 6 = .ok (.aload_n 0, 1) := by decide +kernel
theorem dJ5_inflateIfNeededFor_a7421_7 : decode cJ5_inflateIfNeededFor_a7421 7 = .ok (.getfield 22, 3) := by decide +kernel
theorem dJ5_inflateIfNeededFor_a7421_10 : decode cJ5_inflateIfNeededFor_a7421 10 = .ok (.aload_n 1, 1) := by decide +kernel
theorem dJ5_inflateIfNeededFor_a7421_11 : decode cJ5_inflateIfNeededFor_a7421 11 = .ok (.invokevirtual 40, 3) := by decide +kernel
theorem dJ5_inflateIfNeededFor_a7421_14 : decode cJ5_inflateIfNeededFor_a7421 14 = .ok (.if_icmp .eq 7, 3) := by decide +kernel
theorem dJ5_inflateIfNeededFor_a7421_17 : decode cJ5_inflateIfNeededFor_a7421 17 = .ok (.aload_n 0, 1) := by decide +kernel
theorem dJ5_inflateIfNeededFor_a7421_18 : decode cJ5_inflateIfNeededFor_a7421 18 = .ok (.invokevirtual 195, 3) := by decide +kernel
theorem dJ5_inflateIfNeededFor_a7421_21 : decode cJ5_inflateIfNeededFor_a7421 21 = .ok (.return_, 1) := by decide +kernel
theorem dJ5_putStringAt_47b60_0 : decode cJ5_putStringAt_47b60 0 = .ok (.aload_n 0, 1) := by decide +kernel
theorem dJ5_putStringAt_47b60_1 : decode cJ5_putStringAt_47b60 1 = .ok (.aload_n 2, 1) := by decide +kernel
theorem dJ5_putStringAt_47b60_2 : decode cJ5_putStringAt_47b60 2 = .ok (.invokevirtual 397, 3) := by decide +kernel
theorem dJ5_putStringAt_47b60_5 : decode cJ5_putStringAt_47b60 5 = .ok (.aload_n 2, 1) := by decide +kernel
theorem dJ5_putStringAt_47b60_6 : decode cJ5_putStringAt_47b60 6 = .ok (.aload_n 0, 1) := by decide +kernel
theorem dJ5_putStringAt_47b60_7 : decode cJ5_putStringAt_47b60 7 = .ok (.getfield 15, 3) := by decide +kernel
theorem dJ5_putStringAt_47b60_10 : decode cJ5_putStringAt_47b60 10 = .ok (.iload_n 1, 1) := by decide +kernel
theorem dJ5_putStringAt_47b60_11 : decode cJ5_putStringAt_47b60 11 = .ok (.aload_n 0, 1) := by decide +kernel
theorem dJ5_putStringAt_47b60_12 : decode cJ5_putStringAt_47b60 12 = .ok (.getfield 22, 3) := by decide +kernel
theorem dJ5_putStringAt_47b60_15 : decode cJ5_putStringAt_47b60 15 = .ok (.invokevirtual 399, 3) := by decide +kernel
theorem dJ5_putStringAt_47b60_18 : decode cJ5_putStringAt_47b60 18 = .ok (.return_, 1) := by decide +kernel
theorem dJ6_getChars_ba4f3_0 : decode cJ6_getChars_ba4f3 0 = .ok (.iload_n 1, 1) := by decide +kernel
theorem dJ6_getChars_ba4f3_1 : decode cJ6_getChars_ba4f3 1 = .ok (.istore 5, 2) := by decide +kernel
theorem dJ6_getChars_ba4f3_3 : decode cJ6_getChars_ba4f3 3 = .ok (.iload_n 0, 1) := by decide +kernel
theorem dJ6_getChars_ba4f3_4 : decode cJ6_getChars_ba4f3 4 = .ok (.ifCond .ge 7, 3) := by decide +kernel
theorem dJ6_getChars_ba4f3_7 : decode cJ6_getChars_ba4f3 7 = .ok (.iconst 1, 1) := by decide +kernel
theorem dJ6_getChars_ba4f3_8 : decode cJ6_getChars_ba4f3 8 = .ok (.goto 4, 3) := by decide +kernel
theorem dJ6_getChars_ba4f3_11 : decode cJ6_getChars_ba4f3 11 = .ok (.iconst 0, 1) := by decide +kernel
theorem dJ6_getChars_ba4f3_12 : decode cJ6_getChars_ba4f3 12 = .ok (.istore 6, 2) := by decide +kernel
theorem dJ6_getChars_ba4f3_14 : decode cJ6_getChars_ba4f3 14 = .ok (.iload 6, 2) := by decide +kernel
theorem dJ6_getChars_ba4f3_16 : decode cJ6_getChars_ba4f3 16 = .ok (.ifCond .ne 6, 3) := by decide +kernel
theorem dJ6_getChars_ba4f3_19 : decode cJ6_getChars_ba4f3 19 = .ok (.iload_n 0, 1) := by decide +kernel
theorem dJ6_getChars_ba4f3_20 : decode cJ6_getChars_ba4f3 20 = .ok (.ineg, 1) := by decide +kernel
theorem dJ6_getChars_ba4f3_21 : decode cJ6_getChars_ba4f3 21 = .ok (.istore_n 0, 1) := by decide +kernel
theorem dJ6_getChars_ba4f3_22 : decode cJ6_getChars_ba4f3 22 = .ok (.iload_n 0, 1) := by decide +kernel
theorem dJ6_getChars_ba4f3_23 : decode cJ6_getChars_ba4f3 23 = .ok (.bipush (-100), 2) := by decide +kernel
theorem dJ6_getChars_ba4f3_25 : decode cJ6_getChars_ba4f3 25 = .ok (.if_icmp .gt 47, 3) := by decide +kernel
theorem dJ6_getChars_ba4f3_28 : decode cJ6_getChars_ba4f3 28 = .ok (.iload_n 0, 1) := by decide +kernel
theorem dJ6_getChars_ba4f3_29 : decode cJ6_getChars_ba4f3 29 = .ok (.bipush 100, 2) := by decide +kernel
theorem dJ6_getChars_ba4f3_31 : decode cJ6_getChars_ba4f3 31 = .ok (.idiv, 1) := by decide +kernel
theorem dJ6_getChars_ba4f3_32 : decode cJ6_getChars_ba4f3 32 = .ok (.istore_n 3, 1) := by decide +kernel
theorem dJ6_getChars_ba4f3_33 : decode cJ6_getChars_ba4f3 33 = .ok (.iload_n 3, 1) := by decide +kernel
theorem dJ6_getChars_ba4f3_34 : decode cJ6_getChars_ba4f3 34 = .ok (.bipush 100, 2) := by decide +kernel
theorem dJ6_getChars_ba4f3_36 : decode cJ6_getChars_ba4f3 36 = .ok (.imul, 1) := by decide +kernel
theorem dJ6_getChars_ba4f3_37 : decode cJ6_getChars_ba4f3 37 = .ok (.iload_n 0, 1) := by decide +kernel
theorem dJ6_getChars_ba4f3_38 : decode cJ6_getChars_ba4f3 38 = .ok (.isub, 1) := by decide +kernel
theorem dJ6_getChars_ba4f3_39 : decode cJ6_getChars_ba4f3 39 = .ok (.istore 4, 2) := by decide +kernel
theorem dJ6_getChars_ba4f3_41 : decode cJ6_getChars_ba4f3 41 = .ok (.iload_n 3, 1) := by decide +kernel
theorem dJ6_getChars_ba4f3_42 : decode cJ6_getChars_ba4f3 42 = .ok (.istore_n 0, 1) := by decide +kernel
theorem dJ6_getChars_ba4f3_43 : decode cJ6_getChars_ba4f3 43 = .ok (.aload_n 2, 1) := by decide +kernel
theorem dJ6_getChars_ba4f3_44 : decode cJ6_getChars_ba4f3 44 = .ok (.iinc 5 (-1), 3) := by decide +kernel
theorem dJ6_getChars_ba4f3_47 : decode cJ6_getChars_ba4f3 47 = .ok (.iload 5, 2) := by decide +kernel
theorem dJ6_getChars_ba4f3_49 : decode cJ6_getChars_ba4f3 49 = .ok (.getstatic 83, 3) := by decide +kernel
theorem dJ6_getChars_ba4f3_52 : decode cJ6_getChars_ba4f3 52 = .ok (.iload 4, 2) := by decide +kernel
theorem dJ6_getChars_ba4f3_54 : decode cJ6_getChars_ba4f3 54 = .ok (.baload, 1) := by decide +kernel
theorem dJ6_getChars_ba4f3_55 : decode cJ6_getChars_ba4f3 55 = .ok (.bastore, 1) := by decide +kernel
theorem dJ6_getChars_ba4f3_56 : decode cJ6_getChars_ba4f3 56 = .ok (.aload_n 2, 1) := by decide +kernel
theorem dJ6_getChars_ba4f3_57 : decode cJ6_getChars_ba4f3 57 = .ok (.iinc 5 (-1), 3) := by decide +kernel
theorem dJ6_getChars_ba4f3_60 : decode cJ6_getChars_ba4f3 60 = .ok (.iload 5, 2) := by decide +kernel
theorem dJ6_getChars_ba4f3_62 : decode cJ6_getChars_ba4f3 62 = .ok (.getstatic 87, 3) := by decide +kernel
theorem dJ6_getChars_ba4f3_65 : decode cJ6_getChars_ba4f3 65 = .ok (.iload 4, 2) := by decide +kernel
theorem dJ6_getChars_ba4f3_67 : decode cJ6_getChars_ba4f3 67 = .ok (.baload, 1) := by decide +kernel
theorem dJ6_getChars_ba4f3_68 : decode cJ6_getChars_ba4f3 68 = .ok (.bastore, 1) := by decide +kernel
theorem dJ6_getChars_ba4f3_69 : decode cJ6_getChars_ba4f3 69 = .ok (.goto (-47), 3) := by decide +kernel
theorem dJ6_getChars_ba4f3_72 : decode cJ6_getChars_ba4f3 72 = .ok (.aload_n 2, 1) := by decide +kernel
theorem dJ6_getChars_ba4f3_73 : decode cJ6_getChars_ba4f3 73 = .ok (.iinc 5 (-1), 3) := by decide +kernel
theorem dJ6_getChars_ba4f3_76 : decode cJ6_getChars_ba4f3 76 = .ok (.iload 5, 2) := by decide +kernel
theorem dJ6_getChars_ba4f3_78 : decode cJ6_getChars_ba4f3 78 = .ok (.getstatic 83, 3) := by decide +kernel
theorem dJ6_getChars_ba4f3_81 : decode cJ6_getChars_ba4f3 81 = .ok (.iload_n 0, 1) := by decide +kernel
theorem dJ6_getChars_ba4f3_82 : decode cJ6_getChars_ba4f3 82 = .ok (.ineg, 1) := by decide +kernel
theorem dJ6_getChars_ba4f3_83 : decode cJ6_getChars_ba4f3 83 = .ok (.baload, 1) := by decide +kernel
theorem dJ6_getChars_ba4f3_84 : decode cJ6_getChars_ba4f3 84 = .ok (.bastore, 1) := by decide +kernel
theorem dJ6_getChars_ba4f3_85 : decode cJ6_getChars_ba4f3 85 = .ok (.iload_n 0, 1) := by decide +kernel
theorem dJ6_getChars_ba4f3_86 : decode cJ6_getChars_ba4f3 86 = .ok (.bipush (-9), 2) := by decide +kernel
theorem dJ6_getChars_ba4f3_88 : decode cJ6_getChars_ba4f3 88 = .ok (.if_icmp .ge 16, 3) := by decide +kernel
theorem dJ6_getChars_ba4f3_91 : decode cJ6_getChars_ba4f3 91 = .ok (.aload_n 2, 1) := by decide +kernel
theorem dJ6_getChars_ba4f3_92 : decode cJ6_getChars_ba4f3 92 = .ok (.iinc 5 (-1), 3) := by decide +kernel
theorem dJ6_getChars_ba4f3_95 : decode cJ6_getChars_ba4f3 95 = .ok (.iload 5, 2) := by decide +kernel
theorem dJ6_getChars_ba4f3_97 : decode cJ6_getChars_ba4f3 97 = .ok (.getstatic 87, 3) := by decide +kernel
theorem dJ6_getChars_ba4f3_100 : decode cJ6_getChars_ba4f3 100 = .ok (.iload_n 0, 1) := by decide +kernel
theorem dJ6_getChars_ba4f3_101 : decode cJ6_getChars_ba4f3 101 = .ok (.ineg, 1) := by decide +kernel
theorem dJ6_getChars_ba4f3_102 : decode cJ6_getChars_ba4f3 102 = .ok (.baload, 1) := by decide +kernel
theorem dJ6_getChars_ba4f3_103 : decode cJ6_getChars_ba4f3 103 = .ok (.bastore, 1) := by decide +kernel
theorem dJ6_getChars_ba4f3_104 : decode cJ6_getChars_ba4f3 104 = .ok (.iload 6, 2) := by decide +kernel
theorem dJ6_getChars_ba4f3_106 : decode cJ6_getChars_ba4f3 106 = .ok (.ifCond .eq 12, 3) := by decide +kernel
theorem dJ6_getChars_ba4f3_109 : decode cJ6_getChars_ba4f3 109 = .ok (.aload_n 2, 1) := by decide +kernel
theorem dJ6_getChars_ba4f3_110 : decode cJ6_getChars_ba4f3 110 = .ok (.iinc 5 (-1), 3) := by decide +kernel
theorem dJ6_getChars_ba4f3_113 : decode cJ6_getChars_ba4f3 113 = .ok (.iload 5, 2) := by decide +kernel
theorem dJ6_getChars_ba4f3_115 : decode cJ6_getChars_ba4f3 115 = .ok (.bipush 45, 2) := by decide +kernel
theorem dJ6_getChars_ba4f3_117 : decode cJ6_getChars_ba4f3 117 = .ok (.bastore, 1) := by decide +kernel
theorem dJ6_getChars_ba4f3_118 : decode cJ6_getChars_ba4f3 118 = .ok (.iload 5, 2) := by decide +kernel
theorem dJ6_getChars_ba4f3_120 : decode cJ6_getChars_ba4f3 120 = .ok (.ireturn, 1) := by decide +kernel
theorem dJ6_stringSize_0f7a4_0 : decode cJ6_stringSize_0f7a4 0 = .ok (.iconst 1, 1) := by decide +kernel
theorem dJ6_stringSize_0f7a4_1 : decode cJ6_stringSize_0f7a4 1 = .ok (.istore_n 1, 1) := by decide +kernel
theorem dJ6_stringSize_0f7a4_2 : decode cJ6_stringSize_0f7a4 2 = .ok (.iload_n 0, 1) := by decide +kernel
theorem dJ6_stringSize_0f7a4_3 : decode cJ6_stringSize_0f7a4 3 = .ok (.ifCond .lt 8, 3) := by decide +kernel
theorem dJ6_stringSize_0f7a4_6 : decode cJ6_stringSize_0f7a4 6 = .ok (.iconst 0, 1) := by decide +kernel
theorem dJ6_stringSize_0f7a4_7 : decode cJ6_stringSize_0f7a4 7 = .ok (.istore_n 1, 1) := by decide +kernel
theorem dJ6_stringSize_0f7a4_8 : decode cJ6_stringSize_0f7a4 8 = .ok (.iload_n 0, 1) := by decide +kernel
theorem dJ6_stringSize_0f7a4_9 : decode cJ6_stringSize_0f7a4 9 = .ok (.ineg, 1) := by decide +kernel
theorem dJ6_stringSize_0f7a4_10 : decode cJ6_stringSize_0f7a4 10 = .ok (.istore_n 0, 1) := by decide +kernel
theorem dJ6_stringSize_0f7a4_11 : decode cJ6_stringSize_0f7a4 11 = .ok (.bipush (-10), 2) := by decide +kernel
theorem dJ6_stringSize_0f7a4_13 : decode cJ6_stringSize_0f7a4 13 = .ok (.istore_n 2, 1) := by decide +kernel
theorem dJ6_stringSize_0f7a4_14 : decode cJ6_stringSize_0f7a4 14 = .ok (.iconst 1, 1) := by decide +kernel
theorem dJ6_stringSize_0f7a4_15 : decode cJ6_stringSize_0f7a4 15 = .ok (.istore_n 3, 1) := by decide +kernel
theorem dJ6_stringSize_0f7a4_16 : decode cJ6_stringSize_0f7a4 16 = .ok (.iload_n 3, 1) := by decide +kernel
theorem dJ6_stringSize_0f7a4_17 : decode cJ6_stringSize_0f7a4 17 = .ok (.bipush 10, 2) := by decide +kernel
theorem dJ6_stringSize_0f7a4_19 : decode cJ6_stringSize_0f7a4 19 = .ok (.if_icmp .ge 23, 3) := by decide +kernel
theorem dJ6_stringSize_0f7a4_22 : decode cJ6_stringSize_0f7a4 22 = .ok (.iload_n 0, 1) := by decide +kernel
theorem dJ6_stringSize_0f7a4_23 : decode cJ6_stringSize_0f7a4 23 = .ok (.iload_n 2, 1) := by decide +kernel
theorem dJ6_stringSize_0f7a4_24 : decode cJ6_stringSize_0f7a4 24 = .ok (.if_icmp .le 7, 3) := by decide +kernel
theorem dJ6_stringSize_0f7a4_27 : decode cJ6_stringSize_0f7a4 27 = .ok (.iload_n 3, 1) := by decide +kernel
theorem dJ6_stringSize_0f7a4_28 : decode cJ6_stringSize_0f7a4 28 = .ok (.iload_n 1, 1) := by decide +kernel
theorem dJ6_stringSize_0f7a4_29 : decode cJ6_stringSize_0f7a4 29 = .ok (.iadd, 1) := by decide +kernel
theorem dJ6_stringSize_0f7a4_30 : decode cJ6_stringSize_0f7a4 30 = .ok (.ireturn, 1) := by decide +kernel
theorem dJ6_stringSize_0f7a4_31 : decode cJ6_stringSize_0f7a4 31 = .ok (.bipush 10, 2) := by decide +kernel
theorem dJ6_stringSize_0f7a4_33 : decode cJ6_stringSize_0f7a4 33 = .ok (.iload_n 2, 1) := by decide +kernel
theorem dJ6_stringSize_0f7a4_34 : decode cJ6_stringSize_0f7a4 34 = .ok (.imul, 1) := by decide +kernel
theorem dJ6_stringSize_0f7a4_35 : decode cJ6_stringSize_0f7a4 35 = .ok (.istore_n 2, 1) := by decide +kernel
theorem dJ6_stringSize_0f7a4_36 : decode cJ6_stringSize_0f7a4 36 = .ok (.iinc 3 1, 3) := by decide +kernel
theorem dJ6_stringSize_0f7a4_39 : decode cJ6_stringSize_0f7a4 39 = .ok (.goto (-23), 3) := by decide +kernel
theorem dJ6_stringSize_0f7a4_42 : decode cJ6_stringSize_0f7a4 42 = .ok (.bipush 10, 2) := by decide +kernel
theorem dJ6_stringSize_0f7a4_44 : decode cJ6_stringSize_0f7a4 44 = .ok (.iload_n 1, 1) := by decide +kernel
theorem dJ6_stringSize_0f7a4_45 : decode cJ6_stringSize_0f7a4 45 = .ok (.iadd, 1) := by decide +kernel
theorem dJ6_stringSize_0f7a4_46 : decode cJ6_stringSize_0f7a4 46 = .ok (.ireturn, 1) := by decide +kernel
theorem dJ9_abs_0f7a4_0 : decode cJ9_abs_0f7a4 0 = .ok (.iload_n 0, 1) := by decide +kernel
theorem dJ9_abs_0f7a4_1 : decode cJ9_abs_0f7a4 1 = .ok (.ifCond .ge 8, 3) := by decide +kernel
theorem dJ9_abs_0f7a4_4 : decode cJ9_abs_0f7a4 4 = .ok (.iload_n 0, 1) := by decide +kernel
theorem dJ9_abs_0f7a4_5 : decode cJ9_abs_0f7a4 5 = .ok (.ineg, 1) := by decide +kernel
theorem dJ9_abs_0f7a4_6 : decode cJ9_abs_0f7a4 6 = .ok (.goto 4, 3) := by decide +kernel
theorem dJ9_abs_0f7a4_9 : decode cJ9_abs_0f7a4 9 = .ok (.iload_n 0, 1) := by decide +kernel
theorem dJ9_abs_0f7a4_10 : decode cJ9_abs_0f7a4 10 = .ok (.ireturn, 1) := by decide +kernel
theorem dJ9_max_7cf53_0 : decode cJ9_max_7cf53 0 = .ok (.iload_n 0, 1) := by decide +kernel
theorem dJ9_max_7cf53_1 : decode cJ9_max_7cf53 1 = .ok (.iload_n 1, 1) := by decide +kernel
theorem dJ9_max_7cf53_2 : decode cJ9_max_7cf53 2 = .ok (.if_icmp .lt 7, 3) := by decide +kernel
theorem dJ9_max_7cf53_5 : decode cJ9_max_7cf53 5 = .ok (.iload_n 0, 1) := by decide +kernel
theorem dJ9_max_7cf53_6 : decode cJ9_max_7cf53 6 = .ok (.goto 4, 3) := by decide +kernel
theorem dJ9_max_7cf53_9 : decode cJ9_max_7cf53 9 = .ok (.iload_n 1, 1) := by decide +kernel
theorem dJ9_max_7cf53_10 : decode cJ9_max_7cf53 10 = .ok (.ireturn, 1) := by decide +kernel
theorem dJ9_min_7cf53_0 : decode cJ9_min_7cf53 0 = .ok (.iload_n 0, 1) := by decide +kernel
theorem dJ9_min_7cf53_1 : decode cJ9_min_7cf53 1 = .ok (.iload_n 1, 1) := by decide +kernel
theorem dJ9_min_7cf53_2 : decode cJ9_min_7cf53 2 = .ok (.if_icmp .gt 7, 3) := by decide +kernel
theorem dJ9_min_7cf53_5 : decode cJ9_min_7cf53 5 = .ok (.iload_n 0, 1) := by decide +kernel
theorem dJ9_min_7cf53_6 : decode cJ9_min_7cf53 6 = .ok (.goto 4, 3) := by decide +kernel
theorem dJ9_min_7cf53_9 : decode cJ9_min_7cf53 9 = .ok (.iload_n 1, 1) := by decide +kernel
theorem dJ9_min_7cf53_10 : decode cJ9_min_7cf53 10 = .ok (.ireturn, 1) := by decide +kernel
theorem dJ0_init_81219_0 : decode cJ0_init_81219 0 = .ok (.aload_n 0, 1) := by decide +kernel
theorem dJ0_init_81219_1 : decode cJ0_init_81219 1 = .ok (.aload_n 1, 1) := by decide +kernel
theorem dJ0_init_81219_2 : decode cJ0_init_81219 2 = .ok (.aconst_null, 1) := by decide +kernel
theorem dJ0_init_81219_3 : decode cJ0_init_81219 3 = .ok (.invokespecial 489, 3) := by decide +kernel
theorem dJ0_init_81219_6 : decode cJ0_init_81219 6 = .ok (.return_, 1) := by decide +kernel
theorem dJ0_length_8abf5_0 : decode cJ0_length_8abf5 0 = .ok (.aload_n 0, 1) := by decide +kernel
theorem dJ0_length_8abf5_1 : decode cJ0_length_8abf5 1 = .ok (.getfield 9, 3) := by decide +kernel
theorem dJ0_length_8abf5_4 : decode cJ0_length_8abf5 4 = .ok (.arraylength, 1) := by decide +kernel
theorem dJ0_length_8abf5_5 : decode cJ0_length_8abf5 5 = .ok (.aload_n 0, 1) := by decide +kernel
theorem dJ0_length_8abf5_6 : decode cJ0_length_8abf5 6 = .ok (.invokevirtual 335, 3) := by decide +kernel
theorem dJ0_length_8abf5_9 : decode cJ0_length_8abf5 9 = .ok (.ishr, 1) := by decide +kernel
theorem dJ0_length_8abf5_10 : decode cJ0_length_8abf5 10 = .ok (.ireturn, 1) := by decide +kernel
theorem dJ0_charAt_5068e_0 : decode cJ0_charAt_5068e 0 = .ok (.aload_n 0, 1) := by decide +kernel
theorem dJ0_charAt_5068e_1 : decode cJ0_charAt_5068e 1 = .ok (.invokevirtual 492, 3) := by decide +kernel
theorem dJ0_charAt_5068e_4 : decode cJ0_charAt_5068e 4 = .ok (.ifCond .eq 12, 3) := by decide +kernel
theorem dJ0_charAt_5068e_7 : decode cJ0_charAt_5068e 7 = .ok (.aload_n 0, 1) := by decide +kernel
theorem dJ0_charAt_5068e_8 : decode cJ0_charAt_5068e 8 = .ok (.getfield 9, 3) := by decide +kernel
theorem dJ0_charAt_5068e_11 : decode cJ0_charAt_5068e 11 = .ok (.iload_n 1, 1) := by decide +kernel
theorem dJ0_charAt_5068e_12 : decode cJ0_charAt_5068e 12 = .ok (.invokestatic 495, 3) := by decide +kernel
theorem dJ0_charAt_5068e_15 : decode cJ0_charAt_5068e 15 = .ok (.ireturn, 1) := by decide +kernel
theorem dJ0_charAt_5068e_16 : decode cJ0_charAt_5068e 16 = .ok (.aload_n 0, 1) := by decide +kernel
theorem dJ0_charAt_5068e_17 : decode cJ0_charAt_5068e 17 = .ok (.getfield 9, 3) := by decide +kernel
theorem dJ0_charAt_5068e_20 : decode cJ0_charAt_5068e 20 = .ok (.iload_n 1, 1) := by decide +kernel
theorem dJ0_charAt_5068e_21 : decode cJ0_charAt_5068e 21 = .ok (.invokestatic 498, 3) := by decide +kernel
theorem dJ0_charAt_5068e_24 : decode cJ0_charAt_5068e 24 = .ok (.ireturn, 1) := by decide +kernel
theorem dJ0_getBytes_840e7_0 : decode cJ0_getBytes_840e7 0 = .ok (.aload_n 0, 1) := by decide +kernel
theorem dJ0_getBytes_840e7_1 : decode cJ0_getBytes_840e7 1 = .ok (.invokevirtual 335, 3) := by decide +kernel
theorem dJ0_getBytes_840e7_4 : decode cJ0_getBytes_840e7 4 = .ok (.iload_n 3, 1) := by decide +kernel
theorem dJ0_getBytes_840e7_5 : decode cJ0_getBytes_840e7 5 = .ok (.if_icmp .ne 23, 3) := by decide +kernel
theorem dJ0_getBytes_840e7_8 : decode cJ0_getBytes_840e7 8 = .ok (.aload_n 0, 1) := by decide +kernel
theorem dJ0_getBytes_840e7_9 : decode cJ0_getBytes_840e7 9 = .ok (.getfield 9, 3) := by decide +kernel
theorem dJ0_getBytes_840e7_12 : decode cJ0_getBytes_840e7 12 = .ok (.iconst 0, 1) := by decide +kernel
theorem dJ0_getBytes_840e7_13 : decode cJ0_getBytes_840e7 13 = .ok (.aload_n 1, 1) := by decide +kernel
theorem dJ0_getBytes_840e7_14 : decode cJ0_getBytes_840e7 14 = .ok (.iload_n 2, 1) := by decide +kernel
theorem dJ0_getBytes_840e7_15 : decode cJ0_getBytes_840e7 15 = .ok (.iload_n 3, 1) := by decide +kernel
theorem dJ0_getBytes_840e7_16 : decode cJ0_getBytes_840e7 16 = .ok (.ishl, 1) := by decide +kernel
theorem dJ0_getBytes_840e7_17 : decode cJ0_getBytes_840e7 17 = .ok (.aload_n 0, 1) := by decide +kernel
theorem dJ0_getBytes_840e7_18 : decode cJ0_getBytes_840e7 18 = .ok (.getfield 9, 3) := by decide +kernel
theorem dJ0_getBytes_840e7_21 : decode cJ0_getBytes_840e7 21 = .ok (.arraylength, 1) := by decide +kernel
theorem dJ0_getBytes_840e7_22 : decode cJ0_getBytes_840e7 22 = .ok (.invokestatic 212, 3) := by decide +kernel
theorem dJ0_getBytes_840e7_25 : decode cJ0_getBytes_840e7 25 = .ok (.goto 18, 3) := by decide +kernel
theorem dJ0_getBytes_840e7_28 : decode cJ0_getBytes_840e7 28 = .ok (.aload_n 0, 1) := by decide +kernel
theorem dJ0_getBytes_840e7_29 : decode cJ0_getBytes_840e7 29 = .ok (.getfield 9, 3) := by decide +kernel
theorem dJ0_getBytes_840e7_32 : decode cJ0_getBytes_840e7 32 = .ok (.iconst 0, 1) := by decide +kernel
theorem dJ0_getBytes_840e7_33 : decode cJ0_getBytes_840e7 33 = .ok (.aload_n 1, 1) := by decide +kernel
theorem dJ0_getBytes_840e7_34 : decode cJ0_getBytes_840e7 34 = .ok (.iload_n 2, 1) := by decide +kernel
theorem dJ0_getBytes_840e7_35 : decode cJ0_getBytes_840e7 35 = .ok (.aload_n 0, 1) := by decide +kernel
theorem dJ0_getBytes_840e7_36 : decode cJ0_getBytes_840e7 36 = .ok (.getfield 9, 3) := by decide +kernel
theorem dJ0_getBytes_840e7_39 : decode cJ0_getBytes_840e7 39 = .ok (.arraylength, 1) := by decide +kernel
theorem dJ0_getBytes_840e7_40 : decode cJ0_getBytes_840e7 40 = .ok (.invokestatic 106, 3) := by decide +kernel
theorem dJ0_getBytes_840e7_43 : decode cJ0_getBytes_840e7 43 = .ok (.return_, 1) := by decide +kernel
theorem dJ0_init_db425_0 : decode cJ0_init_db425 0 = .ok (.aload_n 0, 1) := by decide +kernel
theorem dJ0_init_db425_1 : decode cJ0_init_db425 1 = .ok (.invokespecial 1, 3) := by decide +kernel
theorem dJ0_init_db425_4 : decode cJ0_init_db425 4 = .ok (.aload_n 1, 1) := by decide +kernel
theorem dJ0_init_db425_5 : decode cJ0_init_db425 5 = .ok (.invokevirtual 552, 3) := by decide +kernel
theorem dJ0_init_db425_8 : decode cJ0_init_db425 8 = .ok (.astore_n 3, 1) := by decide +kernel
theorem dJ0_init_db425_9 : decode cJ0_init_db425 9 = .ok (.aload_n 1, 1) := by decide +kernel
theorem dJ0_init_db425_10 : decode cJ0_init_db425 10 = .ok (.invokevirtual 549, 3) := by decide +kernel
theorem dJ0_init_db425_13 : decode cJ0_init_db425 13 = .ok (.istore 4, 2) := by decide +kernel
theorem dJ0_init_db425_15 : decode cJ0_init_db425 15 = .ok (.aload_n 1, 1) := by decide +kernel
theorem dJ0_init_db425_16 : decode cJ0_init_db425 16 = .ok (.invokevirtual 1047, 3) := by decide +kernel
theorem dJ0_init_db425_19 : decode cJ0_init_db425 19 = .ok (.ifCond .eq 22, 3) := by decide +kernel
theorem dJ0_init_db425_22 : decode cJ0_init_db425 22 = .ok (.aload_n 0, 1) := by decide +kernel
theorem dJ0_init_db425_23 : decode cJ0_init_db425 23 = .ok (.iconst 0, 1) := by decide +kernel
theorem dJ0_init_db425_24 : decode cJ0_init_db425 24 = .ok (.putfield 15, 3) := by decide +kernel
theorem dJ0_init_db425_27 : decode cJ0_init_db425 27 = .ok (.aload_n 0, 1) := by decide +kernel
theorem dJ0_init_db425_28 : decode cJ0_init_db425 28 = .ok (.aload_n 3, 1) := by decide +kernel
theorem dJ0_init_db425_29 : decode cJ0_init_db425 29 = .ok (.iconst 0, 1) := by decide +kernel
theorem dJ0_init_db425_30 : decode cJ0_init_db425 30 = .ok (.iload 4, 2) := by decide +kernel
theorem dJ0_init_db425_32 : decode cJ0_init_db425 32 = .ok (.invokestatic 54, 3) := by decide +kernel
theorem dJ0_init_db425_35 : decode cJ0_init_db425 35 = .ok (.putfield 9, 3) := by decide +kernel
theorem dJ0_init_db425_38 : decode cJ0_init_db425 38 = .ok (.goto 59, 3) := by decide +kernel
theorem dJ0_init_db425_41 : decode cJ0_init_db425 41 = .ok (.getstatic 38, 3) := by decide +kernel
theorem dJ0_init_db425_44 : decode cJ0_init_db425 44 = .ok (.ifCond .eq 35, 3) := by decide +kernel
theorem dJ0_init_db425_47 : decode cJ0_init_db425 47 = .ok (.aload_n 1, 1) := by decide +kernel
theorem dJ0_init_db425_48 : decode cJ0_init_db425 48 = .ok (.getfield 1048, 3) := by decide +kernel
theorem dJ0_init_db425_51 : decode cJ0_init_db425 51 = .ok (.ifCond .eq 28, 3) := by decide +kernel
theorem dJ0_init_db425_54 : decode cJ0_init_db425 54 = .ok (.aload_n 0, 1) := by decide +kernel
theorem dJ0_init_db425_55 : decode cJ0_init_db425 55 = .ok (.aload_n 3, 1) := by decide +kernel
theorem dJ0_init_db425_56 : decode cJ0_init_db425 56 = .ok (.iconst 0, 1) := by decide +kernel
theorem dJ0_init_db425_57 : decode cJ0_init_db425 57 = .ok (.iload 4, 2) := by decide +kernel
theorem dJ0_init_db425_59 : decode cJ0_init_db425 59 = .ok (.invokestatic 1051, 3) := by decide +kernel
theorem dJ0_init_db425_62 : decode cJ0_init_db425 62 = .ok (.putfield 9, 3) := by decide +kernel
theorem dJ0_init_db425_65 : decode cJ0_init_db425 65 = .ok (.aload_n 0, 1) := by decide +kernel
theorem dJ0_init_db425_66 : decode cJ0_init_db425 66 = .ok (.aload_n 0, 1) := by decide +kernel
theorem dJ0_init_db425_67 : decode cJ0_init_db425 67 = .ok (.getfield 9, 3) := by decide +kernel
theorem dJ0_init_db425_70 : decode cJ0_init_db425 70 = .ok (.iload 4, 2) := by decide +kernel
theorem dJ0_init_db425_72 : decode cJ0_init_db425 72 = .ok (.invokestatic 47, 3) := by decide +kernel
theorem dJ0_init_db425_75 : decode cJ0_init_db425 75 = .ok (.putfield 15, 3) := by decide +kernel
theorem dJ0_init_db425_78 : decode cJ0_init_db425 78 = .ok (.return_, 1) := by decide +kernel
theorem dJ0_init_db425_79 : decode cJ0_init_db425 79 = .ok (.aload_n 0, 1) := by decide +kernel
theorem dJ0_init_db425_80 : decode cJ0_init_db425 80 = .ok (.iconst 1, 1) := by decide +kernel
theorem dJ0_init_db425_81 : decode cJ0_init_db425 81 = .ok (.putfield 15, 3) := by decide +kernel
theorem dJ0_init_db425_84 : decode cJ0_init_db425 84 = .ok (.aload_n 0, 1) := by decide +kernel
theorem dJ0_init_db425_85 : decode cJ0_init_db425 85 = .ok (.aload_n 3, 1) := by decide +kernel
theorem dJ0_init_db425_86 : decode cJ0_init_db425 86 = .ok (.iconst 0, 1) := by decide +kernel
theorem dJ0_init_db425_87 : decode cJ0_init_db425 87 = .ok (.iload 4, 2) := by decide +kernel
theorem dJ0_init_db425_89 : decode cJ0_init_db425 89 = .ok (.iconst 1, 1) := by decide +kernel
theorem dJ0_init_db425_90 : decode cJ0_init_db425 90 = .ok (.ishl, 1) := by decide +kernel
theorem dJ0_init_db425_91 : decode cJ0_init_db425 91 = .ok (.invokestatic 54, 3) := by decide +kernel
theorem dJ0_init_db425_94 : decode cJ0_init_db425 94 = .ok (.putfield 9, 3) := by decide +kernel
theorem dJ0_init_db425_97 : decode cJ0_init_db425 97 = .ok (.return_, 1) := by decide +kernel
theorem dJ0_coder_7d493_0 : decode cJ0_coder_7d493 0 = .ok (.getstatic 38, 3) := by decide +kernel
theorem dJ0_coder_7d493_3 : decode cJ0_coder_7d493 3 = .ok (.ifCond .eq 10, 3) := by decide +kernel
theorem dJ0_coder_7d493_6 : decode cJ0_coder_7d493 6 = .ok (.aload_n 0, 1) := by decide +kernel
theorem dJ0_coder_7d493_7 : decode cJ0_coder_7d493 7 = .ok (.getfield 15, 3) := by decide +kernel
theorem dJ0_coder_7d493_10 : decode cJ0_coder_7d493 10 = .ok (.goto 4, 3) := by decide +kernel
theorem dJ0_coder_7d493_13 : decode cJ0_coder_7d493 13 = .ok (.iconst 1, 1) := by decide +kernel
theorem dJ0_coder_7d493_14 : decode cJ0_coder_7d493 14 = .ok (.ireturn, 1) := by decide +kernel
theorem dJ0_isLatin1_aae02_0 : decode cJ0_isLatin1_aae02 0 = .ok (.getstatic 38, 3) := by decide +kernel
theorem dJ0_isLatin1_aae02_3 : decode cJ0_isLatin1_aae02 3 = .ok (.ifCond .eq 14, 3) := by decide +kernel
theorem dJ0_isLatin1_aae02_6 : decode cJ0_isLatin1_aae02 6 = .ok (.aload_n 0, 1) := by decide +kernel
theorem dJ0_isLatin1_aae02_7 : decode cJ0_isLatin1_aae02 7 = .ok (.getfield 15, 3) := by decide +kernel
theorem dJ0_isLatin1_aae02_10 : decode cJ0_isLatin1_aae02 10 = .ok (.ifCond .ne 7, 3) := by decide +kernel
theorem dJ0_isLatin1_aae02_13 : decode cJ0_isLatin1_aae02 13 = .ok (.iconst 1, 1) := by decide +kernel
theorem dJ0_isLatin1_aae02_14 : decode cJ0_isLatin1_aae02 14 = .ok (.goto 4, 3) := by decide +kernel
theorem dJ0_isLatin1_aae02_17 : decode cJ0_isLatin1_aae02 17 = .ok (.iconst 0, 1) := by decide +kernel
theorem dJ0_isLatin1_aae02_18 : decode cJ0_isLatin1_aae02 18 = .ok (.ireturn, 1) := by decide +kernel
theorem dJ0_checkIndex_df160_0 : decode cJ0_checkIndex_df160 0 = .ok (.iload_n 0, 1) := by decide +kernel
theorem dJ0_checkIndex_df160_1 : decode cJ0_checkIndex_df160 1 = .ok (.iload_n 1, 1) := by decide +kernel
theorem dJ0_checkIndex_df160_2 : decode cJ0_checkIndex_df160 2 = .ok (.getstatic 1053, 3) := by decide +kernel
theorem dJ0_checkIndex_df160_5 : decode cJ0_checkIndex_df160 5 = .ok (.invokestatic 1059, 3) := by decide +kernel
theorem dJ0_checkIndex_df160_8 : decode cJ0_checkIndex_df160 8 = .ok (.pop, 1) := by decide +kernel
theorem dJ0_checkIndex_df160_9 : decode cJ0_checkIndex_df160 9 = .ok (.return_, 1) := by decide +kernel
theorem dJ0_checkBoundsOffCount_cabcc_0 : decode cJ0_checkBoundsOffCount_cabcc 0 = .ok (.iload_n 0, 1) := by decide +kernel
theorem dJ0_checkBoundsOffCount_cabcc_1 : decode cJ0_checkBoundsOffCount_cabcc 1 = .ok (.iload_n 1, 1) := by decide +kernel
theorem dJ0_checkBoundsOffCount_cabcc_2 : decode cJ0_checkBoundsOffCount_cabcc 2 = .ok (.iload_n 2, 1) := by decide +kernel
theorem dJ0_checkBoundsOffCount_cabcc_3 : decode cJ0_checkBoundsOffCount_cabcc 3 = .ok (.getstatic 1053, 3) := by decide +kernel
theorem dJ0_checkBoundsOffCount_cabcc_6 : decode cJ0_checkBoundsOffCount_cabcc 6 = .ok (.invokestatic 1065, 3) := by decide +kernel
theorem dJ0_checkBoundsOffCount_cabcc_9 : decode cJ0_checkBoundsOffCount_cabcc 9 = .ok (.ireturn, 1) := by decide +kernel
theorem dJ0_checkBoundsBeginEnd_23922_0 : decode cJ0_checkBoundsBeginEnd_23922 0 = .ok (.iload_n 0, 1) := by decide +kernel
theorem dJ0_checkBoundsBeginEnd_23922_1 : decode cJ0_checkBoundsBeginEnd_23922 1 = .ok (.iload_n 1, 1) := by decide +kernel
theorem dJ0_checkBoundsBeginEnd_23922_2 : decode cJ0_checkBoundsBeginEnd_23922 2 = .ok (.iload_n 2, 1) := by decide +kernel
theorem dJ0_checkBoundsBeginEnd_23922_3 : decode cJ0_checkBoundsBeginEnd_23922 3 = .ok (.getstatic 1053, 3) := by decide +kernel
theorem dJ0_checkBoundsBeginEnd_23922_6 : decode cJ0_checkBoundsBeginEnd_23922 6 = .ok (.invokestatic 1062, 3) := by decide +kernel
theorem dJ0_checkBoundsBeginEnd_23922_9 : decode cJ0_checkBoundsBeginEnd_23922 9 = .ok (.pop, 1) := by decide +kernel
theorem dJ0_checkBoundsBeginEnd_23922_10 : decode cJ0_checkBoundsBeginEnd_23922 10 = .ok (.return_, 1) := by decide +kernel
theorem dJ4_init_da8c8_0 : decode cJ4_init_da8c8 0 = .ok (.aload_n 0, 1) := by decide +kernel
theorem dJ4_init_da8c8_1 : decode cJ4_init_da8c8 1 = .ok (.bipush 16, 2) := by decide +kernel
theorem dJ4_init_da8c8_3 : decode cJ4_init_da8c8 3 = .ok (.invokespecial 1, 3) := by decide +kernel
theorem dJ4_init_da8c8_6 : decode cJ4_init_da8c8 6 = .ok (.return_, 1) := by decide +kernel
theorem dJ4_append_15ec4_0 : decode cJ4_append_15ec4 0 = .ok (.aload_n 0, 1) := by decide +kernel
theorem dJ4_append_15ec4_1 : decode cJ4_append_15ec4 1 = .ok (.aload_n 1, 1) := by decide +kernel
theorem dJ4_append_15ec4_2 : decode cJ4_append_15ec4 2 = .ok (.invokespecial 29, 3) := by decide +kernel
theorem dJ4_append_15ec4_5 : decode cJ4_append_15ec4 5 = .ok (.pop, 1) := by decide +kernel
theorem dJ4_append_15ec4_6 : decode cJ4_append_15ec4 6 = .ok (.aload_n 0, 1) := by decide +kernel
theorem dJ4_append_15ec4_7 : decode cJ4_append_15ec4 7 = .ok (.areturn, 1) := by decide +kernel
theorem dJ4_append_cf468_0 : decode cJ4_append_cf468 0 = .ok (.aload_n 0, 1) := by decide +kernel
theorem dJ4_append_cf468_1 : decode cJ4_append_cf468 1 = .ok (.iload_n 1, 1) := by decide +kernel
theorem dJ4_append_cf468_2 : decode cJ4_append_cf468 2 = .ok (.invokespecial 50, 3) := by decide +kernel
theorem dJ4_append_cf468_5 : decode cJ4_append_cf468 5 = .ok (.pop, 1) := by decide +kernel
theorem dJ4_append_cf468_6 : decode cJ4_append_cf468 6 = .ok (.aload_n 0, 1) := by decide +kernel
theorem dJ4_append_cf468_7 : decode cJ4_append_cf468 7 = .ok (.areturn, 1) := by decide +kernel
theorem dJ4_append_bf812_0 : decode cJ4_append_bf812 0 = .ok (.aload_n 0, 1) := by decide +kernel
theorem dJ4_append_bf812_1 : decode cJ4_append_bf812 1 = .ok (.iload_n 1, 1) := by decide +kernel
theorem dJ4_append_bf812_2 : decode cJ4_append_bf812 2 = .ok (.invokespecial 53, 3) := by decide +kernel
theorem dJ4_append_bf812_5 : decode cJ4_append_bf812 5 = .ok (.pop, 1) := by decide +kernel
theorem dJ4_append_bf812_6 : decode cJ4_append_bf812 6 = .ok (.aload_n 0, 1) := by decide +kernel
theorem dJ4_append_bf812_7 : decode cJ4_append_bf812 7 = .ok (.areturn, 1) := by decide +kernel
theorem dJ4_toString_0e30d_0 : decode cJ4_toString_0e30d 0 = .ok (.new 18, 3) := by decide +kernel
theorem dJ4_toString_0e30d_3 : decode cJ4_toString_0e30d 3 = .ok (.dup, 1) := by decide +kernel
theorem dJ4_toString_0e30d_4 : decode cJ4_toString_0e30d 4 = .ok (.aload_n 0, 1) := by decide +kernel
theorem dJ4_toString_0e30d_5 : decode cJ4_toString_0e30d 5 = .ok (.invokespecial 137, 3) := by decide +kernel
theorem dJ4_toString_0e30d_8 : decode cJ4_toString_0e30d 8 = .ok (.areturn, 1) := by decide +kernel
theorem dJ4_length_8abf5_0 : decode cJ4_length_8abf5 0 = .ok (.aload_n 0, 1) := by decide +kernel
theorem dJ4_length_8abf5_1 : decode cJ4_length_8abf5 1 = .ok (.invokespecial 343, 3) := by decide +kernel
theorem dJ4_length_8abf5_4 : decode cJ4_length_8abf5 4 = .ok (.ireturn, 1) := by decide +kernel
theorem dJ1_charAt_3b067_0 : decode cJ1_charAt_3b067 0 = .ok (.iload_n 1, 1) := by decide +kernel
theorem dJ1_charAt_3b067_1 : decode cJ1_charAt_3b067 1 = .ok (.aload_n 0, 1) := by decide +kernel
theorem dJ1_charAt_3b067_2 : decode cJ1_charAt_3b067 2 = .ok (.arraylength, 1) := by decide +kernel
theorem dJ1_charAt_3b067_3 : decode cJ1_charAt_3b067 3 = .ok (.invokestatic 9, 3) := by decide +kernel
theorem dJ1_charAt_3b067_6 : decode cJ1_charAt_3b067 6 = .ok (.aload_n 0, 1) := by decide +kernel
theorem dJ1_charAt_3b067_7 : decode cJ1_charAt_3b067 7 = .ok (.iload_n 1, 1) := by decide +kernel
theorem dJ1_charAt_3b067_8 : decode cJ1_charAt_3b067 8 = .ok (.baload, 1) := by decide +kernel
theorem dJ1_charAt_3b067_9 : decode cJ1_charAt_3b067 9 = .ok (.sipush 255, 3) := by decide +kernel
theorem dJ1_charAt_3b067_12 : decode cJ1_charAt_3b067 12 = .ok (.iand, 1) := by decide +kernel
theorem dJ1_charAt_3b067_13 : decode cJ1_charAt_3b067 13 = .ok (.i2c, 1) := by decide +kernel
theorem dJ1_charAt_3b067_14 : decode cJ1_charAt_3b067 14 = .ok (.ireturn, 1) := by decide +kernel
theorem dJ1_canEncode_fc78d_0 : decode cJ1_canEncode_fc78d 0 = .ok (.iload_n 0, 1) := by decide +kernel
theorem dJ1_canEncode_fc78d_1 : decode cJ1_canEncode_fc78d 1 = .ok (.sipush 255, 3) := by decide +kernel
theorem dJ1_canEncode_fc78d_4 : decode cJ1_canEncode_fc78d 4 = .ok (.if_icmp .gt 7, 3) := by decide +kernel
theorem dJ1_canEncode_fc78d_7 : decode cJ1_canEncode_fc78d 7 = .ok (.iconst 1, 1) := by decide +kernel
theorem dJ1_canEncode_fc78d_8 : decode cJ1_canEncode_fc78d 8 = .ok (.goto 4, 3) := by decide +kernel
theorem dJ1_canEncode_fc78d_11 : decode cJ1_canEncode_fc78d 11 = .ok (.iconst 0, 1) := by decide +kernel
theorem dJ1_canEncode_fc78d_12 : decode cJ1_canEncode_fc78d 12 = .ok (.ireturn, 1) := by decide +kernel
theorem dJ1_inflate_0e8fd_0 : decode cJ1_inflate_0e8fd 0 = .ok (.aload_n 0, 1) := by decide +kernel
theorem dJ1_inflate_0e8fd_1 : decode cJ1_inflate_0e8fd 1 = .ok (.iload_n 1, 1) := by decide +kernel
theorem dJ1_inflate_0e8fd_2 : decode cJ1_inflate_0e8fd 2 = .ok (.aload_n 2, 1) := by decide +kernel
theorem dJ1_inflate_0e8fd_3 : decode cJ1_inflate_0e8fd 3 = .ok (.iload_n 3, 1) := by decide +kernel
theorem dJ1_inflate_0e8fd_4 : decode cJ1_inflate_0e8fd 4 = .ok (.iload 4, 2) := by decide +kernel
theorem dJ1_inflate_0e8fd_6 : decode cJ1_inflate_0e8fd 6 = .ok (.invokestatic 240, 3) := by decide +kernel
theorem dJ1_inflate_0e8fd_9 : decode cJ1_inflate_0e8fd 9 = .ok (.return_, 1) := by decide +kernel
theorem dJ2_newBytesFor_77867_0 : decode cJ2_newBytesFor_77867 0 = .ok (.iload_n 0, 1) := by decide +kernel
theorem dJ2_newBytesFor_77867_1 : decode cJ2_newBytesFor_77867 1 = .ok (.invokestatic 11, 3) := by decide +kernel
theorem dJ2_newBytesFor_77867_4 : decode cJ2_newBytesFor_77867 4 = .ok (.newarray .byte, 2) := by decide +kernel
theorem dJ2_newBytesFor_77867_6 : decode cJ2_newBytesFor_77867 6 = .ok (.areturn, 1) := by decide +kernel
theorem dJ2_newBytesLength_0f7a4_0 : decode cJ2_newBytesLength_0f7a4 0 = .ok (.iload_n 0, 1) := by decide +kernel
theorem dJ2_newBytesLength_0f7a4_1 : decode cJ2_newBytesLength_0f7a4 1 = .ok (.ifCond .ge 11, 3) := by decide +kernel
theorem dJ2_newBytesLength_0f7a4_4 : decode cJ2_newBytesLength_0f7a4 4 = .ok (.new 17, 3) := by decide +kernel
theorem dJ2_newBytesLength_0f7a4_7 : decode cJ2_newBytesLength_0f7a4 7 = .ok (.dup, 1) := by decide +kernel
theorem dJ2_newBytesLength_0f7a4_8 : decode cJ2_newBytesLength_0f7a4 8 = .ok (.invokespecial 19, 3) := by decide +kernel
theorem dJ2_newBytesLength_0f7a4_11 : decode cJ2_newBytesLength_0f7a4 11 = .ok (.athrow, 1) := by decide +kernel
theorem dJ2_newBytesLength_0f7a4_12 : decode cJ2_newBytesLength_0f7a4 12 = .ok (.iload_n 0, 1) := by decide +kernel
theorem dJ2_newBytesLength_0f7a4_13 : decode cJ2_newBytesLength_0f7a4 13 = .ok (.ldc 20, 2) := by decide +kernel
theorem dJ2_newBytesLength_0f7a4_15 : decode cJ2_newBytesLength_0f7a4 15 = .ok (.if_icmp .lt 40, 3) := by decide +kernel
theorem dJ2_newBytesLength_0f7a4_18 : decode cJ2_newBytesLength_0f7a4 18 = .ok (.new 21, 3) := by decide +kernel
theorem dJ2_newBytesLength_0f7a4_21 : decode cJ2_newBytesLength_0f7a4 21 = .ok (.dup, 1) := by decide +kernel
theorem dJ2_newBytesLength_0f7a4_22 : decode cJ2_newBytesLength_0f7a4 22 = .ok (.new 23, 3) := by decide +kernel
theorem dJ2_newBytesLength_0f7a4_25 : decode cJ2_newBytesLength_0f7a4 25 = .ok (.dup, 1) := by decide +kernel
theorem dJ2_newBytesLength_0f7a4_26 : decode cJ2_newBytesLength_0f7a4 26 = .ok (.invokespecial 25, 3) := by decide +kernel
theorem dJ2_newBytesLength_0f7a4_29 : decode cJ2_newBytesLength_0f7a4 29 = .ok (.ldc 26, 2) := by decide +kernel
theorem dJ2_newBytesLength_0f7a4_31 : decode cJ2_newBytesLength_0f7a4 31 = .ok (.invokevirtual 28, 3) := by decide +kernel
theorem dJ2_newBytesLength_0f7a4_34 : decode cJ2_newBytesLength_0f7a4 34 = .ok (.iload_n 0, 1) := by decide +kernel
theorem dJ2_newBytesLength_0f7a4_35 : decode cJ2_newBytesLength_0f7a4 35 = .ok (.invokevirtual 32, 3) := by decide +kernel
theorem dJ2_newBytesLength_0f7a4_38 : decode cJ2_newBytesLength_0f7a4 38 = .ok (.ldc 35, 2) := by decide +kernel
theorem dJ2_newBytesLength_0f7a4_40 : decode cJ2_newBytesLength_0f7a4 40 = .ok (.invokevirtual 28, 3) := by decide +kernel
theorem dJ2_newBytesLength_0f7a4_43 : decode cJ2_newBytesLength_0f7a4 43 = .ok (.ldc 20, 2) := by decide +kernel
theorem dJ2_newBytesLength_0f7a4_45 : decode cJ2_newBytesLength_0f7a4 45 = .ok (.invokevirtual 32, 3) := by decide +kernel
theorem dJ2_newBytesLength_0f7a4_48 : decode cJ2_newBytesLength_0f7a4 48 = .ok (.invokevirtual 37, 3) := by decide +kernel
theorem dJ2_newBytesLength_0f7a4_51 : decode cJ2_newBytesLength_0f7a4 51 = .ok (.invokespecial 41, 3) := by decide +kernel
theorem dJ2_newBytesLength_0f7a4_54 : decode cJ2_newBytesLength_0f7a4 54 = .ok (.athrow, 1) := by decide +kernel
theorem dJ2_newBytesLength_0f7a4_55 : decode cJ2_newBytesLength_0f7a4 55 = .ok (.iload_n 0, 1) := by decide +kernel
theorem dJ2_newBytesLength_0f7a4_56 : decode cJ2_newBytesLength_0f7a4 56 = .ok (.iconst 1, 1) := by decide +kernel
theorem dJ2_newBytesLength_0f7a4_57 : decode cJ2_newBytesLength_0f7a4 57 = .ok (.ishl, 1) := by decide +kernel
theorem dJ2_newBytesLength_0f7a4_58 : decode cJ2_newBytesLength_0f7a4 58 = .ok (.ireturn, 1) := by decide +kernel
theorem dJ2_putChar_b72d1_0 : decode cJ2_putChar_b72d1 0 = .ok (.getstatic 44, 3) := by decide +kernel
theorem dJ2_putChar_b72d1_3 : decode cJ2_putChar_b72d1 3 = .ok (.ifCond .ne 25, 3) := by decide +kernel
theorem dJ2_putChar_b72d1_6 : decode cJ2_putChar_b72d1 6 = .ok (.iload_n 1, 1) := by decide +kernel
theorem dJ2_putChar_b72d1_7 : decode cJ2_putChar_b72d1 7 = .ok (.ifCond .lt 11, 3) := by decide +kernel
theorem dJ2_putChar_b72d1_10 : decode cJ2_putChar_b72d1 10 = .ok (.iload_n 1, 1) := by decide +kernel
theorem dJ2_putChar_b72d1_11 : decode cJ2_putChar_b72d1 11 = .ok (.aload_n 0, 1) := by decide +kernel
theorem dJ2_putChar_b72d1_12 : decode cJ2_putChar_b72d1 12 = .ok (.invokestatic 48, 3) := by decide +kernel
theorem dJ2_putChar_b72d1_15 : decode cJ2_putChar_b72d1 15 = .ok (.if_icmp .lt 13, 3) := by decide +kernel
theorem dJ2_putChar_b72d1_18 : decode cJ2_putChar_b72d1 18 = .ok (.new 52, 3) := by decide +kernel
theorem dJ2_putChar_b72d1_21 : decode cJ2_putChar_b72d1 21 = .ok (.dup, 1) := by decide +kernel
theorem dJ2_putChar_b72d1_22 : decode cJ2_putChar_b72d1 22 = .ok (.ldc 54, 2) := by decide +kernel
theorem dJ2_putChar_b72d1_24 : decode cJ2_putChar_b72d1 24 = .ok (.invokespecial 56, 3) := by decide +kernel
theorem dJ2_putChar_b72d1_27 : decode cJ2_putChar_b72d1 27 = .ok (.athrow, 1) := by decide +kernel
theorem dJ2_putChar_b72d1_28 : decode cJ2_putChar_b72d1 28 = .ok (.iload_n 1, 1) := by decide +kernel
theorem dJ2_putChar_b72d1_29 : decode cJ2_putChar_b72d1 29 = .ok (.iconst 1, 1) := by decide +kernel
theorem dJ2_putChar_b72d1_30 : decode cJ2_putChar_b72d1 30 = .ok (.ishl, 1) := by decide +kernel
theorem dJ2_putChar_b72d1_31 : decode cJ2_putChar_b72d1 31 = .ok (.istore_n 1, 1) := by decide +kernel
theorem dJ2_putChar_b72d1_32 : decode cJ2_putChar_b72d1 32 = .ok (.aload_n 0, 1) := by decide +kernel
theorem dJ2_putChar_b72d1_33 : decode cJ2_putChar_b72d1 33 = .ok (.iload_n 1, 1) := by decide +kernel
theorem dJ2_putChar_b72d1_34 : decode cJ2_putChar_b72d1 34 = .ok (.iinc 1 1, 3) := by decide +kernel
theorem dJ2_putChar_b72d1_37 : decode cJ2_putChar_b72d1 37 = .ok (.iload_n 2, 1) := by decide +kernel
theorem dJ2_putChar_b72d1_38 : decode cJ2_putChar_b72d1 38 = .ok (.getstatic 59, 3) := by decide +kernel
theorem dJ2_putChar_b72d1_41 : decode cJ2_putChar_b72d1 41 = .ok (.ishr, 1) := by decide +kernel
theorem dJ2_putChar_b72d1_42 : decode cJ2_putChar_b72d1 42 = .ok (.i2b, 1) := by decide +kernel
theorem dJ2_putChar_b72d1_43 : decode cJ2_putChar_b72d1 43 = .ok (.bastore, 1) := by decide +kernel
theorem dJ2_putChar_b72d1_44 : decode cJ2_putChar_b72d1 44 = .ok (.aload_n 0, 1) := by decide +kernel
theorem dJ2_putChar_b72d1_45 : decode cJ2_putChar_b72d1 45 = .ok (.iload_n 1, 1) := by decide +kernel
theorem dJ2_putChar_b72d1_46 : decode cJ2_putChar_b72d1 46 = .ok (.iload_n 2, 1) := by decide +kernel
theorem dJ2_putChar_b72d1_47 : decode cJ2_putChar_b72d1 47 = .ok (.getstatic 63, 3) := by decide +kernel
theorem dJ2_putChar_b72d1_50 : decode cJ2_putChar_b72d1 50 = .ok (.ishr, 1) := by decide +kernel
theorem dJ2_putChar_b72d1_51 : decode cJ2_putChar_b72d1 51 = .ok (.i2b, 1) := by decide +kernel
theorem dJ2_putChar_b72d1_52 : decode cJ2_putChar_b72d1 52 = .ok (.bastore, 1) := by decide +kernel
theorem dJ2_putChar_b72d1_53 : decode cJ2_putChar_b72d1 53 = .ok (.return_, 1) := by decide +kernel
theorem dJ2_getChar_3b067_0 : decode cJ2_getChar_3b067 0 = .ok (.getstatic 44, 3) := by decide +kernel
theorem dJ2_getChar_3b067_3 : decode cJ2_getChar_3b067 3 = .ok (.ifCond .ne 25, 3) := by decide +kernel
theorem dJ2_getChar_3b067_6 : decode cJ2_getChar_3b067 6 = .ok (.iload_n 1, 1) := by decide +kernel
theorem dJ2_getChar_3b067_7 : decode cJ2_getChar_3b067 7 = .ok (.ifCond .lt 11, 3) := by decide +kernel
theorem dJ2_getChar_3b067_10 : decode cJ2_getChar_3b067 10 = .ok (.iload_n 1, 1) := by decide +kernel
theorem dJ2_getChar_3b067_11 : decode cJ2_getChar_3b067 11 = .ok (.aload_n 0, 1) := by decide +kernel
theorem dJ2_getChar_3b067_12 : decode cJ2_getChar_3b067 12 = .ok (.invokestatic 48, 3) := by decide +kernel
theorem dJ2_getChar_3b067_15 : decode cJ2_getChar_3b067 15 = .ok (.if_icmp .lt 13, 3) := by decide +kernel
theorem dJ2_getChar_3b067_18 : decode cJ2_getChar_3b067 18 = .ok (.new 52, 3) := by decide +kernel
theorem dJ2_getChar_3b067_21 : decode cJ2_getChar_3b067 21 = .ok (.dup, 1) := by decide +kernel
theorem dJ2_getChar_3b067_22 : decode cJ2_getChar_3b067 22 = .ok (.ldc 54, 2) := by decide +kernel
theorem dJ2_getChar_3b067_24 : decode cJ2_getChar_3b067 24 = .ok (.invokespecial 56, 3) := by decide +kernel
theorem dJ2_getChar_3b067_27 : decode cJ2_getChar_3b067 27 = .ok (.athrow, 1) := by decide +kernel
theorem dJ2_getChar_3b067_28 : decode cJ2_getChar_3b067 28 = .ok (.iload_n 1, 1) := by decide +kernel
theorem dJ2_getChar_3b067_29 : decode cJ2_getChar_3b067 29 = .ok (.iconst 1, 1) := by decide +kernel
theorem dJ2_getChar_3b067_30 : decode cJ2_getChar_3b067 30 = .ok (.ishl, 1) := by decide +kernel
theorem dJ2_getChar_3b067_31 : decode cJ2_getChar_3b067 31 = .ok (.istore_n 1, 1) := by decide +kernel
theorem dJ2_getChar_3b067_32 : decode cJ2_getChar_3b067 32 = .ok (.aload_n 0, 1) := by decide +kernel
theorem dJ2_getChar_3b067_33 : decode cJ2_getChar_3b067 33 = .ok (.iload_n 1, 1) := by decide +kernel
theorem dJ2_getChar_3b067_34 : decode cJ2_getChar_3b067 34 = .ok (.iinc 1 1, 3) := by decide +kernel
theorem dJ2_getChar_3b067_37 : decode cJ2_getChar_3b067 37 = .ok (.baload, 1) := by decide +kernel
theorem dJ2_getChar_3b067_38 : decode cJ2_getChar_3b067 38 = .ok (.sipush 255, 3) := by decide +kernel
theorem dJ2_getChar_3b067_41 : decode cJ2_getChar_3b067 41 = .ok (.iand, 1) := by decide +kernel
theorem dJ2_getChar_3b067_42 : decode cJ2_getChar_3b067 42 = .ok (.getstatic 59, 3) := by decide +kernel
theorem dJ2_getChar_3b067_45 : decode cJ2_getChar_3b067 45 = .ok (.ishl, 1) := by decide +kernel
theorem dJ2_getChar_3b067_46 : decode cJ2_getChar_3b067 46 = .ok (.aload_n 0, 1) := by decide +kernel
theorem dJ2_getChar_3b067_47 : decode cJ2_getChar_3b067 47 = .ok (.iload_n 1, 1) := by decide +kernel
theorem dJ2_getChar_3b067_48 : decode cJ2_getChar_3b067 48 = .ok (.baload, 1) := by decide +kernel
theorem dJ2_getChar_3b067_49 : decode cJ2_getChar_3b067 49 = .ok (.sipush 255, 3) := by decide +kernel
theorem dJ2_getChar_3b067_52 : decode cJ2_getChar_3b067 52 = .ok (.iand, 1) := by decide +kernel
theorem dJ2_getChar_3b067_53 : decode cJ2_getChar_3b067 53 = .ok (.getstatic 63, 3) := by decide +kernel
theorem dJ2_getChar_3b067_56 : decode cJ2_getChar_3b067 56 = .ok (.ishl, 1) := by decide +kernel
theorem dJ2_getChar_3b067_57 : decode cJ2_getChar_3b067 57 = .ok (.ior, 1) := by decide +kernel
theorem dJ2_getChar_3b067_58 : decode cJ2_getChar_3b067 58 = .ok (.i2c, 1) := by decide +kernel
theorem dJ2_getChar_3b067_59 : decode cJ2_getChar_3b067 59 = .ok (.ireturn, 1) := by decide +kernel
theorem dJ2_length_9d52b_0 : decode cJ2_length_9d52b 0 = .ok (.aload_n 0, 1) := by decide +kernel
theorem dJ2_length_9d52b_1 : decode cJ2_length_9d52b 1 = .ok (.arraylength, 1) := by decide +kernel
theorem dJ2_length_9d52b_2 : decode cJ2_length_9d52b 2 = .ok (.iconst 1, 1) := by decide +kernel
theorem dJ2_length_9d52b_3 : decode cJ2_length_9d52b 3 = .ok (.ishr, 1) := by decide +kernel
theorem dJ2_length_9d52b_4 : decode cJ2_length_9d52b 4 = .ok (.ireturn, 1) := by decide +kernel
theorem dJ2_coderFromArrayLen_85cad_0 : decode cJ2_coderFromArrayLen_85cad 0 = .ok (.iload_n 1, 1) := by decide +kernel
theorem dJ2_coderFromArrayLen_85cad_1 : decode cJ2_coderFromArrayLen_85cad 1 = .ok (.aload_n 0, 1) := by decide +kernel
theorem dJ2_coderFromArrayLen_85cad_2 : decode cJ2_coderFromArrayLen_85cad 2 = .ok (.arraylength, 1) := by decide +kernel
theorem dJ2_coderFromArrayLen_85cad_3 : decode cJ2_coderFromArrayLen_85cad 3 = .ok (.isub, 1) := by decide +kernel
theorem dJ2_coderFromArrayLen_85cad_4 : decode cJ2_coderFromArrayLen_85cad 4 = .ok (.bipush 31, 2) := by decide +kernel
theorem dJ2_coderFromArrayLen_85cad_6 : decode cJ2_coderFromArrayLen_85cad 6 = .ok (.iushr, 1) := by decide +kernel
theorem dJ2_coderFromArrayLen_85cad_7 : decode cJ2_coderFromArrayLen_85cad 7 = .ok (.i2b, 1) := by decide +kernel
theorem dJ2_coderFromArrayLen_85cad_8 : decode cJ2_coderFromArrayLen_85cad 8 = .ok (.ireturn, 1) := by decide +kernel
theorem dJ2_compress_39247_0 : decode cJ2_compress_39247 0 = .ok (.iload_n 2, 1) := by decide +kernel
theorem dJ2_compress_39247_1 : decode cJ2_compress_39247 1 = .ok (.newarray .byte, 2) := by decide +kernel
theorem dJ2_compress_39247_3 : decode cJ2_compress_39247 3 = .ok (.astore_n 3, 1) := by decide +kernel
theorem dJ2_compress_39247_4 : decode cJ2_compress_39247 4 = .ok (.aload_n 0, 1) := by decide +kernel
theorem dJ2_compress_39247_5 : decode cJ2_compress_39247 5 = .ok (.iload_n 1, 1) := by decide +kernel
theorem dJ2_compress_39247_6 : decode cJ2_compress_39247 6 = .ok (.aload_n 3, 1) := by decide +kernel
theorem dJ2_compress_39247_7 : decode cJ2_compress_39247 7 = .ok (.iconst 0, 1) := by decide +kernel
theorem dJ2_compress_39247_8 : decode cJ2_compress_39247 8 = .ok (.iload_n 2, 1) := by decide +kernel
theorem dJ2_compress_39247_9 : decode cJ2_compress_39247 9 = .ok (.invokestatic 123, 3) := by decide +kernel
theorem dJ2_compress_39247_12 : decode cJ2_compress_39247 12 = .ok (.istore 4, 2) := by decide +kernel
theorem dJ2_compress_39247_14 : decode cJ2_compress_39247 14 = .ok (.iload 4, 2) := by decide +kernel
theorem dJ2_compress_39247_16 : decode cJ2_compress_39247 16 = .ok (.iload_n 2, 1) := by decide +kernel
theorem dJ2_compress_39247_17 : decode cJ2_compress_39247 17 = .ok (.if_icmp .eq 47, 3) := by decide +kernel
theorem dJ2_compress_39247_20 : decode cJ2_compress_39247 20 = .ok (.aload_n 0, 1) := by decide +kernel
theorem dJ2_compress_39247_21 : decode cJ2_compress_39247 21 = .ok (.iload_n 1, 1) := by decide +kernel
theorem dJ2_compress_39247_22 : decode cJ2_compress_39247 22 = .ok (.iconst 1, 1) := by decide +kernel
theorem dJ2_compress_39247_23 : decode cJ2_compress_39247 23 = .ok (.ishl, 1) := by decide +kernel
theorem dJ2_compress_39247_24 : decode cJ2_compress_39247 24 = .ok (.iload_n 1, 1) := by decide +kernel
theorem dJ2_compress_39247_25 : decode cJ2_compress_39247 25 = .ok (.iload_n 2, 1) := by decide +kernel
theorem dJ2_compress_39247_26 : decode cJ2_compress_39247 26 = .ok (.iadd, 1) := by decide +kernel
theorem dJ2_compress_39247_27 : decode cJ2_compress_39247 27 = .ok (.invokestatic 11, 3) := by decide +kernel
theorem dJ2_compress_39247_30 : decode cJ2_compress_39247 30 = .ok (.invokestatic 126, 3) := by decide +kernel
theorem dJ2_compress_39247_33 : decode cJ2_compress_39247 33 = .ok (.astore 5, 2) := by decide +kernel
theorem dJ2_compress_39247_35 : decode cJ2_compress_39247 35 = .ok (.aload 5, 2) := by decide +kernel
theorem dJ2_compress_39247_37 : decode cJ2_compress_39247 37 = .ok (.iload 4, 2) := by decide +kernel
theorem dJ2_compress_39247_39 : decode cJ2_compress_39247 39 = .ok (.invokestatic 71, 3) := by decide +kernel
theorem dJ2_compress_39247_42 : decode cJ2_compress_39247 42 = .ok (.sipush 255, 3) := by decide +kernel
theorem dJ2_compress_39247_45 : decode cJ2_compress_39247 45 = .ok (.if_icmp .gt 16, 3) := by decide +kernel
theorem dJ2_compress_39247_48 : decode cJ2_compress_39247 48 = .ok (.aload 5, 2) := by decide +kernel
theorem dJ2_compress_39247_50 : decode cJ2_compress_39247 50 = .ok (.iconst 0, 1) := by decide +kernel
theorem dJ2_compress_39247_51 : decode cJ2_compress_39247 51 = .ok (.aload_n 3, 1) := by decide +kernel
theorem dJ2_compress_39247_52 : decode cJ2_compress_39247 52 = .ok (.iconst 0, 1) := by decide +kernel
theorem dJ2_compress_39247_53 : decode cJ2_compress_39247 53 = .ok (.iload_n 2, 1) := by decide +kernel
theorem dJ2_compress_39247_54 : decode cJ2_compress_39247 54 = .ok (.invokestatic 123, 3) := by decide +kernel
theorem dJ2_compress_39247_57 : decode cJ2_compress_39247 57 = .ok (.iload_n 2, 1) := by decide +kernel
theorem dJ2_compress_39247_58 : decode cJ2_compress_39247 58 = .ok (.if_icmp .eq 6, 3) := by decide +kernel
theorem dJ2_compress_39247_61 : decode cJ2_compress_39247 61 = .ok (.aload 5, 2) := by decide +kernel
theorem dJ2_compress_39247_63 : decode cJ2_compress_39247 63 = .ok (.areturn, 1) := by decide +kernel
theorem dJ2_compress_39247_64 : decode cJ2_compress_39247 64 = .ok (.aload_n 3, 1) := by decide +kernel
theorem dJ2_compress_39247_65 : decode cJ2_compress_39247 65 = .ok (.areturn, 1) := by decide +kernel
theorem dJ2_compress_5af95_0 : decode cJ2_compress_5af95 0 = .ok (.iload_n 1, 1) := by decide +kernel
theorem dJ2_compress_5af95_1 : decode cJ2_compress_5af95 1 = .ok (.iload 4, 2) := by decide +kernel
theorem dJ2_compress_5af95_3 : decode cJ2_compress_5af95 3 = .ok (.aload_n 0, 1) := by decide +kernel
theorem dJ2_compress_5af95_4 : decode cJ2_compress_5af95 4 = .ok (.invokestatic 173, 3) := by decide +kernel
theorem dJ2_compress_5af95_7 : decode cJ2_compress_5af95 7 = .ok (.iconst 0, 1) := by decide +kernel
theorem dJ2_compress_5af95_8 : decode cJ2_compress_5af95 8 = .ok (.istore 5, 2) := by decide +kernel
theorem dJ2_compress_5af95_10 : decode cJ2_compress_5af95 10 = .ok (.iload 5, 2) := by decide +kernel
theorem dJ2_compress_5af95_12 : decode cJ2_compress_5af95 12 = .ok (.iload 4, 2) := by decide +kernel
theorem dJ2_compress_5af95_14 : decode cJ2_compress_5af95 14 = .ok (.if_icmp .ge 39, 3) := by decide +kernel
theorem dJ2_compress_5af95_17 : decode cJ2_compress_5af95 17 = .ok (.aload_n 0, 1) := by decide +kernel
theorem dJ2_compress_5af95_18 : decode cJ2_compress_5af95 18 = .ok (.iload_n 1, 1) := by decide +kernel
theorem dJ2_compress_5af95_19 : decode cJ2_compress_5af95 19 = .ok (.invokestatic 71, 3) := by decide +kernel
theorem dJ2_compress_5af95_22 : decode cJ2_compress_5af95 22 = .ok (.istore 6, 2) := by decide +kernel
theorem dJ2_compress_5af95_24 : decode cJ2_compress_5af95 24 = .ok (.iload 6, 2) := by decide +kernel
theorem dJ2_compress_5af95_26 : decode cJ2_compress_5af95 26 = .ok (.sipush 255, 3) := by decide +kernel
theorem dJ2_compress_5af95_29 : decode cJ2_compress_5af95 29 = .ok (.if_icmp .le 6, 3) := by decide +kernel
theorem dJ2_compress_5af95_32 : decode cJ2_compress_5af95 32 = .ok (.iload 5, 2) := by decide +kernel
theorem dJ2_compress_5af95_34 : decode cJ2_compress_5af95 34 = .ok (.ireturn, 1) := by decide +kernel
theorem dJ2_compress_5af95_35 : decode cJ2_compress_5af95 35 = .ok (.aload_n 2, 1) := by decide +kernel
theorem dJ2_compress_5af95_36 : decode cJ2_compress_5af95 36 = .ok (.iload_n 3, 1) := by decide +kernel
theorem dJ2_compress_5af95_37 : decode cJ2_compress_5af95 37 = .ok (.iload 6, 2) := by decide +kernel
theorem dJ2_compress_5af95_39 : decode cJ2_compress_5af95 39 = .ok (.i2b, 1) := by decide +kernel
theorem dJ2_compress_5af95_40 : decode cJ2_compress_5af95 40 = .ok (.bastore, 1) := by decide +kernel
theorem dJ2_compress_5af95_41 : decode cJ2_compress_5af95 41 = .ok (.iinc 1 1, 3) := by decide +kernel
theorem dJ2_compress_5af95_44 : decode cJ2_compress_5af95 44 = .ok (.iinc 3 1, 3) := by decide +kernel
theorem dJ2_compress_5af95_47 : decode cJ2_compress_5af95 47 = .ok (.iinc 5 1, 3) := by decide +kernel
theorem dJ2_compress_5af95_50 : decode cJ2_compress_5af95 50 = .ok (.goto (-40), 3) := by decide +kernel
theorem dJ2_compress_5af95_53 : decode cJ2_compress_5af95 53 = .ok (.iload 4, 2) := by decide +kernel
theorem dJ2_compress_5af95_55 : decode cJ2_compress_5af95 55 = .ok (.ireturn, 1) := by decide +kernel
theorem dJ2_putCharSB_b72d1_0 : decode cJ2_putCharSB_b72d1 0 = .ok (.iload_n 1, 1) := by decide +kernel
theorem dJ2_putCharSB_b72d1_1 : decode cJ2_putCharSB_b72d1 1 = .ok (.aload_n 0, 1) := by decide +kernel
theorem dJ2_putCharSB_b72d1_2 : decode cJ2_putCharSB_b72d1 2 = .ok (.invokestatic 67, 3) := by decide +kernel
theorem dJ2_putCharSB_b72d1_5 : decode cJ2_putCharSB_b72d1 5 = .ok (.aload_n 0, 1) := by decide +kernel
theorem dJ2_putCharSB_b72d1_6 : decode cJ2_putCharSB_b72d1 6 = .ok (.iload_n 1, 1) := by decide +kernel
theorem dJ2_putCharSB_b72d1_7 : decode cJ2_putCharSB_b72d1 7 = .ok (.iload_n 2, 1) := by decide +kernel
theorem dJ2_putCharSB_b72d1_8 : decode cJ2_putCharSB_b72d1 8 = .ok (.invokestatic 111, 3) := by decide +kernel
theorem dJ2_putCharSB_b72d1_11 : decode cJ2_putCharSB_b72d1 11 = .ok (.return_, 1) := by decide +kernel
theorem dJ2_getChars_46870_0 : decode cJ2_getChars_46870 0 = .ok (.iload_n 1, 1) := by decide +kernel
theorem dJ2_getChars_46870_1 : decode cJ2_getChars_46870 1 = .ok (.iload_n 2, 1) := by decide +kernel
theorem dJ2_getChars_46870_2 : decode cJ2_getChars_46870 2 = .ok (.aload_n 3, 1) := by decide +kernel
theorem dJ2_getChars_46870_3 : decode cJ2_getChars_46870 3 = .ok (.invokestatic 96, 3) := by decide +kernel
theorem dJ2_getChars_46870_6 : decode cJ2_getChars_46870 6 = .ok (.iload_n 0, 1) := by decide +kernel
theorem dJ2_getChars_46870_7 : decode cJ2_getChars_46870 7 = .ok (.iload_n 2, 1) := by decide +kernel
theorem dJ2_getChars_46870_8 : decode cJ2_getChars_46870 8 = .ok (.aload_n 3, 1) := by decide +kernel
theorem dJ2_getChars_46870_9 : decode cJ2_getChars_46870 9 = .ok (.invokestatic 393, 3) := by decide +kernel
theorem dJ2_getChars_46870_12 : decode cJ2_getChars_46870 12 = .ok (.istore 4, 2) := by decide +kernel
theorem dJ2_getChars_46870_14 : decode cJ2_getChars_46870 14 = .ok (.getstatic 44, 3) := by decide +kernel
theorem dJ2_getChars_46870_17 : decode cJ2_getChars_46870 17 = .ok (.ifCond .ne 17, 3) := by decide +kernel
theorem dJ2_getChars_46870_20 : decode cJ2_getChars_46870 20 = .ok (.iload_n 1, 1) := by decide +kernel
theorem dJ2_getChars_46870_21 : decode cJ2_getChars_46870 21 = .ok (.iload 4, 2) := by decide +kernel
theorem dJ2_getChars_46870_23 : decode cJ2_getChars_46870 23 = .ok (.if_icmp .eq 11, 3) := by decide +kernel
theorem dJ2_getChars_46870_26 : decode cJ2_getChars_46870 26 = .ok (.new 52, 3) := by decide +kernel
theorem dJ2_getChars_46870_29 : decode cJ2_getChars_46870 29 = .ok (.dup, 1) := by decide +kernel
theorem dJ2_getChars_46870_30 : decode cJ2_getChars_46870 30 = .ok (.invokespecial 66, 3) := by decide +kernel
theorem dJ2_getChars_46870_33 : decode cJ2_getChars_46870 33 = .ok (.athrow, 1) := by decide +kernel
theorem dJ2_getChars_46870_34 : decode cJ2_getChars_46870 34 = .ok (.iload 4, 2) := by decide +kernel
theorem dJ2_getChars_46870_36 : decode cJ2_getChars_46870 36 = .ok (.ireturn, 1) := by decide +kernel
theorem dJ2_putCharsAt_cd4e5_0 : decode cJ2_putCharsAt_cd4e5 0 = .ok (.iload_n 1, 1) := by decide +kernel
theorem dJ2_putCharsAt_cd4e5_1 : decode cJ2_putCharsAt_cd4e5 1 = .ok (.iconst 4, 1) := by decide +kernel
theorem dJ2_putCharsAt_cd4e5_2 : decode cJ2_putCharsAt_cd4e5 2 = .ok (.iadd, 1) := by decide +kernel
theorem dJ2_putCharsAt_cd4e5_3 : decode cJ2_putCharsAt_cd4e5 3 = .ok (.istore 6, 2) := by decide +kernel
theorem dJ2_putCharsAt_cd4e5_5 : decode cJ2_putCharsAt_cd4e5 5 = .ok (.iload_n 1, 1) := by decide +kernel
theorem dJ2_putCharsAt_cd4e5_6 : decode cJ2_putCharsAt_cd4e5 6 = .ok (.iload 6, 2) := by decide +kernel
theorem dJ2_putCharsAt_cd4e5_8 : decode cJ2_putCharsAt_cd4e5 8 = .ok (.aload_n 0, 1) := by decide +kernel
theorem dJ2_putCharsAt_cd4e5_9 : decode cJ2_putCharsAt_cd4e5 9 = .ok (.invokestatic 96, 3) := by decide +kernel
theorem dJ2_putCharsAt_cd4e5_12 : decode cJ2_putCharsAt_cd4e5 12 = .ok (.aload_n 0, 1) := by decide +kernel
theorem dJ2_putCharsAt_cd4e5_13 : decode cJ2_putCharsAt_cd4e5 13 = .ok (.iload_n 1, 1) := by decide +kernel
theorem dJ2_putCharsAt_cd4e5_14 : decode cJ2_putCharsAt_cd4e5 14 = .ok (.iinc 1 1, 3) := by decide +kernel
theorem dJ2_putCharsAt_cd4e5_17 : decode cJ2_putCharsAt_cd4e5 17 = .ok (.iload_n 2, 1) := by decide +kernel
theorem dJ2_putCharsAt_cd4e5_18 : decode cJ2_putCharsAt_cd4e5 18 = .ok (.invokestatic 111, 3) := by decide +kernel
theorem dJ2_putCharsAt_cd4e5_21 : decode cJ2_putCharsAt_cd4e5 21 = .ok (.aload_n 0, 1) := by decide +kernel
theorem dJ2_putCharsAt_cd4e5_22 : decode cJ2_putCharsAt_cd4e5 22 = .ok (.iload_n 1, 1) := by decide +kernel
theorem dJ2_putCharsAt_cd4e5_23 : decode cJ2_putCharsAt_cd4e5 23 = .ok (.iinc 1 1, 3) := by decide +kernel
theorem dJ2_putCharsAt_cd4e5_26 : decode cJ2_putCharsAt_cd4e5 26 = .ok (.iload_n 3, 1) := by decide +kernel
theorem dJ2_putCharsAt_cd4e5_27 : decode cJ2_putCharsAt_cd4e5 27 = .ok (.invokestatic 111, 3) := by decide +kernel
theorem dJ2_putCharsAt_cd4e5_30 : decode cJ2_putCharsAt_cd4e5 30 = .ok (.aload_n 0, 1) := by decide +kernel
theorem dJ2_putCharsAt_cd4e5_31 : decode cJ2_putCharsAt_cd4e5 31 = .ok (.iload_n 1, 1) := by decide +kernel
theorem dJ2_putCharsAt_cd4e5_32 : decode cJ2_putCharsAt_cd4e5 32 = .ok (.iinc 1 1, 3) := by decide +kernel
theorem dJ2_putCharsAt_cd4e5_35 : decode cJ2_putCharsAt_cd4e5 35 = .ok (.iload 4, 2) := by decide +kernel
theorem dJ2_putCharsAt_cd4e5_37 : decode cJ2_putCharsAt_cd4e5 37 = .ok (.invokestatic 111, 3) := by decide +kernel
theorem dJ2_putCharsAt_cd4e5_40 : decode cJ2_putCharsAt_cd4e5 40 = .ok (.aload_n 0, 1) := by decide +kernel
theorem dJ2_putCharsAt_cd4e5_41 : decode cJ2_putCharsAt_cd4e5 41 = .ok (.iload_n 1, 1) := by decide +kernel
theorem dJ2_putCharsAt_cd4e5_42 : decode cJ2_putCharsAt_cd4e5 42 = .ok (.iinc 1 1, 3) := by decide +kernel
theorem dJ2_putCharsAt_cd4e5_45 : decode cJ2_putCharsAt_cd4e5 45 = .ok (.iload 5, 2) := by decide +kernel
theorem dJ2_putCharsAt_cd4e5_47 : decode cJ2_putCharsAt_cd4e5 47 = .ok (.invokestatic 111, 3) := by decide +kernel
theorem dJ2_putCharsAt_cd4e5_50 : decode cJ2_putCharsAt_cd4e5 50 = .ok (.getstatic 44, 3) := by decide +kernel
theorem dJ2_putCharsAt_cd4e5_53 : decode cJ2_putCharsAt_cd4e5 53 = .ok (.ifCond .ne 17, 3) := by decide +kernel
theorem dJ2_putCharsAt_cd4e5_56 : decode cJ2_putCharsAt_cd4e5 56 = .ok (.iload_n 1, 1) := by decide +kernel
theorem dJ2_putCharsAt_cd4e5_57 : decode cJ2_putCharsAt_cd4e5 57 = .ok (.iload 6, 2) := by decide +kernel
theorem dJ2_putCharsAt_cd4e5_59 : decode cJ2_putCharsAt_cd4e5 59 = .ok (.if_icmp .eq 11, 3) := by decide +kernel
theorem dJ2_putCharsAt_cd4e5_62 : decode cJ2_putCharsAt_cd4e5 62 = .ok (.new 52, 3) := by decide +kernel
theorem dJ2_putCharsAt_cd4e5_65 : decode cJ2_putCharsAt_cd4e5 65 = .ok (.dup, 1) := by decide +kernel
theorem dJ2_putCharsAt_cd4e5_66 : decode cJ2_putCharsAt_cd4e5 66 = .ok (.invokespecial 66, 3) := by decide +kernel
theorem dJ2_putCharsAt_cd4e5_69 : decode cJ2_putCharsAt_cd4e5 69 = .ok (.athrow, 1) := by decide +kernel
theorem dJ2_putCharsAt_cd4e5_70 : decode cJ2_putCharsAt_cd4e5 70 = .ok (.iload 6, 2) := by decide +kernel
theorem dJ2_putCharsAt_cd4e5_72 : decode cJ2_putCharsAt_cd4e5 72 = .ok (.ireturn, 1) := by decide +kernel
theorem dJ2_charAt_3b067_0 : decode cJ2_charAt_3b067 0 = .ok (.iload_n 1, 1) := by decide +kernel
theorem dJ2_charAt_3b067_1 : decode cJ2_charAt_3b067 1 = .ok (.aload_n 0, 1) := by decide +kernel
theorem dJ2_charAt_3b067_2 : decode cJ2_charAt_3b067 2 = .ok (.invokestatic 67, 3) := by decide +kernel
theorem dJ2_charAt_3b067_5 : decode cJ2_charAt_3b067 5 = .ok (.aload_n 0, 1) := by decide +kernel
theorem dJ2_charAt_3b067_6 : decode cJ2_charAt_3b067 6 = .ok (.iload_n 1, 1) := by decide +kernel
theorem dJ2_charAt_3b067_7 : decode cJ2_charAt_3b067 7 = .ok (.invokestatic 71, 3) := by decide +kernel
theorem dJ2_charAt_3b067_10 : decode cJ2_charAt_3b067 10 = .ok (.ireturn, 1) := by decide +kernel
theorem dJ2_inflate_0e8fd_0 : decode cJ2_inflate_0e8fd 0 = .ok (.iload_n 3, 1) := by decide +kernel
theorem dJ2_inflate_0e8fd_1 : decode cJ2_inflate_0e8fd 1 = .ok (.iload 4, 2) := by decide +kernel
theorem dJ2_inflate_0e8fd_3 : decode cJ2_inflate_0e8fd 3 = .ok (.aload_n 2, 1) := by decide +kernel
theorem dJ2_inflate_0e8fd_4 : decode cJ2_inflate_0e8fd 4 = .ok (.invokestatic 173, 3) := by decide +kernel
theorem dJ2_inflate_0e8fd_7 : decode cJ2_inflate_0e8fd 7 = .ok (.iconst 0, 1) := by decide +kernel
theorem dJ2_inflate_0e8fd_8 : decode cJ2_inflate_0e8fd 8 = .ok (.istore 5, 2) := by decide +kernel
theorem dJ2_inflate_0e8fd_10 : decode cJ2_inflate_0e8fd 10 = .ok (.iload 5, 2) := by decide +kernel
theorem dJ2_inflate_0e8fd_12 : decode cJ2_inflate_0e8fd 12 = .ok (.iload 4, 2) := by decide +kernel
theorem dJ2_inflate_0e8fd_14 : decode cJ2_inflate_0e8fd 14 = .ok (.if_icmp .ge 27, 3) := by decide +kernel
theorem dJ2_inflate_0e8fd_17 : decode cJ2_inflate_0e8fd 17 = .ok (.aload_n 2, 1) := by decide +kernel
theorem dJ2_inflate_0e8fd_18 : decode cJ2_inflate_0e8fd 18 = .ok (.iload_n 3, 1) := by decide +kernel
theorem dJ2_inflate_0e8fd_19 : decode cJ2_inflate_0e8fd 19 = .ok (.iinc 3 1, 3) := by decide +kernel
theorem dJ2_inflate_0e8fd_22 : decode cJ2_inflate_0e8fd 22 = .ok (.aload_n 0, 1) := by decide +kernel
theorem dJ2_inflate_0e8fd_23 : decode cJ2_inflate_0e8fd 23 = .ok (.iload_n 1, 1) := by decide +kernel
theorem dJ2_inflate_0e8fd_24 : decode cJ2_inflate_0e8fd 24 = .ok (.iinc 1 1, 3) := by decide +kernel
theorem dJ2_inflate_0e8fd_27 : decode cJ2_inflate_0e8fd 27 = .ok (.baload, 1) := by decide +kernel
theorem dJ2_inflate_0e8fd_28 : decode cJ2_inflate_0e8fd 28 = .ok (.sipush 255, 3) := by decide +kernel
theorem dJ2_inflate_0e8fd_31 : decode cJ2_inflate_0e8fd 31 = .ok (.iand, 1) := by decide +kernel
theorem dJ2_inflate_0e8fd_32 : decode cJ2_inflate_0e8fd 32 = .ok (.invokestatic 111, 3) := by decide +kernel
theorem dJ2_inflate_0e8fd_35 : decode cJ2_inflate_0e8fd 35 = .ok (.iinc 5 1, 3) := by decide +kernel
theorem dJ2_inflate_0e8fd_38 : decode cJ2_inflate_0e8fd 38 = .ok (.goto (-28), 3) := by decide +kernel
theorem dJ2_inflate_0e8fd_41 : decode cJ2_inflate_0e8fd 41 = .ok (.return_, 1) := by decide +kernel
theorem dJ2_getChars_ba4f3_0 : decode cJ2_getChars_ba4f3 0 = .ok (.iload_n 1, 1) := by decide +kernel
theorem dJ2_getChars_ba4f3_1 : decode cJ2_getChars_ba4f3 1 = .ok (.istore 5, 2) := by decide +kernel
theorem dJ2_getChars_ba4f3_3 : decode cJ2_getChars_ba4f3 3 = .ok (.iload_n 0, 1) := by decide +kernel
theorem dJ2_getChars_ba4f3_4 : decode cJ2_getChars_ba4f3 4 = .ok (.ifCond .ge 7, 3) := by decide +kernel
theorem dJ2_getChars_ba4f3_7 : decode cJ2_getChars_ba4f3 7 = .ok (.iconst 1, 1) := by decide +kernel
theorem dJ2_getChars_ba4f3_8 : decode cJ2_getChars_ba4f3 8 = .ok (.goto 4, 3) := by decide +kernel
theorem dJ2_getChars_ba4f3_11 : decode cJ2_getChars_ba4f3 11 = .ok (.iconst 0, 1) := by decide +kernel
theorem dJ2_getChars_ba4f3_12 : decode cJ2_getChars_ba4f3 12 = .ok (.istore 6, 2) := by decide +kernel
theorem dJ2_getChars_ba4f3_14 : decode cJ2_getChars_ba4f3 14 = .ok (.iload 6, 2) := by decide +kernel
theorem dJ2_getChars_ba4f3_16 : decode cJ2_getChars_ba4f3 16 = .ok (.ifCond .ne 6, 3) := by decide +kernel
theorem dJ2_getChars_ba4f3_19 : decode cJ2_getChars_ba4f3 19 = .ok (.iload_n 0, 1) := by decide +kernel
theorem dJ2_getChars_ba4f3_20 : decode cJ2_getChars_ba4f3 20 = .ok (.ineg, 1) := by decide +kernel
theorem dJ2_getChars_ba4f3_21 : decode cJ2_getChars_ba4f3 21 = .ok (.istore_n 0, 1) := by decide +kernel
theorem dJ2_getChars_ba4f3_22 : decode cJ2_getChars_ba4f3 22 = .ok (.iload_n 0, 1) := by decide +kernel
theorem dJ2_getChars_ba4f3_23 : decode cJ2_getChars_ba4f3 23 = .ok (.bipush (-100), 2) := by decide +kernel
theorem dJ2_getChars_ba4f3_25 : decode cJ2_getChars_ba4f3 25 = .ok (.if_icmp .gt 51, 3) := by decide +kernel
theorem dJ2_getChars_ba4f3_28 : decode cJ2_getChars_ba4f3 28 = .ok (.iload_n 0, 1) := by decide +kernel
theorem dJ2_getChars_ba4f3_29 : decode cJ2_getChars_ba4f3 29 = .ok (.bipush 100, 2) := by decide +kernel
theorem dJ2_getChars_ba4f3_31 : decode cJ2_getChars_ba4f3 31 = .ok (.idiv, 1) := by decide +kernel
theorem dJ2_getChars_ba4f3_32 : decode cJ2_getChars_ba4f3 32 = .ok (.istore_n 3, 1) := by decide +kernel
theorem dJ2_getChars_ba4f3_33 : decode cJ2_getChars_ba4f3 33 = .ok (.iload_n 3, 1) := by decide +kernel
theorem dJ2_getChars_ba4f3_34 : decode cJ2_getChars_ba4f3 34 = .ok (.bipush 100, 2) := by decide +kernel
theorem dJ2_getChars_ba4f3_36 : decode cJ2_getChars_ba4f3 36 = .ok (.imul, 1) := by decide +kernel
theorem dJ2_getChars_ba4f3_37 : decode cJ2_getChars_ba4f3 37 = .ok (.iload_n 0, 1) := by decide +kernel
theorem dJ2_getChars_ba4f3_38 : decode cJ2_getChars_ba4f3 38 = .ok (.isub, 1) := by decide +kernel
theorem dJ2_getChars_ba4f3_39 : decode cJ2_getChars_ba4f3 39 = .ok (.istore 4, 2) := by decide +kernel
theorem dJ2_getChars_ba4f3_41 : decode cJ2_getChars_ba4f3 41 = .ok (.iload_n 3, 1) := by decide +kernel
theorem dJ2_getChars_ba4f3_42 : decode cJ2_getChars_ba4f3 42 = .ok (.istore_n 0, 1) := by decide +kernel
theorem dJ2_getChars_ba4f3_43 : decode cJ2_getChars_ba4f3 43 = .ok (.aload_n 2, 1) := by decide +kernel
theorem dJ2_getChars_ba4f3_44 : decode cJ2_getChars_ba4f3 44 = .ok (.iinc 5 (-1), 3) := by decide +kernel
theorem dJ2_getChars_ba4f3_47 : decode cJ2_getChars_ba4f3 47 = .ok (.iload 5, 2) := by decide +kernel
theorem dJ2_getChars_ba4f3_49 : decode cJ2_getChars_ba4f3 49 = .ok (.getstatic 403, 3) := by decide +kernel
theorem dJ2_getChars_ba4f3_52 : decode cJ2_getChars_ba4f3 52 = .ok (.iload 4, 2) := by decide +kernel
theorem dJ2_getChars_ba4f3_54 : decode cJ2_getChars_ba4f3 54 = .ok (.baload, 1) := by decide +kernel
theorem dJ2_getChars_ba4f3_55 : decode cJ2_getChars_ba4f3 55 = .ok (.invokestatic 111, 3) := by decide +kernel
theorem dJ2_getChars_ba4f3_58 : decode cJ2_getChars_ba4f3 58 = .ok (.aload_n 2, 1) := by decide +kernel
theorem dJ2_getChars_ba4f3_59 : decode cJ2_getChars_ba4f3 59 = .ok (.iinc 5 (-1), 3) := by decide +kernel
theorem dJ2_getChars_ba4f3_62 : decode cJ2_getChars_ba4f3 62 = .ok (.iload 5, 2) := by decide +kernel
theorem dJ2_getChars_ba4f3_64 : decode cJ2_getChars_ba4f3 64 = .ok (.getstatic 407, 3) := by decide +kernel
theorem dJ2_getChars_ba4f3_67 : decode cJ2_getChars_ba4f3 67 = .ok (.iload 4, 2) := by decide +kernel
theorem dJ2_getChars_ba4f3_69 : decode cJ2_getChars_ba4f3 69 = .ok (.baload, 1) := by decide +kernel
theorem dJ2_getChars_ba4f3_70 : decode cJ2_getChars_ba4f3 70 = .ok (.invokestatic 111, 3) := by decide +kernel
theorem dJ2_getChars_ba4f3_73 : decode cJ2_getChars_ba4f3 73 = .ok (.goto (-51), 3) := by decide +kernel
theorem dJ2_getChars_ba4f3_76 : decode cJ2_getChars_ba4f3 76 = .ok (.aload_n 2, 1) := by decide +kernel
theorem dJ2_getChars_ba4f3_77 : decode cJ2_getChars_ba4f3 77 = .ok (.iinc 5 (-1), 3) := by decide +kernel
theorem dJ2_getChars_ba4f3_80 : decode cJ2_getChars_ba4f3 80 = .ok (.iload 5, 2) := by decide +kernel
theorem dJ2_getChars_ba4f3_82 : decode cJ2_getChars_ba4f3 82 = .ok (.getstatic 403, 3) := by decide +kernel
theorem dJ2_getChars_ba4f3_85 : decode cJ2_getChars_ba4f3 85 = .ok (.iload_n 0, 1) := by decide +kernel
theorem dJ2_getChars_ba4f3_86 : decode cJ2_getChars_ba4f3 86 = .ok (.ineg, 1) := by decide +kernel
theorem dJ2_getChars_ba4f3_87 : decode cJ2_getChars_ba4f3 87 = .ok (.baload, 1) := by decide +kernel
theorem dJ2_getChars_ba4f3_88 : decode cJ2_getChars_ba4f3 88 = .ok (.invokestatic 111, 3) := by decide +kernel
theorem dJ2_getChars_ba4f3_91 : decode cJ2_getChars_ba4f3 91 = .ok (.iload_n 0, 1) := by decide +kernel
theorem dJ2_getChars_ba4f3_92 : decode cJ2_getChars_ba4f3 92 = .ok (.bipush (-9), 2) := by decide +kernel
theorem dJ2_getChars_ba4f3_94 : decode cJ2_getChars_ba4f3 94 = .ok (.if_icmp .ge 18, 3) := by decide +kernel
theorem dJ2_getChars_ba4f3_97 : decode cJ2_getChars_ba4f3 97 = .ok (.aload_n 2, 1) := by decide +kernel
theorem dJ2_getChars_ba4f3_98 : decode cJ2_getChars_ba4f3 98 = .ok (.iinc 5 (-1), 3) := by decide +kernel
theorem dJ2_getChars_ba4f3_101 : decode cJ2_getChars_ba4f3 101 = .ok (.iload 5, 2) := by decide +kernel
theorem dJ2_getChars_ba4f3_103 : decode cJ2_getChars_ba4f3 103 = .ok (.getstatic 407, 3) := by decide +kernel
theorem dJ2_getChars_ba4f3_106 : decode cJ2_getChars_ba4f3 106 = .ok (.iload_n 0, 1) := by decide +kernel
theorem dJ2_getChars_ba4f3_107 : decode cJ2_getChars_ba4f3 107 = .ok (.ineg, 1) := by decide +kernel
theorem dJ2_getChars_ba4f3_108 : decode cJ2_getChars_ba4f3 108 = .ok (.baload, 1) := by decide +kernel
theorem dJ2_getChars_ba4f3_109 : decode cJ2_getChars_ba4f3 109 = .ok (.invokestatic 111, 3) := by decide +kernel
theorem dJ2_getChars_ba4f3_112 : decode cJ2_getChars_ba4f3 112 = .ok (.iload 6, 2) := by decide +kernel
theorem dJ2_getChars_ba4f3_114 : decode cJ2_getChars_ba4f3 114 = .ok (.ifCond .eq 14, 3) := by decide +kernel
theorem dJ2_getChars_ba4f3_117 : decode cJ2_getChars_ba4f3 117 = .ok (.aload_n 2, 1) := by decide +kernel
theorem dJ2_getChars_ba4f3_118 : decode cJ2_getChars_ba4f3 118 = .ok (.iinc 5 (-1), 3) := by decide +kernel
theorem dJ2_getChars_ba4f3_121 : decode cJ2_getChars_ba4f3 121 = .ok (.iload 5, 2) := by decide +kernel
theorem dJ2_getChars_ba4f3_123 : decode cJ2_getChars_ba4f3 123 = .ok (.bipush 45, 2) := by decide +kernel
theorem dJ2_getChars_ba4f3_125 : decode cJ2_getChars_ba4f3 125 = .ok (.invokestatic 111, 3) := by decide +kernel
theorem dJ2_getChars_ba4f3_128 : decode cJ2_getChars_ba4f3 128 = .ok (.iload 5, 2) := by decide +kernel
theorem dJ2_getChars_ba4f3_130 : decode cJ2_getChars_ba4f3 130 = .ok (.ireturn, 1) := by decide +kernel
theorem dJ2_checkIndex_2214a_0 : decode cJ2_checkIndex_2214a 0 = .ok (.iload_n 0, 1) := by decide +kernel
theorem dJ2_checkIndex_2214a_1 : decode cJ2_checkIndex_2214a 1 = .ok (.aload_n 1, 1) := by decide +kernel
theorem dJ2_checkIndex_2214a_2 : decode cJ2_checkIndex_2214a 2 = .ok (.invokestatic 48, 3) := by decide +kernel
theorem dJ2_checkIndex_2214a_5 : decode cJ2_checkIndex_2214a 5 = .ok (.invokestatic 414, 3) := by decide +kernel
theorem dJ2_checkIndex_2214a_8 : decode cJ2_checkIndex_2214a 8 = .ok (.return_, 1) := by decide +kernel
theorem dJ2_checkBoundsBeginEnd_d044e_0 : decode cJ2_checkBoundsBeginEnd_d044e 0 = .ok (.iload_n 0, 1) := by decide +kernel
theorem dJ2_checkBoundsBeginEnd_d044e_1 : decode cJ2_checkBoundsBeginEnd_d044e 1 = .ok (.iload_n 1, 1) := by decide +kernel
theorem dJ2_checkBoundsBeginEnd_d044e_2 : decode cJ2_checkBoundsBeginEnd_d044e 2 = .ok (.aload_n 2, 1) := by decide +kernel
theorem dJ2_checkBoundsBeginEnd_d044e_3 : decode cJ2_checkBoundsBeginEnd_d044e 3 = .ok (.invokestatic 48, 3) := by decide +kernel
theorem dJ2_checkBoundsBeginEnd_d044e_6 : decode cJ2_checkBoundsBeginEnd_d044e 6 = .ok (.invokestatic 241, 3) := by decide +kernel
theorem dJ2_checkBoundsBeginEnd_d044e_9 : decode cJ2_checkBoundsBeginEnd_d044e 9 = .ok (.return_, 1) := by decide +kernel
theorem dJ2_checkBoundsOffCount_d044e_0 : decode cJ2_checkBoundsOffCount_d044e 0 = .ok (.iload_n 0, 1) := by decide +kernel
theorem dJ2_checkBoundsOffCount_d044e_1 : decode cJ2_checkBoundsOffCount_d044e 1 = .ok (.iload_n 1, 1) := by decide +kernel
theorem dJ2_checkBoundsOffCount_d044e_2 : decode cJ2_checkBoundsOffCount_d044e 2 = .ok (.aload_n 2, 1) := by decide +kernel
theorem dJ2_checkBoundsOffCount_d044e_3 : decode cJ2_checkBoundsOffCount_d044e 3 = .ok (.invokestatic 48, 3) := by decide +kernel
theorem dJ2_checkBoundsOffCount_d044e_6 : decode cJ2_checkBoundsOffCount_d044e 6 = .ok (.invokestatic 419, 3) := by decide +kernel
theorem dJ2_checkBoundsOffCount_d044e_9 : decode cJ2_checkBoundsOffCount_d044e 9 = .ok (.pop, 1) := by decide +kernel
theorem dJ2_checkBoundsOffCount_d044e_10 : decode cJ2_checkBoundsOffCount_d044e 10 = .ok (.return_, 1) := by decide +kernel
theorem dJ7_fill_53178_0 : decode cJ7_fill_53178 0 = .ok (.iconst 0, 1) := by decide +kernel
theorem dJ7_fill_53178_1 : decode cJ7_fill_53178 1 = .ok (.istore_n 2, 1) := by decide +kernel
theorem dJ7_fill_53178_2 : decode cJ7_fill_53178 2 = .ok (.aload_n 0, 1) := by decide +kernel
theorem dJ7_fill_53178_3 : decode cJ7_fill_53178 3 = .ok (.arraylength, 1) := by decide +kernel
theorem dJ7_fill_53178_4 : decode cJ7_fill_53178 4 = .ok (.istore_n 3, 1) := by decide +kernel
theorem dJ7_fill_53178_5 : decode cJ7_fill_53178 5 = .ok (.iload_n 2, 1) := by decide +kernel
theorem dJ7_fill_53178_6 : decode cJ7_fill_53178 6 = .ok (.iload_n 3, 1) := by decide +kernel
theorem dJ7_fill_53178_7 : decode cJ7_fill_53178 7 = .ok (.if_icmp .ge 13, 3) := by decide +kernel
theorem dJ7_fill_53178_10 : decode cJ7_fill_53178 10 = .ok (.aload_n 0, 1) := by decide +kernel
theorem dJ7_fill_53178_11 : decode cJ7_fill_53178 11 = .ok (.iload_n 2, 1) := by decide +kernel
theorem dJ7_fill_53178_12 : decode cJ7_fill_53178 12 = .ok (.iload_n 1, 1) := by decide +kernel
theorem dJ7_fill_53178_13 : decode cJ7_fill_53178 13 = .ok (.iastore, 1) := by decide +kernel
theorem dJ7_fill_53178_14 : decode cJ7_fill_53178 14 = .ok (.iinc 2 1, 3) := by decide +kernel
theorem dJ7_fill_53178_17 : decode cJ7_fill_53178 17 = .ok (.goto (-12), 3) := by decide +kernel
theorem dJ7_fill_53178_20 : decode cJ7_fill_53178 20 = .ok (.return_, 1) := by decide +kernel
theorem dJ7_copyOf_9075b_0 : decode cJ7_copyOf_9075b 0 = .ok (.iload_n 1, 1) := by decide +kernel
theorem dJ7_copyOf_9075b_1 : decode cJ7_copyOf_9075b 1 = .ok (.aload_n 0, 1) := by decide +kernel
theorem dJ7_copyOf_9075b_2 : decode cJ7_copyOf_9075b 2 = .ok (.arraylength, 1) := by decide +kernel
theorem dJ7_copyOf_9075b_3 : decode cJ7_copyOf_9075b 3 = .ok (.if_icmp .ne 11, 3) := by decide +kernel
theorem dJ7_copyOf_9075b_6 : decode cJ7_copyOf_9075b 6 = .ok (.aload_n 0, 1) := by decide +kernel
theorem dJ7_copyOf_9075b_7 : decode cJ7_copyOf_9075b 7 = .ok (.invokevirtual 310, 3) := by decide +kernel
theorem dJ7_copyOf_9075b_10 : decode cJ7_copyOf_9075b 10 = .ok (.checkcast 311, 3) := by decide +kernel
theorem dJ7_copyOf_9075b_13 : decode cJ7_copyOf_9075b 13 = .ok (.areturn, 1) := by decide +kernel
theorem dJ7_copyOf_9075b_14 : decode cJ7_copyOf_9075b 14 = .ok (.iload_n 1, 1) := by decide +kernel
theorem dJ7_copyOf_9075b_15 : decode cJ7_copyOf_9075b 15 = .ok (.newarray .byte, 2) := by decide +kernel
theorem dJ7_copyOf_9075b_17 : decode cJ7_copyOf_9075b 17 = .ok (.astore_n 2, 1) := by decide +kernel
theorem dJ7_copyOf_9075b_18 : decode cJ7_copyOf_9075b 18 = .ok (.aload_n 0, 1) := by decide +kernel
theorem dJ7_copyOf_9075b_19 : decode cJ7_copyOf_9075b 19 = .ok (.iconst 0, 1) := by decide +kernel
theorem dJ7_copyOf_9075b_20 : decode cJ7_copyOf_9075b 20 = .ok (.aload_n 2, 1) := by decide +kernel
theorem dJ7_copyOf_9075b_21 : decode cJ7_copyOf_9075b 21 = .ok (.iconst 0, 1) := by decide +kernel
theorem dJ7_copyOf_9075b_22 : decode cJ7_copyOf_9075b 22 = .ok (.aload_n 0, 1) := by decide +kernel
theorem dJ7_copyOf_9075b_23 : decode cJ7_copyOf_9075b 23 = .ok (.arraylength, 1) := by decide +kernel
theorem dJ7_copyOf_9075b_24 : decode cJ7_copyOf_9075b 24 = .ok (.iload_n 1, 1) := by decide +kernel
theorem dJ7_copyOf_9075b_25 : decode cJ7_copyOf_9075b 25 = .ok (.invokestatic 304, 3) := by decide +kernel
theorem dJ7_copyOf_9075b_28 : decode cJ7_copyOf_9075b 28 = .ok (.invokestatic 150, 3) := by decide +kernel
theorem dJ7_copyOf_9075b_31 : decode cJ7_copyOf_9075b 31 = .ok (.aload_n 2, 1) := by decide +kernel
theorem dJ7_copyOf_9075b_32 : decode cJ7_copyOf_9075b 32 = .ok (.areturn, 1) := by decide +kernel
theorem dJ7_checkLength_df160_0 : decode cJ7_checkLength_df160 0 = .ok (.iload_n 1, 1) := by decide +kernel
theorem dJ7_checkLength_df160_1 : decode cJ7_checkLength_df160 1 = .ok (.iload_n 0, 1) := by decide +kernel
theorem dJ7_checkLength_df160_2 : decode cJ7_checkLength_df160 2 = .ok (.if_icmp .ge 35, 3) := by decide +kernel
theorem dJ7_checkLength_df160_5 : decode cJ7_checkLength_df160 5 = .ok (.new 43, 3) := by decide +kernel
theorem dJ7_checkLength_df160_8 : decode cJ7_checkLength_df160 8 = .ok (.dup, 1) := by decide +kernel
theorem dJ7_checkLength_df160_9 : decode cJ7_checkLength_df160 9 = .ok (.new 45, 3) := by decide +kernel
theorem dJ7_checkLength_df160_12 : decode cJ7_checkLength_df160 12 = .ok (.dup, 1) := by decide +kernel
theorem dJ7_checkLength_df160_13 : decode cJ7_checkLength_df160 13 = .ok (.invokespecial 47, 3) := by decide +kernel
theorem dJ7_checkLength_df160_16 : decode cJ7_checkLength_df160 16 = .ok (.iload_n 0, 1) := by decide +kernel
theorem dJ7_checkLength_df160_17 : decode cJ7_checkLength_df160 17 = .ok (.invokevirtual 54, 3) := by decide +kernel
theorem dJ7_checkLength_df160_20 : decode cJ7_checkLength_df160 20 = .ok (.ldc_w 337, 3) := by decide +kernel
theorem dJ7_checkLength_df160_23 : decode cJ7_checkLength_df160 23 = .ok (.invokevirtual 50, 3) := by decide +kernel
theorem dJ7_checkLength_df160_26 : decode cJ7_checkLength_df160 26 = .ok (.iload_n 1, 1) := by decide +kernel
theorem dJ7_checkLength_df160_27 : decode cJ7_checkLength_df160 27 = .ok (.invokevirtual 54, 3) := by decide +kernel
theorem dJ7_checkLength_df160_30 : decode cJ7_checkLength_df160 30 = .ok (.invokevirtual 61, 3) := by decide +kernel
theorem dJ7_checkLength_df160_33 : decode cJ7_checkLength_df160 33 = .ok (.invokespecial 65, 3) := by decide +kernel
theorem dJ7_checkLength_df160_36 : decode cJ7_checkLength_df160 36 = .ok (.athrow, 1) := by decide +kernel
theorem dJ7_checkLength_df160_37 : decode cJ7_checkLength_df160 37 = .ok (.return_, 1) := by decide +kernel
theorem dJ7_copyOfRange_39247_0 : decode cJ7_copyOfRange_39247 0 = .ok (.iload_n 1, 1) := by decide +kernel
theorem dJ7_copyOfRange_39247_1 : decode cJ7_copyOfRange_39247 1 = .ok (.ifCond .ne 9, 3) := by decide +kernel
theorem dJ7_copyOfRange_39247_4 : decode cJ7_copyOfRange_39247 4 = .ok (.iload_n 2, 1) := by decide +kernel
theorem dJ7_copyOfRange_39247_5 : decode cJ7_copyOfRange_39247 5 = .ok (.aload_n 0, 1) := by decide +kernel
theorem dJ7_copyOfRange_39247_6 : decode cJ7_copyOfRange_39247 6 = .ok (.arraylength, 1) := by decide +kernel
theorem dJ7_copyOfRange_39247_7 : decode cJ7_copyOfRange_39247 7 = .ok (.if_icmp .eq 10, 3) := by decide +kernel
theorem dJ7_copyOfRange_39247_10 : decode cJ7_copyOfRange_39247 10 = .ok (.aload_n 0, 1) := by decide +kernel
theorem dJ7_copyOfRange_39247_11 : decode cJ7_copyOfRange_39247 11 = .ok (.iload_n 1, 1) := by decide +kernel
theorem dJ7_copyOfRange_39247_12 : decode cJ7_copyOfRange_39247 12 = .ok (.iload_n 2, 1) := by decide +kernel
theorem dJ7_copyOfRange_39247_13 : decode cJ7_copyOfRange_39247 13 = .ok (.invokestatic 339, 3) := by decide +kernel
theorem dJ7_copyOfRange_39247_16 : decode cJ7_copyOfRange_39247 16 = .ok (.areturn, 1) := by decide +kernel
theorem dJ7_copyOfRange_39247_17 : decode cJ7_copyOfRange_39247 17 = .ok (.aload_n 0, 1) := by decide +kernel
theorem dJ7_copyOfRange_39247_18 : decode cJ7_copyOfRange_39247 18 = .ok (.invokevirtual 310, 3) := by decide +kernel
theorem dJ7_copyOfRange_39247_21 : decode cJ7_copyOfRange_39247 21 = .ok (.checkcast 311, 3) := by decide +kernel
theorem dJ7_copyOfRange_39247_24 : decode cJ7_copyOfRange_39247 24 = .ok (.areturn, 1) := by decide +kernel
theorem dJ7_copyOfRangeByte_39247_0 : decode cJ7_copyOfRangeByte_39247 0 = .ok (.iload_n 1, 1) := by decide +kernel
theorem dJ7_copyOfRangeByte_39247_1 : decode cJ7_copyOfRangeByte_39247 1 = .ok (.iload_n 2, 1) := by decide +kernel
theorem dJ7_copyOfRangeByte_39247_2 : decode cJ7_copyOfRangeByte_39247 2 = .ok (.invokestatic 343, 3) := by decide +kernel
theorem dJ7_copyOfRangeByte_39247_5 : decode cJ7_copyOfRangeByte_39247 5 = .ok (.iload_n 2, 1) := by decide +kernel
theorem dJ7_copyOfRangeByte_39247_6 : decode cJ7_copyOfRangeByte_39247 6 = .ok (.iload_n 1, 1) := by decide +kernel
theorem dJ7_copyOfRangeByte_39247_7 : decode cJ7_copyOfRangeByte_39247 7 = .ok (.isub, 1) := by decide +kernel
theorem dJ7_copyOfRangeByte_39247_8 : decode cJ7_copyOfRangeByte_39247 8 = .ok (.istore_n 3, 1) := by decide +kernel
theorem dJ7_copyOfRangeByte_39247_9 : decode cJ7_copyOfRangeByte_39247 9 = .ok (.iload_n 3, 1) := by decide +kernel
theorem dJ7_copyOfRangeByte_39247_10 : decode cJ7_copyOfRangeByte_39247 10 = .ok (.newarray .byte, 2) := by decide +kernel
theorem dJ7_copyOfRangeByte_39247_12 : decode cJ7_copyOfRangeByte_39247 12 = .ok (.astore 4, 2) := by decide +kernel
theorem dJ7_copyOfRangeByte_39247_14 : decode cJ7_copyOfRangeByte_39247 14 = .ok (.aload_n 0, 1) := by decide +kernel
theorem dJ7_copyOfRangeByte_39247_15 : decode cJ7_copyOfRangeByte_39247 15 = .ok (.iload_n 1, 1) := by decide +kernel
theorem dJ7_copyOfRangeByte_39247_16 : decode cJ7_copyOfRangeByte_39247 16 = .ok (.aload 4, 2) := by decide +kernel
theorem dJ7_copyOfRangeByte_39247_18 : decode cJ7_copyOfRangeByte_39247 18 = .ok (.iconst 0, 1) := by decide +kernel
theorem dJ7_copyOfRangeByte_39247_19 : decode cJ7_copyOfRangeByte_39247 19 = .ok (.aload_n 0, 1) := by decide +kernel
theorem dJ7_copyOfRangeByte_39247_20 : decode cJ7_copyOfRangeByte_39247 20 = .ok (.arraylength, 1) := by decide +kernel
theorem dJ7_copyOfRangeByte_39247_21 : decode cJ7_copyOfRangeByte_39247 21 = .ok (.iload_n 1, 1) := by decide +kernel
theorem dJ7_copyOfRangeByte_39247_22 : decode cJ7_copyOfRangeByte_39247 22 = .ok (.isub, 1) := by decide +kernel
theorem dJ7_copyOfRangeByte_39247_23 : decode cJ7_copyOfRangeByte_39247 23 = .ok (.iload_n 3, 1) := by decide +kernel
theorem dJ7_copyOfRangeByte_39247_24 : decode cJ7_copyOfRangeByte_39247 24 = .ok (.invokestatic 304, 3) := by decide +kernel
theorem dJ7_copyOfRangeByte_39247_27 : decode cJ7_copyOfRangeByte_39247 27 = .ok (.invokestatic 150, 3) := by decide +kernel
theorem dJ7_copyOfRangeByte_39247_30 : decode cJ7_copyOfRangeByte_39247 30 = .ok (.aload 4, 2) := by decide +kernel
theorem dJ7_copyOfRangeByte_39247_32 : decode cJ7_copyOfRangeByte_39247 32 = .ok (.areturn, 1) := by decide +kernel
theorem dJ8_newLength_cabcc_0 : decode cJ8_newLength_cabcc 0 = .ok (.iload_n 0, 1) := by decide +kernel
theorem dJ8_newLength_cabcc_1 : decode cJ8_newLength_cabcc 1 = .ok (.iload_n 1, 1) := by decide +kernel
theorem dJ8_newLength_cabcc_2 : decode cJ8_newLength_cabcc 2 = .ok (.iload_n 2, 1) := by decide +kernel
theorem dJ8_newLength_cabcc_3 : decode cJ8_newLength_cabcc 3 = .ok (.invokestatic 194, 3) := by decide +kernel
theorem dJ8_newLength_cabcc_6 : decode cJ8_newLength_cabcc 6 = .ok (.iadd, 1) := by decide +kernel
theorem dJ8_newLength_cabcc_7 : decode cJ8_newLength_cabcc 7 = .ok (.istore_n 3, 1) := by decide +kernel
theorem dJ8_newLength_cabcc_8 : decode cJ8_newLength_cabcc 8 = .ok (.iconst 0, 1) := by decide +kernel
theorem dJ8_newLength_cabcc_9 : decode cJ8_newLength_cabcc 9 = .ok (.iload_n 3, 1) := by decide +kernel
theorem dJ8_newLength_cabcc_10 : decode cJ8_newLength_cabcc 10 = .ok (.if_icmp .ge 11, 3) := by decide +kernel
theorem dJ8_newLength_cabcc_13 : decode cJ8_newLength_cabcc 13 = .ok (.iload_n 3, 1) := by decide +kernel
theorem dJ8_newLength_cabcc_14 : decode cJ8_newLength_cabcc 14 = .ok (.ldc 200, 2) := by decide +kernel
theorem dJ8_newLength_cabcc_16 : decode cJ8_newLength_cabcc 16 = .ok (.if_icmp .gt 5, 3) := by decide +kernel
theorem dJ8_newLength_cabcc_19 : decode cJ8_newLength_cabcc 19 = .ok (.iload_n 3, 1) := by decide +kernel
theorem dJ8_newLength_cabcc_20 : decode cJ8_newLength_cabcc 20 = .ok (.ireturn, 1) := by decide +kernel
theorem dJ8_newLength_cabcc_21 : decode cJ8_newLength_cabcc 21 = .ok (.iload_n 0, 1) := by decide +kernel
theorem dJ8_newLength_cabcc_22 : decode cJ8_newLength_cabcc 22 = .ok (.iload_n 1, 1) := by decide +kernel
theorem dJ8_newLength_cabcc_23 : decode cJ8_newLength_cabcc 23 = .ok (.invokestatic 201, 3) := by decide +kernel
theorem dJ8_newLength_cabcc_26 : decode cJ8_newLength_cabcc 26 = .ok (.ireturn, 1) := by decide +kernel
theorem dJ8_hugeLength_7cf53_0 : decode cJ8_hugeLength_7cf53 0 = .ok (.iload_n 0, 1) := by decide +kernel
theorem dJ8_hugeLength_7cf53_1 : decode cJ8_hugeLength_7cf53 1 = .ok (.iload_n 1, 1) := by decide +kernel
theorem dJ8_hugeLength_7cf53_2 : decode cJ8_hugeLength_7cf53 2 = .ok (.iadd, 1) := by decide +kernel
theorem dJ8_hugeLength_7cf53_3 : decode cJ8_hugeLength_7cf53 3 = .ok (.istore_n 2, 1) := by decide +kernel
theorem dJ8_hugeLength_7cf53_4 : decode cJ8_hugeLength_7cf53 4 = .ok (.iload_n 2, 1) := by decide +kernel
theorem dJ8_hugeLength_7cf53_5 : decode cJ8_hugeLength_7cf53 5 = .ok (.ifCond .ge 44, 3) := by decide +kernel
theorem dJ8_hugeLength_7cf53_8 : decode cJ8_hugeLength_7cf53 8 = .ok (.new 204, 3) := by decide +kernel
theorem dJ8_hugeLength_7cf53_11 : decode cJ8_hugeLength_7cf53 11 = .ok (.dup, 1) := by decide +kernel
theorem dJ8_hugeLength_7cf53_12 : decode cJ8_hugeLength_7cf53 12 = .ok (.new 89, 3) := by decide +kernel
theorem dJ8_hugeLength_7cf53_15 : decode cJ8_hugeLength_7cf53 15 = .ok (.dup, 1) := by decide +kernel
theorem dJ8_hugeLength_7cf53_16 : decode cJ8_hugeLength_7cf53 16 = .ok (.invokespecial 91, 3) := by decide +kernel
theorem dJ8_hugeLength_7cf53_19 : decode cJ8_hugeLength_7cf53 19 = .ok (.ldc 206, 2) := by decide +kernel
theorem dJ8_hugeLength_7cf53_21 : decode cJ8_hugeLength_7cf53 21 = .ok (.invokevirtual 94, 3) := by decide +kernel
theorem dJ8_hugeLength_7cf53_24 : decode cJ8_hugeLength_7cf53 24 = .ok (.iload_n 0, 1) := by decide +kernel
theorem dJ8_hugeLength_7cf53_25 : decode cJ8_hugeLength_7cf53 25 = .ok (.invokevirtual 98, 3) := by decide +kernel
theorem dJ8_hugeLength_7cf53_28 : decode cJ8_hugeLength_7cf53 28 = .ok (.ldc 208, 2) := by decide +kernel
theorem dJ8_hugeLength_7cf53_30 : decode cJ8_hugeLength_7cf53 30 = .ok (.invokevirtual 94, 3) := by decide +kernel
theorem dJ8_hugeLength_7cf53_33 : decode cJ8_hugeLength_7cf53 33 = .ok (.iload_n 1, 1) := by decide +kernel
theorem dJ8_hugeLength_7cf53_34 : decode cJ8_hugeLength_7cf53 34 = .ok (.invokevirtual 98, 3) := by decide +kernel
theorem dJ8_hugeLength_7cf53_37 : decode cJ8_hugeLength_7cf53 37 = .ok (.ldc 210, 2) := by decide +kernel
theorem dJ8_hugeLength_7cf53_39 : decode cJ8_hugeLength_7cf53 39 = .ok (.invokevirtual 94, 3) := by decide +kernel
theorem dJ8_hugeLength_7cf53_42 : decode cJ8_hugeLength_7cf53 42 = .ok (.invokevirtual 101, 3) := by decide +kernel
theorem dJ8_hugeLength_7cf53_45 : decode cJ8_hugeLength_7cf53 45 = .ok (.invokespecial 212, 3) := by decide +kernel
theorem dJ8_hugeLength_7cf53_48 : decode cJ8_hugeLength_7cf53 48 = .ok (.athrow, 1) := by decide +kernel
theorem dJ8_hugeLength_7cf53_49 : decode cJ8_hugeLength_7cf53 49 = .ok (.iload_n 2, 1) := by decide +kernel
theorem dJ8_hugeLength_7cf53_50 : decode cJ8_hugeLength_7cf53 50 = .ok (.ldc 200, 2) := by decide +kernel
theorem dJ8_hugeLength_7cf53_52 : decode cJ8_hugeLength_7cf53 52 = .ok (.if_icmp .gt 6, 3) := by decide +kernel
theorem dJ8_hugeLength_7cf53_55 : decode cJ8_hugeLength_7cf53 55 = .ok (.ldc 200, 2) := by decide +kernel
theorem dJ8_hugeLength_7cf53_57 : decode cJ8_hugeLength_7cf53 57 = .ok (.ireturn, 1) := by decide +kernel
theorem dJ8_hugeLength_7cf53_58 : decode cJ8_hugeLength_7cf53 58 = .ok (.iload_n 2, 1) := by decide +kernel
theorem dJ8_hugeLength_7cf53_59 : decode cJ8_hugeLength_7cf53 59 = .ok (.ireturn, 1) := by decide +kernel
theorem dJ3_checkIndex_8e157_0 : decode cJ3_checkIndex_8e157 0 = .ok (.iload_n 0, 1) := by decide +kernel
theorem dJ3_checkIndex_8e157_1 : decode cJ3_checkIndex_8e157 1 = .ok (.ifCond .lt 8, 3) := by decide +kernel
theorem dJ3_checkIndex_8e157_4 : decode cJ3_checkIndex_8e157 4 = .ok (.iload_n 0, 1) := by decide +kernel
theorem dJ3_checkIndex_8e157_5 : decode cJ3_checkIndex_8e157 5 = .ok (.iload_n 1, 1) := by decide +kernel
theorem dJ3_checkIndex_8e157_6 : decode cJ3_checkIndex_8e157 6 = .ok (.if_icmp .lt 10, 3) := by decide +kernel
theorem dJ3_checkIndex_8e157_9 : decode cJ3_checkIndex_8e157 9 = .ok (.aload_n 2, 1) := by decide +kernel
theorem dJ3_checkIndex_8e157_10 : decode cJ3_checkIndex_8e157 10 = .ok (.iload_n 0, 1) := by decide +kernel
theorem dJ3_checkIndex_8e157_11 : decode cJ3_checkIndex_8e157 11 = .ok (.iload_n 1, 1) := by decide +kernel
theorem dJ3_checkIndex_8e157_12 : decode cJ3_checkIndex_8e157 12 = .ok (.invokestatic 95, 3) := by decide +kernel
theorem dJ3_checkIndex_8e157_15 : decode cJ3_checkIndex_8e157 15 = .ok (.athrow, 1) := by decide +kernel
theorem dJ3_checkIndex_8e157_16 : decode cJ3_checkIndex_8e157 16 = .ok (.iload_n 0, 1) := by decide +kernel
theorem dJ3_checkIndex_8e157_17 : decode cJ3_checkIndex_8e157 17 = .ok (.ireturn, 1) := by decide +kernel
theorem dJ3_checkFromToIndex_8c36e_0 : decode cJ3_checkFromToIndex_8c36e 0 = .ok (.iload_n 0, 1) := by decide +kernel
theorem dJ3_checkFromToIndex_8c36e_1 : decode cJ3_checkFromToIndex_8c36e 1 = .ok (.ifCond .lt 13, 3) := by decide +kernel
theorem dJ3_checkFromToIndex_8c36e_4 : decode cJ3_checkFromToIndex_8c36e 4 = .ok (.iload_n 0, 1) := by decide +kernel
theorem dJ3_checkFromToIndex_8c36e_5 : decode cJ3_checkFromToIndex_8c36e 5 = .ok (.iload_n 1, 1) := by decide +kernel
theorem dJ3_checkFromToIndex_8c36e_6 : decode cJ3_checkFromToIndex_8c36e 6 = .ok (.if_icmp .gt 8, 3) := by decide +kernel
theorem dJ3_checkFromToIndex_8c36e_9 : decode cJ3_checkFromToIndex_8c36e 9 = .ok (.iload_n 1, 1) := by decide +kernel
theorem dJ3_checkFromToIndex_8c36e_10 : decode cJ3_checkFromToIndex_8c36e 10 = .ok (.iload_n 2, 1) := by decide +kernel
theorem dJ3_checkFromToIndex_8c36e_11 : decode cJ3_checkFromToIndex_8c36e 11 = .ok (.if_icmp .le 11, 3) := by decide +kernel
theorem dJ3_checkFromToIndex_8c36e_14 : decode cJ3_checkFromToIndex_8c36e 14 = .ok (.aload_n 3, 1) := by decide +kernel
theorem dJ3_checkFromToIndex_8c36e_15 : decode cJ3_checkFromToIndex_8c36e 15 = .ok (.iload_n 0, 1) := by decide +kernel
theorem dJ3_checkFromToIndex_8c36e_16 : decode cJ3_checkFromToIndex_8c36e 16 = .ok (.iload_n 1, 1) := by decide +kernel
theorem dJ3_checkFromToIndex_8c36e_17 : decode cJ3_checkFromToIndex_8c36e 17 = .ok (.iload_n 2, 1) := by decide +kernel
theorem dJ3_checkFromToIndex_8c36e_18 : decode cJ3_checkFromToIndex_8c36e 18 = .ok (.invokestatic 99, 3) := by decide +kernel
theorem dJ3_checkFromToIndex_8c36e_21 : decode cJ3_checkFromToIndex_8c36e 21 = .ok (.athrow, 1) := by decide +kernel
theorem dJ3_checkFromToIndex_8c36e_22 : decode cJ3_checkFromToIndex_8c36e 22 = .ok (.iload_n 0, 1) := by decide +kernel
theorem dJ3_checkFromToIndex_8c36e_23 : decode cJ3_checkFromToIndex_8c36e 23 = .ok (.ireturn, 1) := by decide +kernel
theorem dJ3_checkFromIndexSize_8c36e_0 : decode cJ3_checkFromIndexSize_8c36e 0 = .ok (.iload_n 2, 1) := by decide +kernel
theorem dJ3_checkFromIndexSize_8c36e_1 : decode cJ3_checkFromIndexSize_8c36e 1 = .ok (.iload_n 0, 1) := by decide +kernel
theorem dJ3_checkFromIndexSize_8c36e_2 : decode cJ3_checkFromIndexSize_8c36e 2 = .ok (.ior, 1) := by decide +kernel
theorem dJ3_checkFromIndexSize_8c36e_3 : decode cJ3_checkFromIndexSize_8c36e 3 = .ok (.iload_n 1, 1) := by decide +kernel
theorem dJ3_checkFromIndexSize_8c36e_4 : decode cJ3_checkFromIndexSize_8c36e 4 = .ok (.ior, 1) := by decide +kernel
theorem dJ3_checkFromIndexSize_8c36e_5 : decode cJ3_checkFromIndexSize_8c36e 5 = .ok (.ifCond .lt 10, 3) := by decide +kernel
theorem dJ3_checkFromIndexSize_8c36e_8 : decode cJ3_checkFromIndexSize_8c36e 8 = .ok (.iload_n 1, 1) := by decide +kernel
theorem dJ3_checkFromIndexSize_8c36e_9 : decode cJ3_checkFromIndexSize_8c36e 9 = .ok (.iload_n 2, 1) := by decide +kernel
theorem dJ3_checkFromIndexSize_8c36e_10 : decode cJ3_checkFromIndexSize_8c36e 10 = .ok (.iload_n 0, 1) := by decide +kernel
theorem dJ3_checkFromIndexSize_8c36e_11 : decode cJ3_checkFromIndexSize_8c36e 11 = .ok (.isub, 1) := by decide +kernel
theorem dJ3_checkFromIndexSize_8c36e_12 : decode cJ3_checkFromIndexSize_8c36e 12 = .ok (.if_icmp .le 11, 3) := by decide +kernel
theorem dJ3_checkFromIndexSize_8c36e_15 : decode cJ3_checkFromIndexSize_8c36e 15 = .ok (.aload_n 3, 1) := by decide +kernel
theorem dJ3_checkFromIndexSize_8c36e_16 : decode cJ3_checkFromIndexSize_8c36e 16 = .ok (.iload_n 0, 1) := by decide +kernel
theorem dJ3_checkFromIndexSize_8c36e_17 : decode cJ3_checkFromIndexSize_8c36e 17 = .ok (.iload_n 1, 1) := by decide +kernel
theorem dJ3_checkFromIndexSize_8c36e_18 : decode cJ3_checkFromIndexSize_8c36e 18 = .ok (.iload_n 2, 1) := by decide +kernel
theorem dJ3_checkFromIndexSize_8c36e_19 : decode cJ3_checkFromIndexSize_8c36e 19 = .ok (.invokestatic 103, 3) := by decide +kernel
theorem dJ3_checkFromIndexSize_8c36e_22 : decode cJ3_checkFromIndexSize_8c36e 22 = .ok (.athrow, 1) := by decide +kernel
theorem dJ3_checkFromIndexSize_8c36e_23 : decode cJ3_checkFromIndexSize_8c36e 23 = .ok (.iload_n 0, 1) := by decide +kernel
theorem dJ3_checkFromIndexSize_8c36e_24 : decode cJ3_checkFromIndexSize_8c36e 24 = .ok (.ireturn, 1) := by decide +kernel
theorem dL_below_0 : decode cL_below 0 = .ok (.iload_n 0, 1) := by decide +kernel
theorem dL_below_1 : decode cL_below 1 = .ok (.ldc 7, 2) := by decide +kernel
theorem dL_below_3 : decode cL_below 3 = .ok (.iand, 1) := by decide +kernel
theorem dL_below_4 : decode cL_below 4 = .ok (.iload_n 1, 1) := by decide +kernel
theorem dL_below_5 : decode cL_below 5 = .ok (.irem, 1) := by decide +kernel
theorem dL_below_6 : decode cL_below 6 = .ok (.ireturn, 1) := by decide +kernel
theorem dL_cell_0 : decode cL_cell 0 = .ok (.iload_n 1, 1) := by decide +kernel
theorem dL_cell_1 : decode cL_cell 1 = .ok (.aload_n 0, 1) := by decide +kernel
theorem dL_cell_2 : decode cL_cell 2 = .ok (.arraylength, 1) := by decide +kernel
theorem dL_cell_3 : decode cL_cell 3 = .ok (.if_icmp .ge 9, 3) := by decide +kernel
theorem dL_cell_6 : decode cL_cell 6 = .ok (.aload_n 0, 1) := by decide +kernel
theorem dL_cell_7 : decode cL_cell 7 = .ok (.iload_n 1, 1) := by decide +kernel
theorem dL_cell_8 : decode cL_cell 8 = .ok (.iaload, 1) := by decide +kernel
theorem dL_cell_9 : decode cL_cell 9 = .ok (.goto 9, 3) := by decide +kernel
theorem dL_cell_12 : decode cL_cell 12 = .ok (.ldc 8, 2) := by decide +kernel
theorem dL_cell_14 : decode cL_cell 14 = .ok (.iload_n 1, 1) := by decide +kernel
theorem dL_cell_15 : decode cL_cell 15 = .ok (.iconst 3, 1) := by decide +kernel
theorem dL_cell_16 : decode cL_cell 16 = .ok (.iadd, 1) := by decide +kernel
theorem dL_cell_17 : decode cL_cell 17 = .ok (.imul, 1) := by decide +kernel
theorem dL_cell_18 : decode cL_cell 18 = .ok (.ireturn, 1) := by decide +kernel
theorem dL_taught_0 : decode cL_taught 0 = .ok (.iconst 5, 1) := by decide +kernel
theorem dL_taught_1 : decode cL_taught 1 = .ok (.newarray .int, 2) := by decide +kernel
theorem dL_taught_3 : decode cL_taught 3 = .ok (.astore_n 2, 1) := by decide +kernel
theorem dL_taught_4 : decode cL_taught 4 = .ok (.aload_n 0, 1) := by decide +kernel
theorem dL_taught_5 : decode cL_taught 5 = .ok (.iconst 0, 1) := by decide +kernel
theorem dL_taught_6 : decode cL_taught 6 = .ok (.invokevirtual 9, 3) := by decide +kernel
theorem dL_taught_9 : decode cL_taught 9 = .ok (.pop, 1) := by decide +kernel
theorem dL_taught_10 : decode cL_taught 10 = .ok (.iconst 0, 1) := by decide +kernel
theorem dL_taught_11 : decode cL_taught 11 = .ok (.istore_n 3, 1) := by decide +kernel
theorem dL_taught_12 : decode cL_taught 12 = .ok (.iload_n 3, 1) := by decide +kernel
theorem dL_taught_13 : decode cL_taught 13 = .ok (.aload_n 1, 1) := by decide +kernel
theorem dL_taught_14 : decode cL_taught 14 = .ok (.invokevirtual 15, 3) := by decide +kernel
theorem dL_taught_17 : decode cL_taught 17 = .ok (.if_icmp .ge 108, 3) := by decide +kernel
theorem dL_taught_20 : decode cL_taught 20 = .ok (.iconst 0, 1) := by decide +kernel
theorem dL_taught_21 : decode cL_taught 21 = .ok (.istore 4, 2) := by decide +kernel
theorem dL_taught_23 : decode cL_taught 23 = .ok (.iload 4, 2) := by decide +kernel
theorem dL_taught_25 : decode cL_taught 25 = .ok (.iconst 5, 1) := by decide +kernel
theorem dL_taught_26 : decode cL_taught 26 = .ok (.if_icmp .ge 73, 3) := by decide +kernel
theorem dL_taught_29 : decode cL_taught 29 = .ok (.aload_n 2, 1) := by decide +kernel
theorem dL_taught_30 : decode cL_taught 30 = .ok (.iload 4, 2) := by decide +kernel
theorem dL_taught_32 : decode cL_taught 32 = .ok (.iconst 0, 1) := by decide +kernel
theorem dL_taught_33 : decode cL_taught 33 = .ok (.iastore, 1) := by decide +kernel
theorem dL_taught_34 : decode cL_taught 34 = .ok (.iload_n 3, 1) := by decide +kernel
theorem dL_taught_35 : decode cL_taught 35 = .ok (.iconst 4, 1) := by decide +kernel
theorem dL_taught_36 : decode cL_taught 36 = .ok (.iload 4, 2) := by decide +kernel
theorem dL_taught_38 : decode cL_taught 38 = .ok (.imul, 1) := by decide +kernel
theorem dL_taught_39 : decode cL_taught 39 = .ok (.iadd, 1) := by decide +kernel
theorem dL_taught_40 : decode cL_taught 40 = .ok (.istore 5, 2) := by decide +kernel
theorem dL_taught_42 : decode cL_taught 42 = .ok (.iload 5, 2) := by decide +kernel
theorem dL_taught_44 : decode cL_taught 44 = .ok (.iload_n 3, 1) := by decide +kernel
theorem dL_taught_45 : decode cL_taught 45 = .ok (.iconst 4, 1) := by decide +kernel
theorem dL_taught_46 : decode cL_taught 46 = .ok (.iload 4, 2) := by decide +kernel
theorem dL_taught_48 : decode cL_taught 48 = .ok (.imul, 1) := by decide +kernel
theorem dL_taught_49 : decode cL_taught 49 = .ok (.iadd, 1) := by decide +kernel
theorem dL_taught_50 : decode cL_taught 50 = .ok (.iconst 4, 1) := by decide +kernel
theorem dL_taught_51 : decode cL_taught 51 = .ok (.iadd, 1) := by decide +kernel
theorem dL_taught_52 : decode cL_taught 52 = .ok (.if_icmp .ge 41, 3) := by decide +kernel
theorem dL_taught_55 : decode cL_taught 55 = .ok (.aload_n 2, 1) := by decide +kernel
theorem dL_taught_56 : decode cL_taught 56 = .ok (.iload 4, 2) := by decide +kernel
theorem dL_taught_58 : decode cL_taught 58 = .ok (.aload_n 2, 1) := by decide +kernel
theorem dL_taught_59 : decode cL_taught 59 = .ok (.iload 4, 2) := by decide +kernel
theorem dL_taught_61 : decode cL_taught 61 = .ok (.iaload, 1) := by decide +kernel
theorem dL_taught_62 : decode cL_taught 62 = .ok (.bipush 8, 2) := by decide +kernel
theorem dL_taught_64 : decode cL_taught 64 = .ok (.ishl, 1) := by decide +kernel
theorem dL_taught_65 : decode cL_taught 65 = .ok (.iload 5, 2) := by decide +kernel
theorem dL_taught_67 : decode cL_taught 67 = .ok (.aload_n 1, 1) := by decide +kernel
theorem dL_taught_68 : decode cL_taught 68 = .ok (.invokevirtual 15, 3) := by decide +kernel
theorem dL_taught_71 : decode cL_taught 71 = .ok (.if_icmp .ge 12, 3) := by decide +kernel
theorem dL_taught_74 : decode cL_taught 74 = .ok (.aload_n 1, 1) := by decide +kernel
theorem dL_taught_75 : decode cL_taught 75 = .ok (.iload 5, 2) := by decide +kernel
theorem dL_taught_77 : decode cL_taught 77 = .ok (.invokevirtual 21, 3) := by decide +kernel
theorem dL_taught_80 : decode cL_taught 80 = .ok (.goto 5, 3) := by decide +kernel
theorem dL_taught_83 : decode cL_taught 83 = .ok (.bipush 32, 2) := by decide +kernel
theorem dL_taught_85 : decode cL_taught 85 = .ok (.ior, 1) := by decide +kernel
theorem dL_taught_86 : decode cL_taught 86 = .ok (.iastore, 1) := by decide +kernel
theorem dL_taught_87 : decode cL_taught 87 = .ok (.iinc 5 1, 3) := by decide +kernel
theorem dL_taught_90 : decode cL_taught 90 = .ok (.goto (-48), 3) := by decide +kernel
theorem dL_taught_93 : decode cL_taught 93 = .ok (.iinc 4 1, 3) := by decide +kernel
theorem dL_taught_96 : decode cL_taught 96 = .ok (.goto (-73), 3) := by decide +kernel
theorem dL_taught_99 : decode cL_taught 99 = .ok (.aload_n 0, 1) := by decide +kernel
theorem dL_taught_100 : decode cL_taught 100 = .ok (.aload_n 2, 1) := by decide +kernel
theorem dL_taught_101 : decode cL_taught 101 = .ok (.iconst 0, 1) := by decide +kernel
theorem dL_taught_102 : decode cL_taught 102 = .ok (.iaload, 1) := by decide +kernel
theorem dL_taught_103 : decode cL_taught 103 = .ok (.aload_n 2, 1) := by decide +kernel
theorem dL_taught_104 : decode cL_taught 104 = .ok (.iconst 1, 1) := by decide +kernel
theorem dL_taught_105 : decode cL_taught 105 = .ok (.iaload, 1) := by decide +kernel
theorem dL_taught_106 : decode cL_taught 106 = .ok (.aload_n 2, 1) := by decide +kernel
theorem dL_taught_107 : decode cL_taught 107 = .ok (.iconst 2, 1) := by decide +kernel
theorem dL_taught_108 : decode cL_taught 108 = .ok (.iaload, 1) := by decide +kernel
theorem dL_taught_109 : decode cL_taught 109 = .ok (.aload_n 2, 1) := by decide +kernel
theorem dL_taught_110 : decode cL_taught 110 = .ok (.iconst 3, 1) := by decide +kernel
theorem dL_taught_111 : decode cL_taught 111 = .ok (.iaload, 1) := by decide +kernel
theorem dL_taught_112 : decode cL_taught 112 = .ok (.aload_n 2, 1) := by decide +kernel
theorem dL_taught_113 : decode cL_taught 113 = .ok (.iconst 4, 1) := by decide +kernel
theorem dL_taught_114 : decode cL_taught 114 = .ok (.iaload, 1) := by decide +kernel
theorem dL_taught_115 : decode cL_taught 115 = .ok (.invokevirtual 25, 3) := by decide +kernel
theorem dL_taught_118 : decode cL_taught 118 = .ok (.pop, 1) := by decide +kernel
theorem dL_taught_119 : decode cL_taught 119 = .ok (.iinc 3 20, 3) := by decide +kernel
theorem dL_taught_122 : decode cL_taught 122 = .ok (.goto (-110), 3) := by decide +kernel
theorem dL_taught_125 : decode cL_taught 125 = .ok (.aload_n 0, 1) := by decide +kernel
theorem dL_taught_126 : decode cL_taught 126 = .ok (.aload_n 1, 1) := by decide +kernel
theorem dL_taught_127 : decode cL_taught 127 = .ok (.invokevirtual 15, 3) := by decide +kernel
theorem dL_taught_130 : decode cL_taught 130 = .ok (.invokevirtual 9, 3) := by decide +kernel
theorem dL_taught_133 : decode cL_taught 133 = .ok (.pop, 1) := by decide +kernel
theorem dL_taught_134 : decode cL_taught 134 = .ok (.aload_n 0, 1) := by decide +kernel
theorem dL_taught_135 : decode cL_taught 135 = .ok (.invokevirtual 29, 3) := by decide +kernel
theorem dL_taught_138 : decode cL_taught 138 = .ok (.ireturn, 1) := by decide +kernel
theorem dL_nameOf_0 : decode cL_nameOf 0 = .ok (.iload_n 0, 1) := by decide +kernel
theorem dL_nameOf_1 : decode cL_nameOf 1 = .ok (.invokestatic 32, 3) := by decide +kernel
theorem dL_nameOf_4 : decode cL_nameOf 4 = .ok (.bipush 11, 2) := by decide +kernel
theorem dL_nameOf_6 : decode cL_nameOf 6 = .ok (.idiv, 1) := by decide +kernel
theorem dL_nameOf_7 : decode cL_nameOf 7 = .ok (.istore_n 1, 1) := by decide +kernel
theorem dL_nameOf_8 : decode cL_nameOf 8 = .ok (.iload_n 0, 1) := by decide +kernel
theorem dL_nameOf_9 : decode cL_nameOf 9 = .ok (.iconst 1, 1) := by decide +kernel
theorem dL_nameOf_10 : decode cL_nameOf 10 = .ok (.iadd, 1) := by decide +kernel
theorem dL_nameOf_11 : decode cL_nameOf 11 = .ok (.istore_n 2, 1) := by decide +kernel
theorem dL_nameOf_12 : decode cL_nameOf 12 = .ok (.iconst 0, 1) := by decide +kernel
theorem dL_nameOf_13 : decode cL_nameOf 13 = .ok (.istore_n 3, 1) := by decide +kernel
theorem dL_nameOf_14 : decode cL_nameOf 14 = .ok (.iload_n 3, 1) := by decide +kernel
theorem dL_nameOf_15 : decode cL_nameOf 15 = .ok (.iload_n 1, 1) := by decide +kernel
theorem dL_nameOf_16 : decode cL_nameOf 16 = .ok (.if_icmp .ge 21, 3) := by decide +kernel
theorem dL_nameOf_19 : decode cL_nameOf 19 = .ok (.iload_n 2, 1) := by decide +kernel
theorem dL_nameOf_20 : decode cL_nameOf 20 = .ok (.bipush 11, 2) := by decide +kernel
theorem dL_nameOf_22 : decode cL_nameOf 22 = .ok (.iload_n 3, 1) := by decide +kernel
theorem dL_nameOf_23 : decode cL_nameOf 23 = .ok (.iconst 5, 1) := by decide +kernel
theorem dL_nameOf_24 : decode cL_nameOf 24 = .ok (.isub, 1) := by decide +kernel
theorem dL_nameOf_25 : decode cL_nameOf 25 = .ok (.invokestatic 37, 3) := by decide +kernel
theorem dL_nameOf_28 : decode cL_nameOf 28 = .ok (.isub, 1) := by decide +kernel
theorem dL_nameOf_29 : decode cL_nameOf 29 = .ok (.isub, 1) := by decide +kernel
theorem dL_nameOf_30 : decode cL_nameOf 30 = .ok (.istore_n 2, 1) := by decide +kernel
theorem dL_nameOf_31 : decode cL_nameOf 31 = .ok (.iinc 3 1, 3) := by decide +kernel
theorem dL_nameOf_34 : decode cL_nameOf 34 = .ok (.goto (-20), 3) := by decide +kernel
theorem dL_nameOf_37 : decode cL_nameOf 37 = .ok (.new 42, 3) := by decide +kernel
theorem dL_nameOf_40 : decode cL_nameOf 40 = .ok (.dup, 1) := by decide +kernel
theorem dL_nameOf_41 : decode cL_nameOf 41 = .ok (.invokespecial 44, 3) := by decide +kernel
theorem dL_nameOf_44 : decode cL_nameOf 44 = .ok (.bipush 97, 2) := by decide +kernel
theorem dL_nameOf_46 : decode cL_nameOf 46 = .ok (.iload_n 1, 1) := by decide +kernel
theorem dL_nameOf_47 : decode cL_nameOf 47 = .ok (.iadd, 1) := by decide +kernel
theorem dL_nameOf_48 : decode cL_nameOf 48 = .ok (.i2c, 1) := by decide +kernel
theorem dL_nameOf_49 : decode cL_nameOf 49 = .ok (.invokevirtual 45, 3) := by decide +kernel
theorem dL_nameOf_52 : decode cL_nameOf 52 = .ok (.ldc 49, 2) := by decide +kernel
theorem dL_nameOf_54 : decode cL_nameOf 54 = .ok (.invokevirtual 51, 3) := by decide +kernel
theorem dL_nameOf_57 : decode cL_nameOf 57 = .ok (.iload_n 2, 1) := by decide +kernel
theorem dL_nameOf_58 : decode cL_nameOf 58 = .ok (.invokevirtual 54, 3) := by decide +kernel
theorem dL_nameOf_61 : decode cL_nameOf 61 = .ok (.invokevirtual 57, 3) := by decide +kernel
theorem dL_nameOf_64 : decode cL_nameOf 64 = .ok (.areturn, 1) := by decide +kernel
theorem dL_list_0 : decode cL_list 0 = .ok (.bipush 6, 2) := by decide +kernel
theorem dL_list_2 : decode cL_list 2 = .ok (.anewarray 16, 3) := by decide +kernel
theorem dL_list_5 : decode cL_list 5 = .ok (.dup, 1) := by decide +kernel
theorem dL_list_6 : decode cL_list 6 = .ok (.iconst 0, 1) := by decide +kernel
theorem dL_list_7 : decode cL_list 7 = .ok (.ldc 61, 2) := by decide +kernel
theorem dL_list_9 : decode cL_list 9 = .ok (.aastore, 1) := by decide +kernel
theorem dL_list_10 : decode cL_list 10 = .ok (.dup, 1) := by decide +kernel
theorem dL_list_11 : decode cL_list 11 = .ok (.iconst 1, 1) := by decide +kernel
theorem dL_list_12 : decode cL_list 12 = .ok (.ldc 63, 2) := by decide +kernel
theorem dL_list_14 : decode cL_list 14 = .ok (.aastore, 1) := by decide +kernel
theorem dL_list_15 : decode cL_list 15 = .ok (.dup, 1) := by decide +kernel
theorem dL_list_16 : decode cL_list 16 = .ok (.iconst 2, 1) := by decide +kernel
theorem dL_list_17 : decode cL_list 17 = .ok (.ldc 65, 2) := by decide +kernel
theorem dL_list_19 : decode cL_list 19 = .ok (.aastore, 1) := by decide +kernel
theorem dL_list_20 : decode cL_list 20 = .ok (.dup, 1) := by decide +kernel
theorem dL_list_21 : decode cL_list 21 = .ok (.iconst 3, 1) := by decide +kernel
theorem dL_list_22 : decode cL_list 22 = .ok (.ldc 67, 2) := by decide +kernel
theorem dL_list_24 : decode cL_list 24 = .ok (.aastore, 1) := by decide +kernel
theorem dL_list_25 : decode cL_list 25 = .ok (.dup, 1) := by decide +kernel
theorem dL_list_26 : decode cL_list 26 = .ok (.iconst 4, 1) := by decide +kernel
theorem dL_list_27 : decode cL_list 27 = .ok (.ldc 69, 2) := by decide +kernel
theorem dL_list_29 : decode cL_list 29 = .ok (.aastore, 1) := by decide +kernel
theorem dL_list_30 : decode cL_list 30 = .ok (.dup, 1) := by decide +kernel
theorem dL_list_31 : decode cL_list 31 = .ok (.iconst 5, 1) := by decide +kernel
theorem dL_list_32 : decode cL_list 32 = .ok (.ldc 71, 2) := by decide +kernel
theorem dL_list_34 : decode cL_list 34 = .ok (.aastore, 1) := by decide +kernel
theorem dL_list_35 : decode cL_list 35 = .ok (.astore_n 2, 1) := by decide +kernel
theorem dL_list_36 : decode cL_list 36 = .ok (.new 33, 3) := by decide +kernel
theorem dL_list_39 : decode cL_list 39 = .ok (.dup, 1) := by decide +kernel
theorem dL_list_40 : decode cL_list 40 = .ok (.invokespecial 73, 3) := by decide +kernel
theorem dL_list_43 : decode cL_list 43 = .ok (.astore_n 3, 1) := by decide +kernel
theorem dL_list_44 : decode cL_list 44 = .ok (.aload_n 0, 1) := by decide +kernel
theorem dL_list_45 : decode cL_list 45 = .ok (.iconst 0, 1) := by decide +kernel
theorem dL_list_46 : decode cL_list 46 = .ok (.invokestatic 74, 3) := by decide +kernel
theorem dL_list_49 : decode cL_list 49 = .ok (.iconst 4, 1) := by decide +kernel
theorem dL_list_50 : decode cL_list 50 = .ok (.invokestatic 80, 3) := by decide +kernel
theorem dL_list_53 : decode cL_list 53 = .ok (.ifCond .ne 16, 3) := by decide +kernel
theorem dL_list_56 : decode cL_list 56 = .ok (.aload_n 1, 1) := by decide +kernel
theorem dL_list_57 : decode cL_list 57 = .ok (.ldc 84, 2) := by decide +kernel
theorem dL_list_59 : decode cL_list 59 = .ok (.invokevirtual 51, 3) := by decide +kernel
theorem dL_list_62 : decode cL_list 62 = .ok (.pop, 1) := by decide +kernel
theorem dL_list_63 : decode cL_list 63 = .ok (.aload_n 3, 1) := by decide +kernel
theorem dL_list_64 : decode cL_list 64 = .ok (.invokestatic 86, 3) := by decide +kernel
theorem dL_list_67 : decode cL_list 67 = .ok (.aload_n 3, 1) := by decide +kernel
theorem dL_list_68 : decode cL_list 68 = .ok (.areturn, 1) := by decide +kernel
theorem dL_list_69 : decode cL_list 69 = .ok (.iconst 3, 1) := by decide +kernel
theorem dL_list_70 : decode cL_list 70 = .ok (.aload_n 0, 1) := by decide +kernel
theorem dL_list_71 : decode cL_list 71 = .ok (.iconst 1, 1) := by decide +kernel
theorem dL_list_72 : decode cL_list 72 = .ok (.invokestatic 74, 3) := by decide +kernel
theorem dL_list_75 : decode cL_list 75 = .ok (.bipush 9, 2) := by decide +kernel
theorem dL_list_77 : decode cL_list 77 = .ok (.invokestatic 80, 3) := by decide +kernel
theorem dL_list_80 : decode cL_list 80 = .ok (.iadd, 1) := by decide +kernel
theorem dL_list_81 : decode cL_list 81 = .ok (.istore 4, 2) := by decide +kernel
theorem dL_list_83 : decode cL_list 83 = .ok (.iconst 0, 1) := by decide +kernel
theorem dL_list_84 : decode cL_list 84 = .ok (.istore 5, 2) := by decide +kernel
theorem dL_list_86 : decode cL_list 86 = .ok (.iload 5, 2) := by decide +kernel
theorem dL_list_88 : decode cL_list 88 = .ok (.iload 4, 2) := by decide +kernel
theorem dL_list_90 : decode cL_list 90 = .ok (.if_icmp .ge 224, 3) := by decide +kernel
theorem dL_list_93 : decode cL_list 93 = .ok (.aload_n 0, 1) := by decide +kernel
theorem dL_list_94 : decode cL_list 94 = .ok (.iconst 2, 1) := by decide +kernel
theorem dL_list_95 : decode cL_list 95 = .ok (.iload 5, 2) := by decide +kernel
theorem dL_list_97 : decode cL_list 97 = .ok (.bipush 12, 2) := by decide +kernel
theorem dL_list_99 : decode cL_list 99 = .ok (.irem, 1) := by decide +kernel
theorem dL_list_100 : decode cL_list 100 = .ok (.iadd, 1) := by decide +kernel
theorem dL_list_101 : decode cL_list 101 = .ok (.invokestatic 74, 3) := by decide +kernel
theorem dL_list_104 : decode cL_list 104 = .ok (.iload 5, 2) := by decide +kernel
theorem dL_list_106 : decode cL_list 106 = .ok (.bipush 12, 2) := by decide +kernel
theorem dL_list_108 : decode cL_list 108 = .ok (.idiv, 1) := by decide +kernel
theorem dL_list_109 : decode cL_list 109 = .ok (.bipush 6, 2) := by decide +kernel
theorem dL_list_111 : decode cL_list 111 = .ok (.imul, 1) := by decide +kernel
theorem dL_list_112 : decode cL_list 112 = .ok (.ishr, 1) := by decide +kernel
theorem dL_list_113 : decode cL_list 113 = .ok (.sipush 211, 3) := by decide +kernel
theorem dL_list_116 : decode cL_list 116 = .ok (.iload 5, 2) := by decide +kernel
theorem dL_list_118 : decode cL_list 118 = .ok (.imul, 1) := by decide +kernel
theorem dL_list_119 : decode cL_list 119 = .ok (.iadd, 1) := by decide +kernel
theorem dL_list_120 : decode cL_list 120 = .ok (.istore 6, 2) := by decide +kernel
theorem dL_list_122 : decode cL_list 122 = .ok (.iload 5, 2) := by decide +kernel
theorem dL_list_124 : decode cL_list 124 = .ok (.iconst 2, 1) := by decide +kernel
theorem dL_list_125 : decode cL_list 125 = .ok (.if_icmp .ge 8, 3) := by decide +kernel
theorem dL_list_128 : decode cL_list 128 = .ok (.iload 5, 2) := by decide +kernel
theorem dL_list_130 : decode cL_list 130 = .ok (.goto 11, 3) := by decide +kernel
theorem dL_list_133 : decode cL_list 133 = .ok (.iload 6, 2) := by decide +kernel
theorem dL_list_135 : decode cL_list 135 = .ok (.iconst 2, 1) := by decide +kernel
theorem dL_list_136 : decode cL_list 136 = .ok (.ishr, 1) := by decide +kernel
theorem dL_list_137 : decode cL_list 137 = .ok (.iconst 2, 1) := by decide +kernel
theorem dL_list_138 : decode cL_list 138 = .ok (.invokestatic 80, 3) := by decide +kernel
theorem dL_list_141 : decode cL_list 141 = .ok (.istore 7, 2) := by decide +kernel
theorem dL_list_143 : decode cL_list 143 = .ok (.iload 5, 2) := by decide +kernel
theorem dL_list_145 : decode cL_list 145 = .ok (.iconst 2, 1) := by decide +kernel
theorem dL_list_146 : decode cL_list 146 = .ok (.if_icmp .ge 7, 3) := by decide +kernel
theorem dL_list_149 : decode cL_list 149 = .ok (.iconst 1, 1) := by decide +kernel
theorem dL_list_150 : decode cL_list 150 = .ok (.goto 13, 3) := by decide +kernel
theorem dL_list_153 : decode cL_list 153 = .ok (.iconst 2, 1) := by decide +kernel
theorem dL_list_154 : decode cL_list 154 = .ok (.iload 6, 2) := by decide +kernel
theorem dL_list_156 : decode cL_list 156 = .ok (.iconst 3, 1) := by decide +kernel
theorem dL_list_157 : decode cL_list 157 = .ok (.ishr, 1) := by decide +kernel
theorem dL_list_158 : decode cL_list 158 = .ok (.iconst 5, 1) := by decide +kernel
theorem dL_list_159 : decode cL_list 159 = .ok (.invokestatic 80, 3) := by decide +kernel
theorem dL_list_162 : decode cL_list 162 = .ok (.iadd, 1) := by decide +kernel
theorem dL_list_163 : decode cL_list 163 = .ok (.istore 8, 2) := by decide +kernel
theorem dL_list_165 : decode cL_list 165 = .ok (.iload 5, 2) := by decide +kernel
theorem dL_list_167 : decode cL_list 167 = .ok (.iconst 1, 1) := by decide +kernel
theorem dL_list_168 : decode cL_list 168 = .ok (.if_icmp .le 19, 3) := by decide +kernel
theorem dL_list_171 : decode cL_list 171 = .ok (.iload 6, 2) := by decide +kernel
theorem dL_list_173 : decode cL_list 173 = .ok (.bipush 7, 2) := by decide +kernel
theorem dL_list_175 : decode cL_list 175 = .ok (.ishr, 1) := by decide +kernel
theorem dL_list_176 : decode cL_list 176 = .ok (.iconst 3, 1) := by decide +kernel
theorem dL_list_177 : decode cL_list 177 = .ok (.invokestatic 80, 3) := by decide +kernel
theorem dL_list_180 : decode cL_list 180 = .ok (.ifCond .ne 7, 3) := by decide +kernel
theorem dL_list_183 : decode cL_list 183 = .ok (.bipush 6, 2) := by decide +kernel
theorem dL_list_185 : decode cL_list 185 = .ok (.istore 8, 2) := by decide +kernel
theorem dL_list_187 : decode cL_list 187 = .ok (.iload 8, 2) := by decide +kernel
theorem dL_list_189 : decode cL_list 189 = .ok (.bipush 6, 2) := by decide +kernel
theorem dL_list_191 : decode cL_list 191 = .ok (.if_icmp .ne 18, 3) := by decide +kernel
theorem dL_list_194 : decode cL_list 194 = .ok (.bipush 20, 2) := by decide +kernel
theorem dL_list_196 : decode cL_list 196 = .ok (.iload 6, 2) := by decide +kernel
theorem dL_list_198 : decode cL_list 198 = .ok (.iconst 5, 1) := by decide +kernel
theorem dL_list_199 : decode cL_list 199 = .ok (.ishr, 1) := by decide +kernel
theorem dL_list_200 : decode cL_list 200 = .ok (.bipush 50, 2) := by decide +kernel
theorem dL_list_202 : decode cL_list 202 = .ok (.invokestatic 80, 3) := by decide +kernel
theorem dL_list_205 : decode cL_list 205 = .ok (.iadd, 1) := by decide +kernel
theorem dL_list_206 : decode cL_list 206 = .ok (.goto 12, 3) := by decide +kernel
theorem dL_list_209 : decode cL_list 209 = .ok (.iload 6, 2) := by decide +kernel
theorem dL_list_211 : decode cL_list 211 = .ok (.iconst 4, 1) := by decide +kernel
theorem dL_list_212 : decode cL_list 212 = .ok (.ishr, 1) := by decide +kernel
theorem dL_list_213 : decode cL_list 213 = .ok (.bipush 91, 2) := by decide +kernel
theorem dL_list_215 : decode cL_list 215 = .ok (.invokestatic 80, 3) := by decide +kernel
theorem dL_list_218 : decode cL_list 218 = .ok (.istore 9, 2) := by decide +kernel
theorem dL_list_220 : decode cL_list 220 = .ok (.aload_n 3, 1) := by decide +kernel
theorem dL_list_221 : decode cL_list 221 = .ok (.getfield 90, 3) := by decide +kernel
theorem dL_list_224 : decode cL_list 224 = .ok (.iload 9, 2) := by decide +kernel
theorem dL_list_226 : decode cL_list 226 = .ok (.invokestatic 32, 3) := by decide +kernel
theorem dL_list_229 : decode cL_list 229 = .ok (.iaload, 1) := by decide +kernel
theorem dL_list_230 : decode cL_list 230 = .ok (.ifCond .eq 6, 3) := by decide +kernel
theorem dL_list_233 : decode cL_list 233 = .ok (.goto 75, 3) := by decide +kernel
theorem dL_list_236 : decode cL_list 236 = .ok (.aload_n 3, 1) := by decide +kernel
theorem dL_list_237 : decode cL_list 237 = .ok (.getfield 90, 3) := by decide +kernel
theorem dL_list_240 : decode cL_list 240 = .ok (.iload 9, 2) := by decide +kernel
theorem dL_list_242 : decode cL_list 242 = .ok (.invokestatic 32, 3) := by decide +kernel
theorem dL_list_245 : decode cL_list 245 = .ok (.iload 7, 2) := by decide +kernel
theorem dL_list_247 : decode cL_list 247 = .ok (.ifCond .ne 8, 3) := by decide +kernel
theorem dL_list_250 : decode cL_list 250 = .ok (.iload 8, 2) := by decide +kernel
theorem dL_list_252 : decode cL_list 252 = .ok (.goto 6, 3) := by decide +kernel
theorem dL_list_255 : decode cL_list 255 = .ok (.iload 8, 2) := by decide +kernel
theorem dL_list_257 : decode cL_list 257 = .ok (.ineg, 1) := by decide +kernel
theorem dL_list_258 : decode cL_list 258 = .ok (.iastore, 1) := by decide +kernel
theorem dL_list_259 : decode cL_list 259 = .ok (.aload_n 1, 1) := by decide +kernel
theorem dL_list_260 : decode cL_list 260 = .ok (.ldc 94, 2) := by decide +kernel
theorem dL_list_262 : decode cL_list 262 = .ok (.invokevirtual 51, 3) := by decide +kernel
theorem dL_list_265 : decode cL_list 265 = .ok (.iload 7, 2) := by decide +kernel
theorem dL_list_267 : decode cL_list 267 = .ok (.ifCond .ne 8, 3) := by decide +kernel
theorem dL_list_270 : decode cL_list 270 = .ok (.ldc 96, 2) := by decide +kernel
theorem dL_list_272 : decode cL_list 272 = .ok (.goto 5, 3) := by decide +kernel
theorem dL_list_275 : decode cL_list 275 = .ok (.ldc 98, 2) := by decide +kernel
theorem dL_list_277 : decode cL_list 277 = .ok (.invokevirtual 51, 3) := by decide +kernel
theorem dL_list_280 : decode cL_list 280 = .ok (.aload_n 2, 1) := by decide +kernel
theorem dL_list_281 : decode cL_list 281 = .ok (.iload 8, 2) := by decide +kernel
theorem dL_list_283 : decode cL_list 283 = .ok (.iconst 1, 1) := by decide +kernel
theorem dL_list_284 : decode cL_list 284 = .ok (.isub, 1) := by decide +kernel
theorem dL_list_285 : decode cL_list 285 = .ok (.aaload, 1) := by decide +kernel
theorem dL_list_286 : decode cL_list 286 = .ok (.invokevirtual 51, 3) := by decide +kernel
theorem dL_list_289 : decode cL_list 289 = .ok (.ldc 100, 2) := by decide +kernel
theorem dL_list_291 : decode cL_list 291 = .ok (.invokevirtual 51, 3) := by decide +kernel
theorem dL_list_294 : decode cL_list 294 = .ok (.iload 9, 2) := by decide +kernel
theorem dL_list_296 : decode cL_list 296 = .ok (.invokestatic 102, 3) := by decide +kernel
theorem dL_list_299 : decode cL_list 299 = .ok (.invokevirtual 51, 3) := by decide +kernel
theorem dL_list_302 : decode cL_list 302 = .ok (.ldc 106, 2) := by decide +kernel
theorem dL_list_304 : decode cL_list 304 = .ok (.invokevirtual 51, 3) := by decide +kernel
theorem dL_list_307 : decode cL_list 307 = .ok (.pop, 1) := by decide +kernel
theorem dL_list_308 : decode cL_list 308 = .ok (.iinc 5 1, 3) := by decide +kernel
theorem dL_list_311 : decode cL_list 311 = .ok (.goto (-225), 3) := by decide +kernel
theorem dL_list_314 : decode cL_list 314 = .ok (.aload_n 0, 1) := by decide +kernel
theorem dL_list_315 : decode cL_list 315 = .ok (.iconst 1, 1) := by decide +kernel
theorem dL_list_316 : decode cL_list 316 = .ok (.invokestatic 74, 3) := by decide +kernel
theorem dL_list_319 : decode cL_list 319 = .ok (.iconst 5, 1) := by decide +kernel
theorem dL_list_320 : decode cL_list 320 = .ok (.ishr, 1) := by decide +kernel
theorem dL_list_321 : decode cL_list 321 = .ok (.iconst 2, 1) := by decide +kernel
theorem dL_list_322 : decode cL_list 322 = .ok (.invokestatic 80, 3) := by decide +kernel
theorem dL_list_325 : decode cL_list 325 = .ok (.iconst 1, 1) := by decide +kernel
theorem dL_list_326 : decode cL_list 326 = .ok (.if_icmp .ne 15, 3) := by decide +kernel
theorem dL_list_329 : decode cL_list 329 = .ok (.aload_n 1, 1) := by decide +kernel
theorem dL_list_330 : decode cL_list 330 = .ok (.ldc 108, 2) := by decide +kernel
theorem dL_list_332 : decode cL_list 332 = .ok (.invokevirtual 51, 3) := by decide +kernel
theorem dL_list_335 : decode cL_list 335 = .ok (.pop, 1) := by decide +kernel
theorem dL_list_336 : decode cL_list 336 = .ok (.aload_n 3, 1) := by decide +kernel
theorem dL_list_337 : decode cL_list 337 = .ok (.iconst 1, 1) := by decide +kernel
theorem dL_list_338 : decode cL_list 338 = .ok (.putfield 110, 3) := by decide +kernel
theorem dL_list_341 : decode cL_list 341 = .ok (.aload_n 3, 1) := by decide +kernel
theorem dL_list_342 : decode cL_list 342 = .ok (.areturn, 1) := by decide +kernel
theorem dL_setUp_0 : decode cL_setUp 0 = .ok (.iconst 0, 1) := by decide +kernel
theorem dL_setUp_1 : decode cL_setUp 1 = .ok (.istore_n 1, 1) := by decide +kernel
theorem dL_setUp_2 : decode cL_setUp 2 = .ok (.iload_n 1, 1) := by decide +kernel
theorem dL_setUp_3 : decode cL_setUp 3 = .ok (.bipush 91, 2) := by decide +kernel
theorem dL_setUp_5 : decode cL_setUp 5 = .ok (.if_icmp .ge 47, 3) := by decide +kernel
theorem dL_setUp_8 : decode cL_setUp 8 = .ok (.iload_n 1, 1) := by decide +kernel
theorem dL_setUp_9 : decode cL_setUp 9 = .ok (.invokestatic 32, 3) := by decide +kernel
theorem dL_setUp_12 : decode cL_setUp 12 = .ok (.istore_n 2, 1) := by decide +kernel
theorem dL_setUp_13 : decode cL_setUp 13 = .ok (.aload_n 0, 1) := by decide +kernel
theorem dL_setUp_14 : decode cL_setUp 14 = .ok (.getfield 90, 3) := by decide +kernel
theorem dL_setUp_17 : decode cL_setUp 17 = .ok (.iload_n 2, 1) := by decide +kernel
theorem dL_setUp_18 : decode cL_setUp 18 = .ok (.iload_n 2, 1) := by decide +kernel
theorem dL_setUp_19 : decode cL_setUp 19 = .ok (.iconst 0, 1) := by decide +kernel
theorem dL_setUp_20 : decode cL_setUp 20 = .ok (.invokestatic 114, 3) := by decide +kernel
theorem dL_setUp_23 : decode cL_setUp 23 = .ok (.ifCond .eq 8, 3) := by decide +kernel
theorem dL_setUp_26 : decode cL_setUp 26 = .ok (.bipush 6, 2) := by decide +kernel
theorem dL_setUp_28 : decode cL_setUp 28 = .ok (.goto 17, 3) := by decide +kernel
theorem dL_setUp_31 : decode cL_setUp 31 = .ok (.iload_n 2, 1) := by decide +kernel
theorem dL_setUp_32 : decode cL_setUp 32 = .ok (.iconst 1, 1) := by decide +kernel
theorem dL_setUp_33 : decode cL_setUp 33 = .ok (.invokestatic 114, 3) := by decide +kernel
theorem dL_setUp_36 : decode cL_setUp 36 = .ok (.ifCond .eq 8, 3) := by decide +kernel
theorem dL_setUp_39 : decode cL_setUp 39 = .ok (.bipush (-6), 2) := by decide +kernel
theorem dL_setUp_41 : decode cL_setUp 41 = .ok (.goto 4, 3) := by decide +kernel
theorem dL_setUp_44 : decode cL_setUp 44 = .ok (.iconst 0, 1) := by decide +kernel
theorem dL_setUp_45 : decode cL_setUp 45 = .ok (.iastore, 1) := by decide +kernel
theorem dL_setUp_46 : decode cL_setUp 46 = .ok (.iinc 1 1, 3) := by decide +kernel
theorem dL_setUp_49 : decode cL_setUp 49 = .ok (.goto (-47), 3) := by decide +kernel
theorem dL_setUp_52 : decode cL_setUp 52 = .ok (.bipush 27, 2) := by decide +kernel
theorem dL_setUp_54 : decode cL_setUp 54 = .ok (.newarray .int, 2) := by decide +kernel
theorem dL_setUp_56 : decode cL_setUp 56 = .ok (.dup, 1) := by decide +kernel
theorem dL_setUp_57 : decode cL_setUp 57 = .ok (.iconst 0, 1) := by decide +kernel
theorem dL_setUp_58 : decode cL_setUp 58 = .ok (.iconst 5, 1) := by decide +kernel
theorem dL_setUp_59 : decode cL_setUp 59 = .ok (.iastore, 1) := by decide +kernel
theorem dL_setUp_60 : decode cL_setUp 60 = .ok (.dup, 1) := by decide +kernel
theorem dL_setUp_61 : decode cL_setUp 61 = .ok (.iconst 1, 1) := by decide +kernel
theorem dL_setUp_62 : decode cL_setUp 62 = .ok (.iconst 0, 1) := by decide +kernel
theorem dL_setUp_63 : decode cL_setUp 63 = .ok (.iastore, 1) := by decide +kernel
theorem dL_setUp_64 : decode cL_setUp 64 = .ok (.dup, 1) := by decide +kernel
theorem dL_setUp_65 : decode cL_setUp 65 = .ok (.iconst 2, 1) := by decide +kernel
theorem dL_setUp_66 : decode cL_setUp 66 = .ok (.iconst 4, 1) := by decide +kernel
theorem dL_setUp_67 : decode cL_setUp 67 = .ok (.iastore, 1) := by decide +kernel
theorem dL_setUp_68 : decode cL_setUp 68 = .ok (.dup, 1) := by decide +kernel
theorem dL_setUp_69 : decode cL_setUp 69 = .ok (.iconst 3, 1) := by decide +kernel
theorem dL_setUp_70 : decode cL_setUp 70 = .ok (.iconst 5, 1) := by decide +kernel
theorem dL_setUp_71 : decode cL_setUp 71 = .ok (.iastore, 1) := by decide +kernel
theorem dL_setUp_72 : decode cL_setUp 72 = .ok (.dup, 1) := by decide +kernel
theorem dL_setUp_73 : decode cL_setUp 73 = .ok (.iconst 4, 1) := by decide +kernel
theorem dL_setUp_74 : decode cL_setUp 74 = .ok (.iconst 1, 1) := by decide +kernel
theorem dL_setUp_75 : decode cL_setUp 75 = .ok (.iastore, 1) := by decide +kernel
theorem dL_setUp_76 : decode cL_setUp 76 = .ok (.dup, 1) := by decide +kernel
theorem dL_setUp_77 : decode cL_setUp 77 = .ok (.iconst 5, 1) := by decide +kernel
theorem dL_setUp_78 : decode cL_setUp 78 = .ok (.iconst 4, 1) := by decide +kernel
theorem dL_setUp_79 : decode cL_setUp 79 = .ok (.iastore, 1) := by decide +kernel
theorem dL_setUp_80 : decode cL_setUp 80 = .ok (.dup, 1) := by decide +kernel
theorem dL_setUp_81 : decode cL_setUp 81 = .ok (.bipush 6, 2) := by decide +kernel
theorem dL_setUp_83 : decode cL_setUp 83 = .ok (.iconst 5, 1) := by decide +kernel
theorem dL_setUp_84 : decode cL_setUp 84 = .ok (.iastore, 1) := by decide +kernel
theorem dL_setUp_85 : decode cL_setUp 85 = .ok (.dup, 1) := by decide +kernel
theorem dL_setUp_86 : decode cL_setUp 86 = .ok (.bipush 7, 2) := by decide +kernel
theorem dL_setUp_88 : decode cL_setUp 88 = .ok (.iconst 2, 1) := by decide +kernel
theorem dL_setUp_89 : decode cL_setUp 89 = .ok (.iastore, 1) := by decide +kernel
theorem dL_setUp_90 : decode cL_setUp 90 = .ok (.dup, 1) := by decide +kernel
theorem dL_setUp_91 : decode cL_setUp 91 = .ok (.bipush 8, 2) := by decide +kernel
theorem dL_setUp_93 : decode cL_setUp 93 = .ok (.iconst 4, 1) := by decide +kernel
theorem dL_setUp_94 : decode cL_setUp 94 = .ok (.iastore, 1) := by decide +kernel
theorem dL_setUp_95 : decode cL_setUp 95 = .ok (.dup, 1) := by decide +kernel
theorem dL_setUp_96 : decode cL_setUp 96 = .ok (.bipush 9, 2) := by decide +kernel
theorem dL_setUp_98 : decode cL_setUp 98 = .ok (.iconst 3, 1) := by decide +kernel
theorem dL_setUp_99 : decode cL_setUp 99 = .ok (.iastore, 1) := by decide +kernel
theorem dL_setUp_100 : decode cL_setUp 100 = .ok (.dup, 1) := by decide +kernel
theorem dL_setUp_101 : decode cL_setUp 101 = .ok (.bipush 10, 2) := by decide +kernel
theorem dL_setUp_103 : decode cL_setUp 103 = .ok (.iconst 0, 1) := by decide +kernel
theorem dL_setUp_104 : decode cL_setUp 104 = .ok (.iastore, 1) := by decide +kernel
theorem dL_setUp_105 : decode cL_setUp 105 = .ok (.dup, 1) := by decide +kernel
theorem dL_setUp_106 : decode cL_setUp 106 = .ok (.bipush 11, 2) := by decide +kernel
theorem dL_setUp_108 : decode cL_setUp 108 = .ok (.iconst 5, 1) := by decide +kernel
theorem dL_setUp_109 : decode cL_setUp 109 = .ok (.iastore, 1) := by decide +kernel
theorem dL_setUp_110 : decode cL_setUp 110 = .ok (.dup, 1) := by decide +kernel
theorem dL_setUp_111 : decode cL_setUp 111 = .ok (.bipush 12, 2) := by decide +kernel
theorem dL_setUp_113 : decode cL_setUp 113 = .ok (.bipush 7, 2) := by decide +kernel
theorem dL_setUp_115 : decode cL_setUp 115 = .ok (.iastore, 1) := by decide +kernel
theorem dL_setUp_116 : decode cL_setUp 116 = .ok (.dup, 1) := by decide +kernel
theorem dL_setUp_117 : decode cL_setUp 117 = .ok (.bipush 13, 2) := by decide +kernel
theorem dL_setUp_119 : decode cL_setUp 119 = .ok (.iconst 0, 1) := by decide +kernel
theorem dL_setUp_120 : decode cL_setUp 120 = .ok (.iastore, 1) := by decide +kernel
theorem dL_setUp_121 : decode cL_setUp 121 = .ok (.dup, 1) := by decide +kernel
theorem dL_setUp_122 : decode cL_setUp 122 = .ok (.bipush 14, 2) := by decide +kernel
theorem dL_setUp_124 : decode cL_setUp 124 = .ok (.iconst 5, 1) := by decide +kernel
theorem dL_setUp_125 : decode cL_setUp 125 = .ok (.iastore, 1) := by decide +kernel
theorem dL_setUp_126 : decode cL_setUp 126 = .ok (.dup, 1) := by decide +kernel
theorem dL_setUp_127 : decode cL_setUp 127 = .ok (.bipush 15, 2) := by decide +kernel
theorem dL_setUp_129 : decode cL_setUp 129 = .ok (.iconst 2, 1) := by decide +kernel
theorem dL_setUp_130 : decode cL_setUp 130 = .ok (.iastore, 1) := by decide +kernel
theorem dL_setUp_131 : decode cL_setUp 131 = .ok (.dup, 1) := by decide +kernel
theorem dL_setUp_132 : decode cL_setUp 132 = .ok (.bipush 16, 2) := by decide +kernel
theorem dL_setUp_134 : decode cL_setUp 134 = .ok (.iconst 0, 1) := by decide +kernel
theorem dL_setUp_135 : decode cL_setUp 135 = .ok (.iastore, 1) := by decide +kernel
theorem dL_setUp_136 : decode cL_setUp 136 = .ok (.dup, 1) := by decide +kernel
theorem dL_setUp_137 : decode cL_setUp 137 = .ok (.bipush 17, 2) := by decide +kernel
theorem dL_setUp_139 : decode cL_setUp 139 = .ok (.iconst 3, 1) := by decide +kernel
theorem dL_setUp_140 : decode cL_setUp 140 = .ok (.iastore, 1) := by decide +kernel
theorem dL_setUp_141 : decode cL_setUp 141 = .ok (.dup, 1) := by decide +kernel
theorem dL_setUp_142 : decode cL_setUp 142 = .ok (.bipush 18, 2) := by decide +kernel
theorem dL_setUp_144 : decode cL_setUp 144 = .ok (.bipush 8, 2) := by decide +kernel
theorem dL_setUp_146 : decode cL_setUp 146 = .ok (.iastore, 1) := by decide +kernel
theorem dL_setUp_147 : decode cL_setUp 147 = .ok (.dup, 1) := by decide +kernel
theorem dL_setUp_148 : decode cL_setUp 148 = .ok (.bipush 19, 2) := by decide +kernel
theorem dL_setUp_150 : decode cL_setUp 150 = .ok (.iconst 0, 1) := by decide +kernel
theorem dL_setUp_151 : decode cL_setUp 151 = .ok (.iastore, 1) := by decide +kernel
theorem dL_setUp_152 : decode cL_setUp 152 = .ok (.dup, 1) := by decide +kernel
theorem dL_setUp_153 : decode cL_setUp 153 = .ok (.bipush 20, 2) := by decide +kernel
theorem dL_setUp_155 : decode cL_setUp 155 = .ok (.iconst 3, 1) := by decide +kernel
theorem dL_setUp_156 : decode cL_setUp 156 = .ok (.iastore, 1) := by decide +kernel
theorem dL_setUp_157 : decode cL_setUp 157 = .ok (.dup, 1) := by decide +kernel
theorem dL_setUp_158 : decode cL_setUp 158 = .ok (.bipush 21, 2) := by decide +kernel
theorem dL_setUp_160 : decode cL_setUp 160 = .ok (.iconst 4, 1) := by decide +kernel
theorem dL_setUp_161 : decode cL_setUp 161 = .ok (.iastore, 1) := by decide +kernel
theorem dL_setUp_162 : decode cL_setUp 162 = .ok (.dup, 1) := by decide +kernel
theorem dL_setUp_163 : decode cL_setUp 163 = .ok (.bipush 22, 2) := by decide +kernel
theorem dL_setUp_165 : decode cL_setUp 165 = .ok (.iconst 0, 1) := by decide +kernel
theorem dL_setUp_166 : decode cL_setUp 166 = .ok (.iastore, 1) := by decide +kernel
theorem dL_setUp_167 : decode cL_setUp 167 = .ok (.dup, 1) := by decide +kernel
theorem dL_setUp_168 : decode cL_setUp 168 = .ok (.bipush 23, 2) := by decide +kernel
theorem dL_setUp_170 : decode cL_setUp 170 = .ok (.iconst 2, 1) := by decide +kernel
theorem dL_setUp_171 : decode cL_setUp 171 = .ok (.iastore, 1) := by decide +kernel
theorem dL_setUp_172 : decode cL_setUp 172 = .ok (.dup, 1) := by decide +kernel
theorem dL_setUp_173 : decode cL_setUp 173 = .ok (.bipush 24, 2) := by decide +kernel
theorem dL_setUp_175 : decode cL_setUp 175 = .ok (.bipush 6, 2) := by decide +kernel
theorem dL_setUp_177 : decode cL_setUp 177 = .ok (.iastore, 1) := by decide +kernel
theorem dL_setUp_178 : decode cL_setUp 178 = .ok (.dup, 1) := by decide +kernel
theorem dL_setUp_179 : decode cL_setUp 179 = .ok (.bipush 25, 2) := by decide +kernel
theorem dL_setUp_181 : decode cL_setUp 181 = .ok (.iconst 0, 1) := by decide +kernel
theorem dL_setUp_182 : decode cL_setUp 182 = .ok (.iastore, 1) := by decide +kernel
theorem dL_setUp_183 : decode cL_setUp 183 = .ok (.dup, 1) := by decide +kernel
theorem dL_setUp_184 : decode cL_setUp 184 = .ok (.bipush 26, 2) := by decide +kernel
theorem dL_setUp_186 : decode cL_setUp 186 = .ok (.iconst 1, 1) := by decide +kernel
theorem dL_setUp_187 : decode cL_setUp 187 = .ok (.iastore, 1) := by decide +kernel
theorem dL_setUp_188 : decode cL_setUp 188 = .ok (.astore_n 1, 1) := by decide +kernel
theorem dL_setUp_189 : decode cL_setUp 189 = .ok (.iconst 0, 1) := by decide +kernel
theorem dL_setUp_190 : decode cL_setUp 190 = .ok (.istore_n 2, 1) := by decide +kernel
theorem dL_setUp_191 : decode cL_setUp 191 = .ok (.iload_n 2, 1) := by decide +kernel
theorem dL_setUp_192 : decode cL_setUp 192 = .ok (.aload_n 1, 1) := by decide +kernel
theorem dL_setUp_193 : decode cL_setUp 193 = .ok (.arraylength, 1) := by decide +kernel
theorem dL_setUp_194 : decode cL_setUp 194 = .ok (.if_icmp .ge 98, 3) := by decide +kernel
theorem dL_setUp_197 : decode cL_setUp 197 = .ok (.aload_n 1, 1) := by decide +kernel
theorem dL_setUp_198 : decode cL_setUp 198 = .ok (.iload_n 2, 1) := by decide +kernel
theorem dL_setUp_199 : decode cL_setUp 199 = .ok (.iaload, 1) := by decide +kernel
theorem dL_setUp_200 : decode cL_setUp 200 = .ok (.iconst 5, 1) := by decide +kernel
theorem dL_setUp_201 : decode cL_setUp 201 = .ok (.isub, 1) := by decide +kernel
theorem dL_setUp_202 : decode cL_setUp 202 = .ok (.istore_n 3, 1) := by decide +kernel
theorem dL_setUp_203 : decode cL_setUp 203 = .ok (.iload_n 3, 1) := by decide +kernel
theorem dL_setUp_204 : decode cL_setUp 204 = .ok (.ifCond .ge 10, 3) := by decide +kernel
theorem dL_setUp_207 : decode cL_setUp 207 = .ok (.bipush (-5), 2) := by decide +kernel
theorem dL_setUp_209 : decode cL_setUp 209 = .ok (.iload_n 3, 1) := by decide +kernel
theorem dL_setUp_210 : decode cL_setUp 210 = .ok (.isub, 1) := by decide +kernel
theorem dL_setUp_211 : decode cL_setUp 211 = .ok (.goto 5, 3) := by decide +kernel
theorem dL_setUp_214 : decode cL_setUp 214 = .ok (.bipush (-5), 2) := by decide +kernel
theorem dL_setUp_216 : decode cL_setUp 216 = .ok (.istore 4, 2) := by decide +kernel
theorem dL_setUp_218 : decode cL_setUp 218 = .ok (.iload_n 3, 1) := by decide +kernel
theorem dL_setUp_219 : decode cL_setUp 219 = .ok (.ifCond .ge 7, 3) := by decide +kernel
theorem dL_setUp_222 : decode cL_setUp 222 = .ok (.iconst 5, 1) := by decide +kernel
theorem dL_setUp_223 : decode cL_setUp 223 = .ok (.goto 6, 3) := by decide +kernel
theorem dL_setUp_226 : decode cL_setUp 226 = .ok (.iconst 5, 1) := by decide +kernel
theorem dL_setUp_227 : decode cL_setUp 227 = .ok (.iload_n 3, 1) := by decide +kernel
theorem dL_setUp_228 : decode cL_setUp 228 = .ok (.isub, 1) := by decide +kernel
theorem dL_setUp_229 : decode cL_setUp 229 = .ok (.istore 5, 2) := by decide +kernel
theorem dL_setUp_231 : decode cL_setUp 231 = .ok (.aload_n 0, 1) := by decide +kernel
theorem dL_setUp_232 : decode cL_setUp 232 = .ok (.getfield 90, 3) := by decide +kernel
theorem dL_setUp_235 : decode cL_setUp 235 = .ok (.bipush 11, 2) := by decide +kernel
theorem dL_setUp_237 : decode cL_setUp 237 = .ok (.aload_n 1, 1) := by decide +kernel
theorem dL_setUp_238 : decode cL_setUp 238 = .ok (.iload_n 2, 1) := by decide +kernel
theorem dL_setUp_239 : decode cL_setUp 239 = .ok (.iaload, 1) := by decide +kernel
theorem dL_setUp_240 : decode cL_setUp 240 = .ok (.imul, 1) := by decide +kernel
theorem dL_setUp_241 : decode cL_setUp 241 = .ok (.iload 4, 2) := by decide +kernel
theorem dL_setUp_243 : decode cL_setUp 243 = .ok (.iadd, 1) := by decide +kernel
theorem dL_setUp_244 : decode cL_setUp 244 = .ok (.aload_n 1, 1) := by decide +kernel
theorem dL_setUp_245 : decode cL_setUp 245 = .ok (.iload_n 2, 1) := by decide +kernel
theorem dL_setUp_246 : decode cL_setUp 246 = .ok (.iconst 1, 1) := by decide +kernel
theorem dL_setUp_247 : decode cL_setUp 247 = .ok (.iadd, 1) := by decide +kernel
theorem dL_setUp_248 : decode cL_setUp 248 = .ok (.iaload, 1) := by decide +kernel
theorem dL_setUp_249 : decode cL_setUp 249 = .ok (.iadd, 1) := by decide +kernel
theorem dL_setUp_250 : decode cL_setUp 250 = .ok (.iconst 5, 1) := by decide +kernel
theorem dL_setUp_251 : decode cL_setUp 251 = .ok (.iadd, 1) := by decide +kernel
theorem dL_setUp_252 : decode cL_setUp 252 = .ok (.aload_n 1, 1) := by decide +kernel
theorem dL_setUp_253 : decode cL_setUp 253 = .ok (.iload_n 2, 1) := by decide +kernel
theorem dL_setUp_254 : decode cL_setUp 254 = .ok (.iconst 2, 1) := by decide +kernel
theorem dL_setUp_255 : decode cL_setUp 255 = .ok (.iadd, 1) := by decide +kernel
theorem dL_setUp_256 : decode cL_setUp 256 = .ok (.iaload, 1) := by decide +kernel
theorem dL_setUp_257 : decode cL_setUp 257 = .ok (.iastore, 1) := by decide +kernel
theorem dL_setUp_258 : decode cL_setUp 258 = .ok (.aload_n 0, 1) := by decide +kernel
theorem dL_setUp_259 : decode cL_setUp 259 = .ok (.getfield 90, 3) := by decide +kernel
theorem dL_setUp_262 : decode cL_setUp 262 = .ok (.bipush 11, 2) := by decide +kernel
theorem dL_setUp_264 : decode cL_setUp 264 = .ok (.aload_n 1, 1) := by decide +kernel
theorem dL_setUp_265 : decode cL_setUp 265 = .ok (.iload_n 2, 1) := by decide +kernel
theorem dL_setUp_266 : decode cL_setUp 266 = .ok (.iaload, 1) := by decide +kernel
theorem dL_setUp_267 : decode cL_setUp 267 = .ok (.imul, 1) := by decide +kernel
theorem dL_setUp_268 : decode cL_setUp 268 = .ok (.iload 5, 2) := by decide +kernel
theorem dL_setUp_270 : decode cL_setUp 270 = .ok (.iadd, 1) := by decide +kernel
theorem dL_setUp_271 : decode cL_setUp 271 = .ok (.aload_n 1, 1) := by decide +kernel
theorem dL_setUp_272 : decode cL_setUp 272 = .ok (.iload_n 2, 1) := by decide +kernel
theorem dL_setUp_273 : decode cL_setUp 273 = .ok (.iconst 1, 1) := by decide +kernel
theorem dL_setUp_274 : decode cL_setUp 274 = .ok (.iadd, 1) := by decide +kernel
theorem dL_setUp_275 : decode cL_setUp 275 = .ok (.iaload, 1) := by decide +kernel
theorem dL_setUp_276 : decode cL_setUp 276 = .ok (.isub, 1) := by decide +kernel
theorem dL_setUp_277 : decode cL_setUp 277 = .ok (.iconst 5, 1) := by decide +kernel
theorem dL_setUp_278 : decode cL_setUp 278 = .ok (.iadd, 1) := by decide +kernel
theorem dL_setUp_279 : decode cL_setUp 279 = .ok (.aload_n 1, 1) := by decide +kernel
theorem dL_setUp_280 : decode cL_setUp 280 = .ok (.iload_n 2, 1) := by decide +kernel
theorem dL_setUp_281 : decode cL_setUp 281 = .ok (.iconst 2, 1) := by decide +kernel
theorem dL_setUp_282 : decode cL_setUp 282 = .ok (.iadd, 1) := by decide +kernel
theorem dL_setUp_283 : decode cL_setUp 283 = .ok (.iaload, 1) := by decide +kernel
theorem dL_setUp_284 : decode cL_setUp 284 = .ok (.ineg, 1) := by decide +kernel
theorem dL_setUp_285 : decode cL_setUp 285 = .ok (.iastore, 1) := by decide +kernel
theorem dL_setUp_286 : decode cL_setUp 286 = .ok (.iinc 2 3, 3) := by decide +kernel
theorem dL_setUp_289 : decode cL_setUp 289 = .ok (.goto (-98), 3) := by decide +kernel
theorem dL_setUp_292 : decode cL_setUp 292 = .ok (.return_, 1) := by decide +kernel
theorem dL_goes_0 : decode cL_goes 0 = .ok (.aload_n 1, 1) := by decide +kernel
theorem dL_goes_1 : decode cL_goes 1 = .ok (.invokevirtual 118, 3) := by decide +kernel
theorem dL_goes_4 : decode cL_goes 4 = .ok (.astore_n 3, 1) := by decide +kernel
theorem dL_goes_5 : decode cL_goes 5 = .ok (.aload_n 3, 1) := by decide +kernel
theorem dL_goes_6 : decode cL_goes 6 = .ok (.arraylength, 1) := by decide +kernel
theorem dL_goes_7 : decode cL_goes 7 = .ok (.ifCond .ne 5, 3) := by decide +kernel
theorem dL_goes_10 : decode cL_goes 10 = .ok (.iconst 1, 1) := by decide +kernel
theorem dL_goes_11 : decode cL_goes 11 = .ok (.ireturn, 1) := by decide +kernel
theorem dL_goes_12 : decode cL_goes 12 = .ok (.aload_n 3, 1) := by decide +kernel
theorem dL_goes_13 : decode cL_goes 13 = .ok (.iload_n 2, 1) := by decide +kernel
theorem dL_goes_14 : decode cL_goes 14 = .ok (.aload_n 3, 1) := by decide +kernel
theorem dL_goes_15 : decode cL_goes 15 = .ok (.arraylength, 1) := by decide +kernel
theorem dL_goes_16 : decode cL_goes 16 = .ok (.invokestatic 80, 3) := by decide +kernel
theorem dL_goes_19 : decode cL_goes 19 = .ok (.iaload, 1) := by decide +kernel
theorem dL_goes_20 : decode cL_goes 20 = .ok (.istore 4, 2) := by decide +kernel
theorem dL_goes_22 : decode cL_goes 22 = .ok (.aload_n 3, 1) := by decide +kernel
theorem dL_goes_23 : decode cL_goes 23 = .ok (.astore 5, 2) := by decide +kernel
theorem dL_goes_25 : decode cL_goes 25 = .ok (.aload 5, 2) := by decide +kernel
theorem dL_goes_27 : decode cL_goes 27 = .ok (.arraylength, 1) := by decide +kernel
theorem dL_goes_28 : decode cL_goes 28 = .ok (.istore 6, 2) := by decide +kernel
theorem dL_goes_30 : decode cL_goes 30 = .ok (.iconst 0, 1) := by decide +kernel
theorem dL_goes_31 : decode cL_goes 31 = .ok (.istore 7, 2) := by decide +kernel
theorem dL_goes_33 : decode cL_goes 33 = .ok (.iload 7, 2) := by decide +kernel
theorem dL_goes_35 : decode cL_goes 35 = .ok (.iload 6, 2) := by decide +kernel
theorem dL_goes_37 : decode cL_goes 37 = .ok (.if_icmp .ge 46, 3) := by decide +kernel
theorem dL_goes_40 : decode cL_goes 40 = .ok (.aload 5, 2) := by decide +kernel
theorem dL_goes_42 : decode cL_goes 42 = .ok (.iload 7, 2) := by decide +kernel
theorem dL_goes_44 : decode cL_goes 44 = .ok (.iaload, 1) := by decide +kernel
theorem dL_goes_45 : decode cL_goes 45 = .ok (.istore 8, 2) := by decide +kernel
theorem dL_goes_47 : decode cL_goes 47 = .ok (.iload_n 2, 1) := by decide +kernel
theorem dL_goes_48 : decode cL_goes 48 = .ok (.iconst 5, 1) := by decide +kernel
theorem dL_goes_49 : decode cL_goes 49 = .ok (.ishr, 1) := by decide +kernel
theorem dL_goes_50 : decode cL_goes 50 = .ok (.iconst 3, 1) := by decide +kernel
theorem dL_goes_51 : decode cL_goes 51 = .ok (.invokestatic 80, 3) := by decide +kernel
theorem dL_goes_54 : decode cL_goes 54 = .ok (.ifCond .ne 23, 3) := by decide +kernel
theorem dL_goes_57 : decode cL_goes 57 = .ok (.aload_n 1, 1) := by decide +kernel
theorem dL_goes_58 : decode cL_goes 58 = .ok (.getfield 90, 3) := by decide +kernel
theorem dL_goes_61 : decode cL_goes 61 = .ok (.iload 8, 2) := by decide +kernel
theorem dL_goes_63 : decode cL_goes 63 = .ok (.bipush 91, 2) := by decide +kernel
theorem dL_goes_65 : decode cL_goes 65 = .ok (.irem, 1) := by decide +kernel
theorem dL_goes_66 : decode cL_goes 66 = .ok (.invokestatic 32, 3) := by decide +kernel
theorem dL_goes_69 : decode cL_goes 69 = .ok (.iaload, 1) := by decide +kernel
theorem dL_goes_70 : decode cL_goes 70 = .ok (.ifCond .eq 7, 3) := by decide +kernel
theorem dL_goes_73 : decode cL_goes 73 = .ok (.iload 8, 2) := by decide +kernel
theorem dL_goes_75 : decode cL_goes 75 = .ok (.istore 4, 2) := by decide +kernel
theorem dL_goes_77 : decode cL_goes 77 = .ok (.iinc 7 1, 3) := by decide +kernel
theorem dL_goes_80 : decode cL_goes 80 = .ok (.goto (-47), 3) := by decide +kernel
theorem dL_goes_83 : decode cL_goes 83 = .ok (.iconst 2, 1) := by decide +kernel
theorem dL_goes_84 : decode cL_goes 84 = .ok (.iload_n 2, 1) := by decide +kernel
theorem dL_goes_85 : decode cL_goes 85 = .ok (.iconst 3, 1) := by decide +kernel
theorem dL_goes_86 : decode cL_goes 86 = .ok (.ishr, 1) := by decide +kernel
theorem dL_goes_87 : decode cL_goes 87 = .ok (.iconst 4, 1) := by decide +kernel
theorem dL_goes_88 : decode cL_goes 88 = .ok (.invokestatic 80, 3) := by decide +kernel
theorem dL_goes_91 : decode cL_goes 91 = .ok (.iadd, 1) := by decide +kernel
theorem dL_goes_92 : decode cL_goes 92 = .ok (.istore 5, 2) := by decide +kernel
theorem dL_goes_94 : decode cL_goes 94 = .ok (.aload_n 0, 1) := by decide +kernel
theorem dL_goes_95 : decode cL_goes 95 = .ok (.iload 4, 2) := by decide +kernel
theorem dL_goes_97 : decode cL_goes 97 = .ok (.bipush 91, 2) := by decide +kernel
theorem dL_goes_99 : decode cL_goes 99 = .ok (.idiv, 1) := by decide +kernel
theorem dL_goes_100 : decode cL_goes 100 = .ok (.iload 4, 2) := by decide +kernel
theorem dL_goes_102 : decode cL_goes 102 = .ok (.bipush 91, 2) := by decide +kernel
theorem dL_goes_104 : decode cL_goes 104 = .ok (.irem, 1) := by decide +kernel
theorem dL_goes_105 : decode cL_goes 105 = .ok (.iload 5, 2) := by decide +kernel
theorem dL_goes_107 : decode cL_goes 107 = .ok (.invokevirtual 122, 3) := by decide +kernel
theorem dL_goes_110 : decode cL_goes 110 = .ok (.aload_n 1, 1) := by decide +kernel
theorem dL_goes_111 : decode cL_goes 111 = .ok (.iload 4, 2) := by decide +kernel
theorem dL_goes_113 : decode cL_goes 113 = .ok (.bipush 91, 2) := by decide +kernel
theorem dL_goes_115 : decode cL_goes 115 = .ok (.idiv, 1) := by decide +kernel
theorem dL_goes_116 : decode cL_goes 116 = .ok (.invokestatic 32, 3) := by decide +kernel
theorem dL_goes_119 : decode cL_goes 119 = .ok (.iload 4, 2) := by decide +kernel
theorem dL_goes_121 : decode cL_goes 121 = .ok (.bipush 91, 2) := by decide +kernel
theorem dL_goes_123 : decode cL_goes 123 = .ok (.irem, 1) := by decide +kernel
theorem dL_goes_124 : decode cL_goes 124 = .ok (.invokestatic 32, 3) := by decide +kernel
theorem dL_goes_127 : decode cL_goes 127 = .ok (.iload 5, 2) := by decide +kernel
theorem dL_goes_129 : decode cL_goes 129 = .ok (.invokevirtual 126, 3) := by decide +kernel
theorem dL_goes_132 : decode cL_goes 132 = .ok (.if_icmp .ne 7, 3) := by decide +kernel
theorem dL_goes_135 : decode cL_goes 135 = .ok (.iconst 1, 1) := by decide +kernel
theorem dL_goes_136 : decode cL_goes 136 = .ok (.goto 4, 3) := by decide +kernel
theorem dL_goes_139 : decode cL_goes 139 = .ok (.iconst 0, 1) := by decide +kernel
theorem dL_goes_140 : decode cL_goes 140 = .ok (.ireturn, 1) := by decide +kernel
theorem dL_law_0 : decode cL_law 0 = .ok (.new 42, 3) := by decide +kernel
theorem dL_law_3 : decode cL_law 3 = .ok (.dup, 1) := by decide +kernel
theorem dL_law_4 : decode cL_law 4 = .ok (.invokespecial 44, 3) := by decide +kernel
theorem dL_law_7 : decode cL_law 7 = .ok (.astore_n 1, 1) := by decide +kernel
theorem dL_law_8 : decode cL_law 8 = .ok (.aload_n 0, 1) := by decide +kernel
theorem dL_law_9 : decode cL_law 9 = .ok (.aload_n 1, 1) := by decide +kernel
theorem dL_law_10 : decode cL_law 10 = .ok (.invokestatic 129, 3) := by decide +kernel
theorem dL_law_13 : decode cL_law 13 = .ok (.astore_n 2, 1) := by decide +kernel
theorem dL_law_14 : decode cL_law 14 = .ok (.new 10, 3) := by decide +kernel
theorem dL_law_17 : decode cL_law 17 = .ok (.dup, 1) := by decide +kernel
theorem dL_law_18 : decode cL_law 18 = .ok (.invokespecial 133, 3) := by decide +kernel
theorem dL_law_21 : decode cL_law 21 = .ok (.astore_n 3, 1) := by decide +kernel
theorem dL_law_22 : decode cL_law 22 = .ok (.aload_n 3, 1) := by decide +kernel
theorem dL_law_23 : decode cL_law 23 = .ok (.aload_n 1, 1) := by decide +kernel
theorem dL_law_24 : decode cL_law 24 = .ok (.invokevirtual 57, 3) := by decide +kernel
theorem dL_law_27 : decode cL_law 27 = .ok (.invokestatic 134, 3) := by decide +kernel
theorem dL_law_30 : decode cL_law 30 = .ok (.ifCond .eq 5, 3) := by decide +kernel
theorem dL_law_33 : decode cL_law 33 = .ok (.iconst 0, 1) := by decide +kernel
theorem dL_law_34 : decode cL_law 34 = .ok (.ireturn, 1) := by decide +kernel
theorem dL_law_35 : decode cL_law 35 = .ok (.iconst 0, 1) := by decide +kernel
theorem dL_law_36 : decode cL_law 36 = .ok (.istore 4, 2) := by decide +kernel
theorem dL_law_38 : decode cL_law 38 = .ok (.iload 4, 2) := by decide +kernel
theorem dL_law_40 : decode cL_law 40 = .ok (.bipush 8, 2) := by decide +kernel
theorem dL_law_42 : decode cL_law 42 = .ok (.if_icmp .ge 867, 3) := by decide +kernel
theorem dL_law_45 : decode cL_law 45 = .ok (.aload_n 0, 1) := by decide +kernel
theorem dL_law_46 : decode cL_law 46 = .ok (.iload 4, 2) := by decide +kernel
theorem dL_law_48 : decode cL_law 48 = .ok (.invokestatic 74, 3) := by decide +kernel
theorem dL_law_51 : decode cL_law 51 = .ok (.iconst 3, 1) := by decide +kernel
theorem dL_law_52 : decode cL_law 52 = .ok (.ishr, 1) := by decide +kernel
theorem dL_law_53 : decode cL_law 53 = .ok (.bipush 47, 2) := by decide +kernel
theorem dL_law_55 : decode cL_law 55 = .ok (.iload 4, 2) := by decide +kernel
theorem dL_law_57 : decode cL_law 57 = .ok (.imul, 1) := by decide +kernel
theorem dL_law_58 : decode cL_law 58 = .ok (.iadd, 1) := by decide +kernel
theorem dL_law_59 : decode cL_law 59 = .ok (.istore 5, 2) := by decide +kernel
theorem dL_law_61 : decode cL_law 61 = .ok (.aload_n 3, 1) := by decide +kernel
theorem dL_law_62 : decode cL_law 62 = .ok (.iconst 3, 1) := by decide +kernel
theorem dL_law_63 : decode cL_law 63 = .ok (.invokevirtual 138, 3) := by decide +kernel
theorem dL_law_66 : decode cL_law 66 = .ok (.istore 6, 2) := by decide +kernel
theorem dL_law_68 : decode cL_law 68 = .ok (.aload_n 3, 1) := by decide +kernel
theorem dL_law_69 : decode cL_law 69 = .ok (.iconst 1, 1) := by decide +kernel
theorem dL_law_70 : decode cL_law 70 = .ok (.invokevirtual 138, 3) := by decide +kernel
theorem dL_law_73 : decode cL_law 73 = .ok (.istore 7, 2) := by decide +kernel
theorem dL_law_75 : decode cL_law 75 = .ok (.aload_n 3, 1) := by decide +kernel
theorem dL_law_76 : decode cL_law 76 = .ok (.iconst 2, 1) := by decide +kernel
theorem dL_law_77 : decode cL_law 77 = .ok (.invokevirtual 138, 3) := by decide +kernel
theorem dL_law_80 : decode cL_law 80 = .ok (.istore 8, 2) := by decide +kernel
theorem dL_law_82 : decode cL_law 82 = .ok (.iconst 0, 1) := by decide +kernel
theorem dL_law_83 : decode cL_law 83 = .ok (.istore 9, 2) := by decide +kernel
theorem dL_law_85 : decode cL_law 85 = .ok (.iconst (-1), 1) := by decide +kernel
theorem dL_law_86 : decode cL_law 86 = .ok (.istore 10, 2) := by decide +kernel
theorem dL_law_88 : decode cL_law 88 = .ok (.iconst 0, 1) := by decide +kernel
theorem dL_law_89 : decode cL_law 89 = .ok (.istore 11, 2) := by decide +kernel
theorem dL_law_91 : decode cL_law 91 = .ok (.iload 11, 2) := by decide +kernel
theorem dL_law_93 : decode cL_law 93 = .ok (.bipush 91, 2) := by decide +kernel
theorem dL_law_95 : decode cL_law 95 = .ok (.if_icmp .ge 145, 3) := by decide +kernel
theorem dL_law_98 : decode cL_law 98 = .ok (.aload_n 3, 1) := by decide +kernel
theorem dL_law_99 : decode cL_law 99 = .ok (.iload 11, 2) := by decide +kernel
theorem dL_law_101 : decode cL_law 101 = .ok (.iconst 0, 1) := by decide +kernel
theorem dL_law_102 : decode cL_law 102 = .ok (.invokevirtual 141, 3) := by decide +kernel
theorem dL_law_105 : decode cL_law 105 = .ok (.ifCond .ne 7, 3) := by decide +kernel
theorem dL_law_108 : decode cL_law 108 = .ok (.iconst 1, 1) := by decide +kernel
theorem dL_law_109 : decode cL_law 109 = .ok (.goto 4, 3) := by decide +kernel
theorem dL_law_112 : decode cL_law 112 = .ok (.iconst 0, 1) := by decide +kernel
theorem dL_law_113 : decode cL_law 113 = .ok (.aload_n 3, 1) := by decide +kernel
theorem dL_law_114 : decode cL_law 114 = .ok (.iload 11, 2) := by decide +kernel
theorem dL_law_116 : decode cL_law 116 = .ok (.iconst 1, 1) := by decide +kernel
theorem dL_law_117 : decode cL_law 117 = .ok (.invokevirtual 141, 3) := by decide +kernel
theorem dL_law_120 : decode cL_law 120 = .ok (.ifCond .ge 7, 3) := by decide +kernel
theorem dL_law_123 : decode cL_law 123 = .ok (.iconst 1, 1) := by decide +kernel
theorem dL_law_124 : decode cL_law 124 = .ok (.goto 4, 3) := by decide +kernel
theorem dL_law_127 : decode cL_law 127 = .ok (.iconst 0, 1) := by decide +kernel
theorem dL_law_128 : decode cL_law 128 = .ok (.if_icmp .ne 24, 3) := by decide +kernel
theorem dL_law_131 : decode cL_law 131 = .ok (.aload_n 3, 1) := by decide +kernel
theorem dL_law_132 : decode cL_law 132 = .ok (.iload 11, 2) := by decide +kernel
theorem dL_law_134 : decode cL_law 134 = .ok (.iconst 2, 1) := by decide +kernel
theorem dL_law_135 : decode cL_law 135 = .ok (.invokevirtual 141, 3) := by decide +kernel
theorem dL_law_138 : decode cL_law 138 = .ok (.ifCond .lt 14, 3) := by decide +kernel
theorem dL_law_141 : decode cL_law 141 = .ok (.aload_n 3, 1) := by decide +kernel
theorem dL_law_142 : decode cL_law 142 = .ok (.iload 11, 2) := by decide +kernel
theorem dL_law_144 : decode cL_law 144 = .ok (.iconst 2, 1) := by decide +kernel
theorem dL_law_145 : decode cL_law 145 = .ok (.invokevirtual 141, 3) := by decide +kernel
theorem dL_law_148 : decode cL_law 148 = .ok (.iconst 2, 1) := by decide +kernel
theorem dL_law_149 : decode cL_law 149 = .ok (.if_icmp .le 5, 3) := by decide +kernel
theorem dL_law_152 : decode cL_law 152 = .ok (.iconst 0, 1) := by decide +kernel
theorem dL_law_153 : decode cL_law 153 = .ok (.ireturn, 1) := by decide +kernel
theorem dL_law_154 : decode cL_law 154 = .ok (.aload_n 3, 1) := by decide +kernel
theorem dL_law_155 : decode cL_law 155 = .ok (.iload 11, 2) := by decide +kernel
theorem dL_law_157 : decode cL_law 157 = .ok (.iconst 0, 1) := by decide +kernel
theorem dL_law_158 : decode cL_law 158 = .ok (.invokevirtual 141, 3) := by decide +kernel
theorem dL_law_161 : decode cL_law 161 = .ok (.iconst 1, 1) := by decide +kernel
theorem dL_law_162 : decode cL_law 162 = .ok (.if_icmp .ne 19, 3) := by decide +kernel
theorem dL_law_165 : decode cL_law 165 = .ok (.aload_n 3, 1) := by decide +kernel
theorem dL_law_166 : decode cL_law 166 = .ok (.iload 11, 2) := by decide +kernel
theorem dL_law_168 : decode cL_law 168 = .ok (.iconst 1, 1) := by decide +kernel
theorem dL_law_169 : decode cL_law 169 = .ok (.invokevirtual 141, 3) := by decide +kernel
theorem dL_law_172 : decode cL_law 172 = .ok (.iload 7, 2) := by decide +kernel
theorem dL_law_174 : decode cL_law 174 = .ok (.if_icmp .ne 7, 3) := by decide +kernel
theorem dL_law_177 : decode cL_law 177 = .ok (.iload 11, 2) := by decide +kernel
theorem dL_law_179 : decode cL_law 179 = .ok (.istore 10, 2) := by decide +kernel
theorem dL_law_181 : decode cL_law 181 = .ok (.aload_n 3, 1) := by decide +kernel
theorem dL_law_182 : decode cL_law 182 = .ok (.iload 11, 2) := by decide +kernel
theorem dL_law_184 : decode cL_law 184 = .ok (.iconst 1, 1) := by decide +kernel
theorem dL_law_185 : decode cL_law 185 = .ok (.invokevirtual 141, 3) := by decide +kernel
theorem dL_law_188 : decode cL_law 188 = .ok (.iload 7, 2) := by decide +kernel
theorem dL_law_190 : decode cL_law 190 = .ok (.if_icmp .ne 15, 3) := by decide +kernel
theorem dL_law_193 : decode cL_law 193 = .ok (.iload 9, 2) := by decide +kernel
theorem dL_law_195 : decode cL_law 195 = .ok (.aload_n 3, 1) := by decide +kernel
theorem dL_law_196 : decode cL_law 196 = .ok (.iload 11, 2) := by decide +kernel
theorem dL_law_198 : decode cL_law 198 = .ok (.iconst 3, 1) := by decide +kernel
theorem dL_law_199 : decode cL_law 199 = .ok (.invokevirtual 141, 3) := by decide +kernel
theorem dL_law_202 : decode cL_law 202 = .ok (.iadd, 1) := by decide +kernel
theorem dL_law_203 : decode cL_law 203 = .ok (.istore 9, 2) := by decide +kernel
theorem dL_law_205 : decode cL_law 205 = .ok (.iload 4, 2) := by decide +kernel
theorem dL_law_207 : decode cL_law 207 = .ok (.ifCond .ne 27, 3) := by decide +kernel
theorem dL_law_210 : decode cL_law 210 = .ok (.aload_n 3, 1) := by decide +kernel
theorem dL_law_211 : decode cL_law 211 = .ok (.iload 11, 2) := by decide +kernel
theorem dL_law_213 : decode cL_law 213 = .ok (.iconst 1, 1) := by decide +kernel
theorem dL_law_214 : decode cL_law 214 = .ok (.invokevirtual 141, 3) := by decide +kernel
theorem dL_law_217 : decode cL_law 217 = .ok (.iload 7, 2) := by decide +kernel
theorem dL_law_219 : decode cL_law 219 = .ok (.if_icmp .eq 15, 3) := by decide +kernel
theorem dL_law_222 : decode cL_law 222 = .ok (.aload_n 3, 1) := by decide +kernel
theorem dL_law_223 : decode cL_law 223 = .ok (.iload 11, 2) := by decide +kernel
theorem dL_law_225 : decode cL_law 225 = .ok (.iconst 3, 1) := by decide +kernel
theorem dL_law_226 : decode cL_law 226 = .ok (.invokevirtual 141, 3) := by decide +kernel
theorem dL_law_229 : decode cL_law 229 = .ok (.ifCond .eq 5, 3) := by decide +kernel
theorem dL_law_232 : decode cL_law 232 = .ok (.iconst 0, 1) := by decide +kernel
theorem dL_law_233 : decode cL_law 233 = .ok (.ireturn, 1) := by decide +kernel
theorem dL_law_234 : decode cL_law 234 = .ok (.iinc 11 1, 3) := by decide +kernel
theorem dL_law_237 : decode cL_law 237 = .ok (.goto (-146), 3) := by decide +kernel
theorem dL_law_240 : decode cL_law 240 = .ok (.iload 9, 2) := by decide +kernel
theorem dL_law_242 : decode cL_law 242 = .ok (.iload 6, 2) := by decide +kernel
theorem dL_law_244 : decode cL_law 244 = .ok (.if_icmp .ne 92, 3) := by decide +kernel
theorem dL_law_247 : decode cL_law 247 = .ok (.aload_n 3, 1) := by decide +kernel
theorem dL_law_248 : decode cL_law 248 = .ok (.bipush 7, 2) := by decide +kernel
theorem dL_law_250 : decode cL_law 250 = .ok (.invokevirtual 138, 3) := by decide +kernel
theorem dL_law_253 : decode cL_law 253 = .ok (.aload_n 3, 1) := by decide +kernel
theorem dL_law_254 : decode cL_law 254 = .ok (.bipush 8, 2) := by decide +kernel
theorem dL_law_256 : decode cL_law 256 = .ok (.invokevirtual 138, 3) := by decide +kernel
theorem dL_law_259 : decode cL_law 259 = .ok (.iadd, 1) := by decide +kernel
theorem dL_law_260 : decode cL_law 260 = .ok (.iload 8, 2) := by decide +kernel
theorem dL_law_262 : decode cL_law 262 = .ok (.iconst 2, 1) := by decide +kernel
theorem dL_law_263 : decode cL_law 263 = .ok (.if_icmp .eq 15, 3) := by decide +kernel
theorem dL_law_266 : decode cL_law 266 = .ok (.iload 8, 2) := by decide +kernel
theorem dL_law_268 : decode cL_law 268 = .ok (.iconst 3, 1) := by decide +kernel
theorem dL_law_269 : decode cL_law 269 = .ok (.if_icmp .eq 9, 3) := by decide +kernel
theorem dL_law_272 : decode cL_law 272 = .ok (.iload 8, 2) := by decide +kernel
theorem dL_law_274 : decode cL_law 274 = .ok (.iconst 4, 1) := by decide +kernel
theorem dL_law_275 : decode cL_law 275 = .ok (.if_icmp .ne 7, 3) := by decide +kernel
theorem dL_law_278 : decode cL_law 278 = .ok (.iconst 4, 1) := by decide +kernel
theorem dL_law_279 : decode cL_law 279 = .ok (.goto 4, 3) := by decide +kernel
theorem dL_law_282 : decode cL_law 282 = .ok (.iconst 0, 1) := by decide +kernel
theorem dL_law_283 : decode cL_law 283 = .ok (.if_icmp .ne 53, 3) := by decide +kernel
theorem dL_law_286 : decode cL_law 286 = .ok (.iload 8, 2) := by decide +kernel
theorem dL_law_288 : decode cL_law 288 = .ok (.iconst 5, 1) := by decide +kernel
theorem dL_law_289 : decode cL_law 289 = .ok (.if_icmp .eq 49, 3) := by decide +kernel
theorem dL_law_292 : decode cL_law 292 = .ok (.iload 8, 2) := by decide +kernel
theorem dL_law_294 : decode cL_law 294 = .ok (.iconst 1, 1) := by decide +kernel
theorem dL_law_295 : decode cL_law 295 = .ok (.if_icmp .eq 9, 3) := by decide +kernel
theorem dL_law_298 : decode cL_law 298 = .ok (.iload 8, 2) := by decide +kernel
theorem dL_law_300 : decode cL_law 300 = .ok (.iconst 2, 1) := by decide +kernel
theorem dL_law_301 : decode cL_law 301 = .ok (.if_icmp .ne 7, 3) := by decide +kernel
theorem dL_law_304 : decode cL_law 304 = .ok (.iconst 1, 1) := by decide +kernel
theorem dL_law_305 : decode cL_law 305 = .ok (.goto 4, 3) := by decide +kernel
theorem dL_law_308 : decode cL_law 308 = .ok (.iconst 0, 1) := by decide +kernel
theorem dL_law_309 : decode cL_law 309 = .ok (.aload_n 3, 1) := by decide +kernel
theorem dL_law_310 : decode cL_law 310 = .ok (.iload 10, 2) := by decide +kernel
theorem dL_law_312 : decode cL_law 312 = .ok (.iconst 5, 1) := by decide +kernel
theorem dL_law_313 : decode cL_law 313 = .ok (.iload 7, 2) := by decide +kernel
theorem dL_law_315 : decode cL_law 315 = .ok (.isub, 1) := by decide +kernel
theorem dL_law_316 : decode cL_law 316 = .ok (.invokevirtual 141, 3) := by decide +kernel
theorem dL_law_319 : decode cL_law 319 = .ok (.ifCond .le 7, 3) := by decide +kernel
theorem dL_law_322 : decode cL_law 322 = .ok (.iconst 1, 1) := by decide +kernel
theorem dL_law_323 : decode cL_law 323 = .ok (.goto 4, 3) := by decide +kernel
theorem dL_law_326 : decode cL_law 326 = .ok (.iconst 0, 1) := by decide +kernel
theorem dL_law_327 : decode cL_law 327 = .ok (.if_icmp .eq 11, 3) := by decide +kernel
theorem dL_law_330 : decode cL_law 330 = .ok (.iload 8, 2) := by decide +kernel
theorem dL_law_332 : decode cL_law 332 = .ok (.iconst 4, 1) := by decide +kernel
theorem dL_law_333 : decode cL_law 333 = .ok (.if_icmp .eq 5, 3) := by decide +kernel
theorem dL_law_336 : decode cL_law 336 = .ok (.iconst 0, 1) := by decide +kernel
theorem dL_law_337 : decode cL_law 337 = .ok (.ireturn, 1) := by decide +kernel
theorem dL_law_338 : decode cL_law 338 = .ok (.iload 6, 2) := by decide +kernel
theorem dL_law_340 : decode cL_law 340 = .ok (.ifCond .ne 7, 3) := by decide +kernel
theorem dL_law_343 : decode cL_law 343 = .ok (.iconst 1, 1) := by decide +kernel
theorem dL_law_344 : decode cL_law 344 = .ok (.goto 4, 3) := by decide +kernel
theorem dL_law_347 : decode cL_law 347 = .ok (.iconst 0, 1) := by decide +kernel
theorem dL_law_348 : decode cL_law 348 = .ok (.iload 8, 2) := by decide +kernel
theorem dL_law_350 : decode cL_law 350 = .ok (.iconst 1, 1) := by decide +kernel
theorem dL_law_351 : decode cL_law 351 = .ok (.if_icmp .le 7, 3) := by decide +kernel
theorem dL_law_354 : decode cL_law 354 = .ok (.iconst 1, 1) := by decide +kernel
theorem dL_law_355 : decode cL_law 355 = .ok (.goto 4, 3) := by decide +kernel
theorem dL_law_358 : decode cL_law 358 = .ok (.iconst 0, 1) := by decide +kernel
theorem dL_law_359 : decode cL_law 359 = .ok (.if_icmp .eq 5, 3) := by decide +kernel
theorem dL_law_362 : decode cL_law 362 = .ok (.iconst 0, 1) := by decide +kernel
theorem dL_law_363 : decode cL_law 363 = .ok (.ireturn, 1) := by decide +kernel
theorem dL_law_364 : decode cL_law 364 = .ok (.iconst (-1), 1) := by decide +kernel
theorem dL_law_365 : decode cL_law 365 = .ok (.istore 11, 2) := by decide +kernel
theorem dL_law_367 : decode cL_law 367 = .ok (.iconst 0, 1) := by decide +kernel
theorem dL_law_368 : decode cL_law 368 = .ok (.istore 12, 2) := by decide +kernel
theorem dL_law_370 : decode cL_law 370 = .ok (.iload 12, 2) := by decide +kernel
theorem dL_law_372 : decode cL_law 372 = .ok (.iload 6, 2) := by decide +kernel
theorem dL_law_374 : decode cL_law 374 = .ok (.if_icmp .ge 60, 3) := by decide +kernel
theorem dL_law_377 : decode cL_law 377 = .ok (.aload_n 3, 1) := by decide +kernel
theorem dL_law_378 : decode cL_law 378 = .ok (.iload 12, 2) := by decide +kernel
theorem dL_law_380 : decode cL_law 380 = .ok (.invokevirtual 143, 3) := by decide +kernel
theorem dL_law_383 : decode cL_law 383 = .ok (.istore 13, 2) := by decide +kernel
theorem dL_law_385 : decode cL_law 385 = .ok (.iload 13, 2) := by decide +kernel
theorem dL_law_387 : decode cL_law 387 = .ok (.iload 11, 2) := by decide +kernel
theorem dL_law_389 : decode cL_law 389 = .ok (.if_icmp .le 33, 3) := by decide +kernel
theorem dL_law_392 : decode cL_law 392 = .ok (.aload_n 3, 1) := by decide +kernel
theorem dL_law_393 : decode cL_law 393 = .ok (.iload 13, 2) := by decide +kernel
theorem dL_law_395 : decode cL_law 395 = .ok (.bipush 91, 2) := by decide +kernel
theorem dL_law_397 : decode cL_law 397 = .ok (.idiv, 1) := by decide +kernel
theorem dL_law_398 : decode cL_law 398 = .ok (.iconst 1, 1) := by decide +kernel
theorem dL_law_399 : decode cL_law 399 = .ok (.invokevirtual 141, 3) := by decide +kernel
theorem dL_law_402 : decode cL_law 402 = .ok (.iload 7, 2) := by decide +kernel
theorem dL_law_404 : decode cL_law 404 = .ok (.if_icmp .ne 18, 3) := by decide +kernel
theorem dL_law_407 : decode cL_law 407 = .ok (.aload_n 3, 1) := by decide +kernel
theorem dL_law_408 : decode cL_law 408 = .ok (.iload 13, 2) := by decide +kernel
theorem dL_law_410 : decode cL_law 410 = .ok (.bipush 91, 2) := by decide +kernel
theorem dL_law_412 : decode cL_law 412 = .ok (.irem, 1) := by decide +kernel
theorem dL_law_413 : decode cL_law 413 = .ok (.iconst 1, 1) := by decide +kernel
theorem dL_law_414 : decode cL_law 414 = .ok (.invokevirtual 141, 3) := by decide +kernel
theorem dL_law_417 : decode cL_law 417 = .ok (.iload 7, 2) := by decide +kernel
theorem dL_law_419 : decode cL_law 419 = .ok (.if_icmp .ne 5, 3) := by decide +kernel
theorem dL_law_422 : decode cL_law 422 = .ok (.iconst 0, 1) := by decide +kernel
theorem dL_law_423 : decode cL_law 423 = .ok (.ireturn, 1) := by decide +kernel
theorem dL_law_424 : decode cL_law 424 = .ok (.iload 13, 2) := by decide +kernel
theorem dL_law_426 : decode cL_law 426 = .ok (.istore 11, 2) := by decide +kernel
theorem dL_law_428 : decode cL_law 428 = .ok (.iinc 12 1, 3) := by decide +kernel
theorem dL_law_431 : decode cL_law 431 = .ok (.goto (-61), 3) := by decide +kernel
theorem dL_law_434 : decode cL_law 434 = .ok (.iconst 0, 1) := by decide +kernel
theorem dL_law_435 : decode cL_law 435 = .ok (.istore 12, 2) := by decide +kernel
theorem dL_law_437 : decode cL_law 437 = .ok (.iload 12, 2) := by decide +kernel
theorem dL_law_439 : decode cL_law 439 = .ok (.iconst 2, 1) := by decide +kernel
theorem dL_law_440 : decode cL_law 440 = .ok (.if_icmp .ge 73, 3) := by decide +kernel
theorem dL_law_443 : decode cL_law 443 = .ok (.aload_n 3, 1) := by decide +kernel
theorem dL_law_444 : decode cL_law 444 = .ok (.iload 12, 2) := by decide +kernel
theorem dL_law_446 : decode cL_law 446 = .ok (.invokevirtual 146, 3) := by decide +kernel
theorem dL_law_449 : decode cL_law 449 = .ok (.istore 13, 2) := by decide +kernel
theorem dL_law_451 : decode cL_law 451 = .ok (.iload 13, 2) := by decide +kernel
theorem dL_law_453 : decode cL_law 453 = .ok (.ifCond .lt 54, 3) := by decide +kernel
theorem dL_law_456 : decode cL_law 456 = .ok (.aload_n 3, 1) := by decide +kernel
theorem dL_law_457 : decode cL_law 457 = .ok (.iload 13, 2) := by decide +kernel
theorem dL_law_459 : decode cL_law 459 = .ok (.iconst 1, 1) := by decide +kernel
theorem dL_law_460 : decode cL_law 460 = .ok (.invokevirtual 141, 3) := by decide +kernel
theorem dL_law_463 : decode cL_law 463 = .ok (.iload 12, 2) := by decide +kernel
theorem dL_law_465 : decode cL_law 465 = .ok (.if_icmp .ne 40, 3) := by decide +kernel
theorem dL_law_468 : decode cL_law 468 = .ok (.aload_n 3, 1) := by decide +kernel
theorem dL_law_469 : decode cL_law 469 = .ok (.iload 13, 2) := by decide +kernel
theorem dL_law_471 : decode cL_law 471 = .ok (.iconst 5, 1) := by decide +kernel
theorem dL_law_472 : decode cL_law 472 = .ok (.iload 12, 2) := by decide +kernel
theorem dL_law_474 : decode cL_law 474 = .ok (.isub, 1) := by decide +kernel
theorem dL_law_475 : decode cL_law 475 = .ok (.invokevirtual 141, 3) := by decide +kernel
theorem dL_law_478 : decode cL_law 478 = .ok (.ifCond .eq 27, 3) := by decide +kernel
theorem dL_law_481 : decode cL_law 481 = .ok (.aload_n 3, 1) := by decide +kernel
theorem dL_law_482 : decode cL_law 482 = .ok (.iload 13, 2) := by decide +kernel
theorem dL_law_484 : decode cL_law 484 = .ok (.iconst 4, 1) := by decide +kernel
theorem dL_law_485 : decode cL_law 485 = .ok (.iload 12, 2) := by decide +kernel
theorem dL_law_487 : decode cL_law 487 = .ok (.iadd, 1) := by decide +kernel
theorem dL_law_488 : decode cL_law 488 = .ok (.invokevirtual 141, 3) := by decide +kernel
theorem dL_law_491 : decode cL_law 491 = .ok (.ifCond .ne 14, 3) := by decide +kernel
theorem dL_law_494 : decode cL_law 494 = .ok (.aload_n 3, 1) := by decide +kernel
theorem dL_law_495 : decode cL_law 495 = .ok (.iload 13, 2) := by decide +kernel
theorem dL_law_497 : decode cL_law 497 = .ok (.iconst 0, 1) := by decide +kernel
theorem dL_law_498 : decode cL_law 498 = .ok (.invokevirtual 141, 3) := by decide +kernel
theorem dL_law_501 : decode cL_law 501 = .ok (.iconst 1, 1) := by decide +kernel
theorem dL_law_502 : decode cL_law 502 = .ok (.if_icmp .ne 5, 3) := by decide +kernel
theorem dL_law_505 : decode cL_law 505 = .ok (.iconst 0, 1) := by decide +kernel
theorem dL_law_506 : decode cL_law 506 = .ok (.ireturn, 1) := by decide +kernel
theorem dL_law_507 : decode cL_law 507 = .ok (.iinc 12 1, 3) := by decide +kernel
theorem dL_law_510 : decode cL_law 510 = .ok (.goto (-73), 3) := by decide +kernel
theorem dL_law_513 : decode cL_law 513 = .ok (.iload 6, 2) := by decide +kernel
theorem dL_law_515 : decode cL_law 515 = .ok (.ifCond .ne 6, 3) := by decide +kernel
theorem dL_law_518 : decode cL_law 518 = .ok (.goto 385, 3) := by decide +kernel
theorem dL_law_521 : decode cL_law 521 = .ok (.aload_n 3, 1) := by decide +kernel
theorem dL_law_522 : decode cL_law 522 = .ok (.iload 5, 2) := by decide +kernel
theorem dL_law_524 : decode cL_law 524 = .ok (.iload 6, 2) := by decide +kernel
theorem dL_law_526 : decode cL_law 526 = .ok (.invokestatic 80, 3) := by decide +kernel
theorem dL_law_529 : decode cL_law 529 = .ok (.invokevirtual 143, 3) := by decide +kernel
theorem dL_law_532 : decode cL_law 532 = .ok (.istore 12, 2) := by decide +kernel
theorem dL_law_534 : decode cL_law 534 = .ok (.iload 12, 2) := by decide +kernel
theorem dL_law_536 : decode cL_law 536 = .ok (.bipush 91, 2) := by decide +kernel
theorem dL_law_538 : decode cL_law 538 = .ok (.idiv, 1) := by decide +kernel
theorem dL_law_539 : decode cL_law 539 = .ok (.istore 13, 2) := by decide +kernel
theorem dL_law_541 : decode cL_law 541 = .ok (.iload 12, 2) := by decide +kernel
theorem dL_law_543 : decode cL_law 543 = .ok (.bipush 91, 2) := by decide +kernel
theorem dL_law_545 : decode cL_law 545 = .ok (.irem, 1) := by decide +kernel
theorem dL_law_546 : decode cL_law 546 = .ok (.istore 14, 2) := by decide +kernel
theorem dL_law_548 : decode cL_law 548 = .ok (.aload_n 3, 1) := by decide +kernel
theorem dL_law_549 : decode cL_law 549 = .ok (.invokevirtual 149, 3) := by decide +kernel
theorem dL_law_552 : decode cL_law 552 = .ok (.lstore 15, 2) := by decide +kernel
theorem dL_law_554 : decode cL_law 554 = .ok (.aload_n 3, 1) := by decide +kernel
theorem dL_law_555 : decode cL_law 555 = .ok (.iload 13, 2) := by decide +kernel
theorem dL_law_557 : decode cL_law 557 = .ok (.iconst 0, 1) := by decide +kernel
theorem dL_law_558 : decode cL_law 558 = .ok (.invokevirtual 141, 3) := by decide +kernel
theorem dL_law_561 : decode cL_law 561 = .ok (.istore 17, 2) := by decide +kernel
theorem dL_law_563 : decode cL_law 563 = .ok (.aload_n 3, 1) := by decide +kernel
theorem dL_law_564 : decode cL_law 564 = .ok (.iconst 0, 1) := by decide +kernel
theorem dL_law_565 : decode cL_law 565 = .ok (.invokevirtual 138, 3) := by decide +kernel
theorem dL_law_568 : decode cL_law 568 = .ok (.istore 18, 2) := by decide +kernel
theorem dL_law_570 : decode cL_law 570 = .ok (.iconst 2, 1) := by decide +kernel
theorem dL_law_571 : decode cL_law 571 = .ok (.newarray .int, 2) := by decide +kernel
theorem dL_law_573 : decode cL_law 573 = .ok (.dup, 1) := by decide +kernel
theorem dL_law_574 : decode cL_law 574 = .ok (.iconst 0, 1) := by decide +kernel
theorem dL_law_575 : decode cL_law 575 = .ok (.aload_n 3, 1) := by decide +kernel
theorem dL_law_576 : decode cL_law 576 = .ok (.iconst 4, 1) := by decide +kernel
theorem dL_law_577 : decode cL_law 577 = .ok (.invokevirtual 138, 3) := by decide +kernel
theorem dL_law_580 : decode cL_law 580 = .ok (.iastore, 1) := by decide +kernel
theorem dL_law_581 : decode cL_law 581 = .ok (.dup, 1) := by decide +kernel
theorem dL_law_582 : decode cL_law 582 = .ok (.iconst 1, 1) := by decide +kernel
theorem dL_law_583 : decode cL_law 583 = .ok (.aload_n 3, 1) := by decide +kernel
theorem dL_law_584 : decode cL_law 584 = .ok (.iconst 5, 1) := by decide +kernel
theorem dL_law_585 : decode cL_law 585 = .ok (.invokevirtual 138, 3) := by decide +kernel
theorem dL_law_588 : decode cL_law 588 = .ok (.iastore, 1) := by decide +kernel
theorem dL_law_589 : decode cL_law 589 = .ok (.astore 19, 2) := by decide +kernel
theorem dL_law_591 : decode cL_law 591 = .ok (.aload_n 3, 1) := by decide +kernel
theorem dL_law_592 : decode cL_law 592 = .ok (.iload 13, 2) := by decide +kernel
theorem dL_law_594 : decode cL_law 594 = .ok (.iload 14, 2) := by decide +kernel
theorem dL_law_596 : decode cL_law 596 = .ok (.invokevirtual 153, 3) := by decide +kernel
theorem dL_law_599 : decode cL_law 599 = .ok (.ifCond .ne 5, 3) := by decide +kernel
theorem dL_law_602 : decode cL_law 602 = .ok (.iconst 0, 1) := by decide +kernel
theorem dL_law_603 : decode cL_law 603 = .ok (.ireturn, 1) := by decide +kernel
theorem dL_law_604 : decode cL_law 604 = .ok (.iconst 2, 1) := by decide +kernel
theorem dL_law_605 : decode cL_law 605 = .ok (.iload 5, 2) := by decide +kernel
theorem dL_law_607 : decode cL_law 607 = .ok (.iconst 4, 1) := by decide +kernel
theorem dL_law_608 : decode cL_law 608 = .ok (.ishr, 1) := by decide +kernel
theorem dL_law_609 : decode cL_law 609 = .ok (.iconst 4, 1) := by decide +kernel
theorem dL_law_610 : decode cL_law 610 = .ok (.invokestatic 80, 3) := by decide +kernel
theorem dL_law_613 : decode cL_law 613 = .ok (.iadd, 1) := by decide +kernel
theorem dL_law_614 : decode cL_law 614 = .ok (.istore 20, 2) := by decide +kernel
theorem dL_law_616 : decode cL_law 616 = .ok (.aload_n 3, 1) := by decide +kernel
theorem dL_law_617 : decode cL_law 617 = .ok (.iload 13, 2) := by decide +kernel
theorem dL_law_619 : decode cL_law 619 = .ok (.iload 14, 2) := by decide +kernel
theorem dL_law_621 : decode cL_law 621 = .ok (.iload 20, 2) := by decide +kernel
theorem dL_law_623 : decode cL_law 623 = .ok (.invokevirtual 122, 3) := by decide +kernel
theorem dL_law_626 : decode cL_law 626 = .ok (.istore 21, 2) := by decide +kernel
theorem dL_law_628 : decode cL_law 628 = .ok (.iload 17, 2) := by decide +kernel
theorem dL_law_630 : decode cL_law 630 = .ok (.aload_n 3, 1) := by decide +kernel
theorem dL_law_631 : decode cL_law 631 = .ok (.iload 14, 2) := by decide +kernel
theorem dL_law_633 : decode cL_law 633 = .ok (.iconst 0, 1) := by decide +kernel
theorem dL_law_634 : decode cL_law 634 = .ok (.invokevirtual 141, 3) := by decide +kernel
theorem dL_law_637 : decode cL_law 637 = .ok (.if_icmp .eq 7, 3) := by decide +kernel
theorem dL_law_640 : decode cL_law 640 = .ok (.iconst 1, 1) := by decide +kernel
theorem dL_law_641 : decode cL_law 641 = .ok (.goto 4, 3) := by decide +kernel
theorem dL_law_644 : decode cL_law 644 = .ok (.iconst 0, 1) := by decide +kernel
theorem dL_law_645 : decode cL_law 645 = .ok (.istore 22, 2) := by decide +kernel
theorem dL_law_647 : decode cL_law 647 = .ok (.iconst 2, 1) := by decide +kernel
theorem dL_law_648 : decode cL_law 648 = .ok (.newarray .int, 2) := by decide +kernel
theorem dL_law_650 : decode cL_law 650 = .ok (.dup, 1) := by decide +kernel
theorem dL_law_651 : decode cL_law 651 = .ok (.iconst 0, 1) := by decide +kernel
theorem dL_law_652 : decode cL_law 652 = .ok (.aload_n 3, 1) := by decide +kernel
theorem dL_law_653 : decode cL_law 653 = .ok (.iconst 4, 1) := by decide +kernel
theorem dL_law_654 : decode cL_law 654 = .ok (.invokevirtual 138, 3) := by decide +kernel
theorem dL_law_657 : decode cL_law 657 = .ok (.iastore, 1) := by decide +kernel
theorem dL_law_658 : decode cL_law 658 = .ok (.dup, 1) := by decide +kernel
theorem dL_law_659 : decode cL_law 659 = .ok (.iconst 1, 1) := by decide +kernel
theorem dL_law_660 : decode cL_law 660 = .ok (.aload_n 3, 1) := by decide +kernel
theorem dL_law_661 : decode cL_law 661 = .ok (.iconst 5, 1) := by decide +kernel
theorem dL_law_662 : decode cL_law 662 = .ok (.invokevirtual 138, 3) := by decide +kernel
theorem dL_law_665 : decode cL_law 665 = .ok (.iastore, 1) := by decide +kernel
theorem dL_law_666 : decode cL_law 666 = .ok (.astore 23, 2) := by decide +kernel
theorem dL_law_668 : decode cL_law 668 = .ok (.aload_n 3, 1) := by decide +kernel
theorem dL_law_669 : decode cL_law 669 = .ok (.iconst 1, 1) := by decide +kernel
theorem dL_law_670 : decode cL_law 670 = .ok (.invokevirtual 138, 3) := by decide +kernel
theorem dL_law_673 : decode cL_law 673 = .ok (.iconst 1, 1) := by decide +kernel
theorem dL_law_674 : decode cL_law 674 = .ok (.iload 7, 2) := by decide +kernel
theorem dL_law_676 : decode cL_law 676 = .ok (.isub, 1) := by decide +kernel
theorem dL_law_677 : decode cL_law 677 = .ok (.if_icmp .ne 114, 3) := by decide +kernel
theorem dL_law_680 : decode cL_law 680 = .ok (.aload_n 3, 1) := by decide +kernel
theorem dL_law_681 : decode cL_law 681 = .ok (.iconst 0, 1) := by decide +kernel
theorem dL_law_682 : decode cL_law 682 = .ok (.invokevirtual 138, 3) := by decide +kernel
theorem dL_law_685 : decode cL_law 685 = .ok (.iload 18, 2) := by decide +kernel
theorem dL_law_687 : decode cL_law 687 = .ok (.iconst 1, 1) := by decide +kernel
theorem dL_law_688 : decode cL_law 688 = .ok (.iadd, 1) := by decide +kernel
theorem dL_law_689 : decode cL_law 689 = .ok (.if_icmp .ne 102, 3) := by decide +kernel
theorem dL_law_692 : decode cL_law 692 = .ok (.aload_n 3, 1) := by decide +kernel
theorem dL_law_693 : decode cL_law 693 = .ok (.iload 13, 2) := by decide +kernel
theorem dL_law_695 : decode cL_law 695 = .ok (.iconst 0, 1) := by decide +kernel
theorem dL_law_696 : decode cL_law 696 = .ok (.invokevirtual 141, 3) := by decide +kernel
theorem dL_law_699 : decode cL_law 699 = .ok (.ifCond .ne 92, 3) := by decide +kernel
theorem dL_law_702 : decode cL_law 702 = .ok (.aload_n 3, 1) := by decide +kernel
theorem dL_law_703 : decode cL_law 703 = .ok (.iload 14, 2) := by decide +kernel
theorem dL_law_705 : decode cL_law 705 = .ok (.iconst 1, 1) := by decide +kernel
theorem dL_law_706 : decode cL_law 706 = .ok (.invokevirtual 141, 3) := by decide +kernel
theorem dL_law_709 : decode cL_law 709 = .ok (.iload 7, 2) := by decide +kernel
theorem dL_law_711 : decode cL_law 711 = .ok (.if_icmp .ne 80, 3) := by decide +kernel
theorem dL_law_714 : decode cL_law 714 = .ok (.iload 22, 2) := by decide +kernel
theorem dL_law_716 : decode cL_law 716 = .ok (.ifCond .eq 22, 3) := by decide +kernel
theorem dL_law_719 : decode cL_law 719 = .ok (.iload 17, 2) := by decide +kernel
theorem dL_law_721 : decode cL_law 721 = .ok (.bipush 6, 2) := by decide +kernel
theorem dL_law_723 : decode cL_law 723 = .ok (.if_icmp .ne 68, 3) := by decide +kernel
theorem dL_law_726 : decode cL_law 726 = .ok (.aload_n 3, 1) := by decide +kernel
theorem dL_law_727 : decode cL_law 727 = .ok (.iload 14, 2) := by decide +kernel
theorem dL_law_729 : decode cL_law 729 = .ok (.iconst 0, 1) := by decide +kernel
theorem dL_law_730 : decode cL_law 730 = .ok (.invokevirtual 141, 3) := by decide +kernel
theorem dL_law_733 : decode cL_law 733 = .ok (.iload 20, 2) := by decide +kernel
theorem dL_law_735 : decode cL_law 735 = .ok (.if_icmp .ne 56, 3) := by decide +kernel
theorem dL_law_738 : decode cL_law 738 = .ok (.aload 23, 2) := by decide +kernel
theorem dL_law_740 : decode cL_law 740 = .ok (.iconst 1, 1) := by decide +kernel
theorem dL_law_741 : decode cL_law 741 = .ok (.iload 7, 2) := by decide +kernel
theorem dL_law_743 : decode cL_law 743 = .ok (.isub, 1) := by decide +kernel
theorem dL_law_744 : decode cL_law 744 = .ok (.iaload, 1) := by decide +kernel
theorem dL_law_745 : decode cL_law 745 = .ok (.aload 19, 2) := by decide +kernel
theorem dL_law_747 : decode cL_law 747 = .ok (.iconst 1, 1) := by decide +kernel
theorem dL_law_748 : decode cL_law 748 = .ok (.iload 7, 2) := by decide +kernel
theorem dL_law_750 : decode cL_law 750 = .ok (.isub, 1) := by decide +kernel
theorem dL_law_751 : decode cL_law 751 = .ok (.iaload, 1) := by decide +kernel
theorem dL_law_752 : decode cL_law 752 = .ok (.iload 21, 2) := by decide +kernel
theorem dL_law_754 : decode cL_law 754 = .ok (.invokestatic 155, 3) := by decide +kernel
theorem dL_law_757 : decode cL_law 757 = .ok (.isub, 1) := by decide +kernel
theorem dL_law_758 : decode cL_law 758 = .ok (.if_icmp .ne 33, 3) := by decide +kernel
theorem dL_law_761 : decode cL_law 761 = .ok (.aload 23, 2) := by decide +kernel
theorem dL_law_763 : decode cL_law 763 = .ok (.iload 7, 2) := by decide +kernel
theorem dL_law_765 : decode cL_law 765 = .ok (.iaload, 1) := by decide +kernel
theorem dL_law_766 : decode cL_law 766 = .ok (.aload 19, 2) := by decide +kernel
theorem dL_law_768 : decode cL_law 768 = .ok (.iload 7, 2) := by decide +kernel
theorem dL_law_770 : decode cL_law 770 = .ok (.iaload, 1) := by decide +kernel
theorem dL_law_771 : decode cL_law 771 = .ok (.iload 22, 2) := by decide +kernel
theorem dL_law_773 : decode cL_law 773 = .ok (.ifCond .eq 13, 3) := by decide +kernel
theorem dL_law_776 : decode cL_law 776 = .ok (.iload 20, 2) := by decide +kernel
theorem dL_law_778 : decode cL_law 778 = .ok (.invokestatic 155, 3) := by decide +kernel
theorem dL_law_781 : decode cL_law 781 = .ok (.iconst 1, 1) := by decide +kernel
theorem dL_law_782 : decode cL_law 782 = .ok (.isub, 1) := by decide +kernel
theorem dL_law_783 : decode cL_law 783 = .ok (.goto 4, 3) := by decide +kernel
theorem dL_law_786 : decode cL_law 786 = .ok (.iconst 0, 1) := by decide +kernel
theorem dL_law_787 : decode cL_law 787 = .ok (.iadd, 1) := by decide +kernel
theorem dL_law_788 : decode cL_law 788 = .ok (.if_icmp .eq 5, 3) := by decide +kernel
theorem dL_law_791 : decode cL_law 791 = .ok (.iconst 0, 1) := by decide +kernel
theorem dL_law_792 : decode cL_law 792 = .ok (.ireturn, 1) := by decide +kernel
theorem dL_law_793 : decode cL_law 793 = .ok (.iload 17, 2) := by decide +kernel
theorem dL_law_795 : decode cL_law 795 = .ok (.iconst 1, 1) := by decide +kernel
theorem dL_law_796 : decode cL_law 796 = .ok (.if_icmp .ne 8, 3) := by decide +kernel
theorem dL_law_799 : decode cL_law 799 = .ok (.iload 14, 2) := by decide +kernel
theorem dL_law_801 : decode cL_law 801 = .ok (.goto 5, 3) := by decide +kernel
theorem dL_law_804 : decode cL_law 804 = .ok (.iload 10, 2) := by decide +kernel
theorem dL_law_806 : decode cL_law 806 = .ok (.istore 24, 2) := by decide +kernel
theorem dL_law_808 : decode cL_law 808 = .ok (.aload_n 3, 1) := by decide +kernel
theorem dL_law_809 : decode cL_law 809 = .ok (.iload 24, 2) := by decide +kernel
theorem dL_law_811 : decode cL_law 811 = .ok (.iconst 0, 1) := by decide +kernel
theorem dL_law_812 : decode cL_law 812 = .ok (.invokevirtual 141, 3) := by decide +kernel
theorem dL_law_815 : decode cL_law 815 = .ok (.iconst 1, 1) := by decide +kernel
theorem dL_law_816 : decode cL_law 816 = .ok (.if_icmp .ne 50, 3) := by decide +kernel
theorem dL_law_819 : decode cL_law 819 = .ok (.aload_n 3, 1) := by decide +kernel
theorem dL_law_820 : decode cL_law 820 = .ok (.iload 24, 2) := by decide +kernel
theorem dL_law_822 : decode cL_law 822 = .ok (.iconst 5, 1) := by decide +kernel
theorem dL_law_823 : decode cL_law 823 = .ok (.iload 7, 2) := by decide +kernel
theorem dL_law_825 : decode cL_law 825 = .ok (.isub, 1) := by decide +kernel
theorem dL_law_826 : decode cL_law 826 = .ok (.invokevirtual 141, 3) := by decide +kernel
theorem dL_law_829 : decode cL_law 829 = .ok (.ifCond .ne 37, 3) := by decide +kernel
theorem dL_law_832 : decode cL_law 832 = .ok (.iload 17, 2) := by decide +kernel
theorem dL_law_834 : decode cL_law 834 = .ok (.bipush 6, 2) := by decide +kernel
theorem dL_law_836 : decode cL_law 836 = .ok (.if_icmp .eq 8, 3) := by decide +kernel
theorem dL_law_839 : decode cL_law 839 = .ok (.iload 21, 2) := by decide +kernel
theorem dL_law_841 : decode cL_law 841 = .ok (.ifCond .le 7, 3) := by decide +kernel
theorem dL_law_844 : decode cL_law 844 = .ok (.iconst 1, 1) := by decide +kernel
theorem dL_law_845 : decode cL_law 845 = .ok (.goto 4, 3) := by decide +kernel
theorem dL_law_848 : decode cL_law 848 = .ok (.iconst 0, 1) := by decide +kernel
theorem dL_law_849 : decode cL_law 849 = .ok (.aload_n 3, 1) := by decide +kernel
theorem dL_law_850 : decode cL_law 850 = .ok (.bipush 6, 2) := by decide +kernel
theorem dL_law_852 : decode cL_law 852 = .ok (.invokevirtual 138, 3) := by decide +kernel
theorem dL_law_855 : decode cL_law 855 = .ok (.ifCond .ne 7, 3) := by decide +kernel
theorem dL_law_858 : decode cL_law 858 = .ok (.iconst 1, 1) := by decide +kernel
theorem dL_law_859 : decode cL_law 859 = .ok (.goto 4, 3) := by decide +kernel
theorem dL_law_862 : decode cL_law 862 = .ok (.iconst 0, 1) := by decide +kernel
theorem dL_law_863 : decode cL_law 863 = .ok (.if_icmp .eq 5, 3) := by decide +kernel
theorem dL_law_866 : decode cL_law 866 = .ok (.iconst 0, 1) := by decide +kernel
theorem dL_law_867 : decode cL_law 867 = .ok (.ireturn, 1) := by decide +kernel
theorem dL_law_868 : decode cL_law 868 = .ok (.aload_n 3, 1) := by decide +kernel
theorem dL_law_869 : decode cL_law 869 = .ok (.invokevirtual 158, 3) := by decide +kernel
theorem dL_law_872 : decode cL_law 872 = .ok (.iload 18, 2) := by decide +kernel
theorem dL_law_874 : decode cL_law 874 = .ok (.if_icmp .ne 13, 3) := by decide +kernel
theorem dL_law_877 : decode cL_law 877 = .ok (.aload_n 3, 1) := by decide +kernel
theorem dL_law_878 : decode cL_law 878 = .ok (.invokevirtual 149, 3) := by decide +kernel
theorem dL_law_881 : decode cL_law 881 = .ok (.lload 15, 2) := by decide +kernel
theorem dL_law_883 : decode cL_law 883 = .ok (.lcmp, 1) := by decide +kernel
theorem dL_law_884 : decode cL_law 884 = .ok (.ifCond .eq 5, 3) := by decide +kernel
theorem dL_law_887 : decode cL_law 887 = .ok (.iconst 0, 1) := by decide +kernel
theorem dL_law_888 : decode cL_law 888 = .ok (.ireturn, 1) := by decide +kernel
theorem dL_law_889 : decode cL_law 889 = .ok (.aload_n 3, 1) := by decide +kernel
theorem dL_law_890 : decode cL_law 890 = .ok (.aload_n 2, 1) := by decide +kernel
theorem dL_law_891 : decode cL_law 891 = .ok (.iload 5, 2) := by decide +kernel
theorem dL_law_893 : decode cL_law 893 = .ok (.iconst 2, 1) := by decide +kernel
theorem dL_law_894 : decode cL_law 894 = .ok (.ishr, 1) := by decide +kernel
theorem dL_law_895 : decode cL_law 895 = .ok (.invokestatic 161, 3) := by decide +kernel
theorem dL_law_898 : decode cL_law 898 = .ok (.ifCond .ne 5, 3) := by decide +kernel
theorem dL_law_901 : decode cL_law 901 = .ok (.iconst 0, 1) := by decide +kernel
theorem dL_law_902 : decode cL_law 902 = .ok (.ireturn, 1) := by decide +kernel
theorem dL_law_903 : decode cL_law 903 = .ok (.iinc 4 1, 3) := by decide +kernel
theorem dL_law_906 : decode cL_law 906 = .ok (.goto (-868), 3) := by decide +kernel
theorem dL_law_909 : decode cL_law 909 = .ok (.aload_n 2, 1) := by decide +kernel
theorem dL_law_910 : decode cL_law 910 = .ok (.aload_n 3, 1) := by decide +kernel
theorem dL_law_911 : decode cL_law 911 = .ok (.invokevirtual 165, 3) := by decide +kernel
theorem dL_law_914 : decode cL_law 914 = .ok (.ireturn, 1) := by decide +kernel
